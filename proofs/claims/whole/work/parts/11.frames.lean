theorem kc_bipush_30 : (Int8.ofInt (30)).toInt32 = 30 := by decide
theorem kl_0 : (0 : Int32).toNatClampNeg = 0 := by decide
theorem kl_1 : (1 : Int32).toNatClampNeg = 1 := by decide
theorem kc_iconst_4 : Int32.ofInt (4) = 4 := by decide
theorem kc_iconst_5 : Int32.ofInt (5) = 5 := by decide
theorem kc_sipush_200 : (Int16.ofInt (200)).toInt32 = 200 := by decide
theorem dX1_clear_0 : decode cX1_clear 0 = .ok (.aload_n 0, 1) := by decide +kernel
theorem dX1_clear_1 : decode cX1_clear 1 = .ok (.iconst 0, 1) := by decide +kernel
theorem dX1_clear_2 : decode cX1_clear 2 = .ok (.putfield 51, 3) := by decide +kernel
theorem dX1_clear_5 : decode cX1_clear 5 = .ok (.aload_n 0, 1) := by decide +kernel
theorem dX1_clear_6 : decode cX1_clear 6 = .ok (.iconst 0, 1) := by decide +kernel
theorem dX1_clear_7 : decode cX1_clear 7 = .ok (.putfield 55, 3) := by decide +kernel
theorem dX1_clear_10 : decode cX1_clear 10 = .ok (.iconst 0, 1) := by decide +kernel
theorem dX1_clear_11 : decode cX1_clear 11 = .ok (.istore_n 1, 1) := by decide +kernel
theorem dX1_clear_12 : decode cX1_clear 12 = .ok (.iload_n 1, 1) := by decide +kernel
theorem dX1_clear_13 : decode cX1_clear 13 = .ok (.iconst 5, 1) := by decide +kernel
theorem dX1_clear_14 : decode cX1_clear 14 = .ok (.if_icmp .ge 16, 3) := by decide +kernel
theorem dX1_clear_17 : decode cX1_clear 17 = .ok (.aload_n 0, 1) := by decide +kernel
theorem dX1_clear_18 : decode cX1_clear 18 = .ok (.getfield 48, 3) := by decide +kernel
theorem dX1_clear_21 : decode cX1_clear 21 = .ok (.iload_n 1, 1) := by decide +kernel
theorem dX1_clear_22 : decode cX1_clear 22 = .ok (.iconst 0, 1) := by decide +kernel
theorem dX1_clear_23 : decode cX1_clear 23 = .ok (.iastore, 1) := by decide +kernel
theorem dX1_clear_24 : decode cX1_clear 24 = .ok (.iinc 1 1, 3) := by decide +kernel
theorem dX1_clear_27 : decode cX1_clear 27 = .ok (.goto (-15), 3) := by decide +kernel
theorem dX1_clear_30 : decode cX1_clear 30 = .ok (.return_, 1) := by decide +kernel
theorem dX1_copyFrom_0 : decode cX1_copyFrom 0 = .ok (.aload_n 0, 1) := by decide +kernel
theorem dX1_copyFrom_1 : decode cX1_copyFrom 1 = .ok (.aload_n 1, 1) := by decide +kernel
theorem dX1_copyFrom_2 : decode cX1_copyFrom 2 = .ok (.getfield 51, 3) := by decide +kernel
theorem dX1_copyFrom_5 : decode cX1_copyFrom 5 = .ok (.putfield 51, 3) := by decide +kernel
theorem dX1_copyFrom_8 : decode cX1_copyFrom 8 = .ok (.aload_n 0, 1) := by decide +kernel
theorem dX1_copyFrom_9 : decode cX1_copyFrom 9 = .ok (.aload_n 1, 1) := by decide +kernel
theorem dX1_copyFrom_10 : decode cX1_copyFrom 10 = .ok (.getfield 55, 3) := by decide +kernel
theorem dX1_copyFrom_13 : decode cX1_copyFrom 13 = .ok (.putfield 55, 3) := by decide +kernel
theorem dX1_copyFrom_16 : decode cX1_copyFrom 16 = .ok (.aload_n 1, 1) := by decide +kernel
theorem dX1_copyFrom_17 : decode cX1_copyFrom 17 = .ok (.getfield 9, 3) := by decide +kernel
theorem dX1_copyFrom_20 : decode cX1_copyFrom 20 = .ok (.iconst 0, 1) := by decide +kernel
theorem dX1_copyFrom_21 : decode cX1_copyFrom 21 = .ok (.aload_n 0, 1) := by decide +kernel
theorem dX1_copyFrom_22 : decode cX1_copyFrom 22 = .ok (.getfield 9, 3) := by decide +kernel
theorem dX1_copyFrom_25 : decode cX1_copyFrom 25 = .ok (.iconst 0, 1) := by decide +kernel
theorem dX1_copyFrom_26 : decode cX1_copyFrom 26 = .ok (.aload_n 0, 1) := by decide +kernel
theorem dX1_copyFrom_27 : decode cX1_copyFrom 27 = .ok (.getfield 51, 3) := by decide +kernel
theorem dX1_copyFrom_30 : decode cX1_copyFrom 30 = .ok (.invokestatic 58, 3) := by decide +kernel
theorem dX1_copyFrom_33 : decode cX1_copyFrom 33 = .ok (.aload_n 1, 1) := by decide +kernel
theorem dX1_copyFrom_34 : decode cX1_copyFrom 34 = .ok (.getfield 15, 3) := by decide +kernel
theorem dX1_copyFrom_37 : decode cX1_copyFrom 37 = .ok (.iconst 0, 1) := by decide +kernel
theorem dX1_copyFrom_38 : decode cX1_copyFrom 38 = .ok (.aload_n 0, 1) := by decide +kernel
theorem dX1_copyFrom_39 : decode cX1_copyFrom 39 = .ok (.getfield 15, 3) := by decide +kernel
theorem dX1_copyFrom_42 : decode cX1_copyFrom 42 = .ok (.iconst 0, 1) := by decide +kernel
theorem dX1_copyFrom_43 : decode cX1_copyFrom 43 = .ok (.aload_n 0, 1) := by decide +kernel
theorem dX1_copyFrom_44 : decode cX1_copyFrom 44 = .ok (.getfield 51, 3) := by decide +kernel
theorem dX1_copyFrom_47 : decode cX1_copyFrom 47 = .ok (.invokestatic 58, 3) := by decide +kernel
theorem dX1_copyFrom_50 : decode cX1_copyFrom 50 = .ok (.aload_n 1, 1) := by decide +kernel
theorem dX1_copyFrom_51 : decode cX1_copyFrom 51 = .ok (.getfield 18, 3) := by decide +kernel
theorem dX1_copyFrom_54 : decode cX1_copyFrom 54 = .ok (.iconst 0, 1) := by decide +kernel
theorem dX1_copyFrom_55 : decode cX1_copyFrom 55 = .ok (.aload_n 0, 1) := by decide +kernel
theorem dX1_copyFrom_56 : decode cX1_copyFrom 56 = .ok (.getfield 18, 3) := by decide +kernel
theorem dX1_copyFrom_59 : decode cX1_copyFrom 59 = .ok (.iconst 0, 1) := by decide +kernel
theorem dX1_copyFrom_60 : decode cX1_copyFrom 60 = .ok (.aload_n 0, 1) := by decide +kernel
theorem dX1_copyFrom_61 : decode cX1_copyFrom 61 = .ok (.getfield 51, 3) := by decide +kernel
theorem dX1_copyFrom_64 : decode cX1_copyFrom 64 = .ok (.invokestatic 58, 3) := by decide +kernel
theorem dX1_copyFrom_67 : decode cX1_copyFrom 67 = .ok (.aload_n 1, 1) := by decide +kernel
theorem dX1_copyFrom_68 : decode cX1_copyFrom 68 = .ok (.getfield 21, 3) := by decide +kernel
theorem dX1_copyFrom_71 : decode cX1_copyFrom 71 = .ok (.iconst 0, 1) := by decide +kernel
theorem dX1_copyFrom_72 : decode cX1_copyFrom 72 = .ok (.aload_n 0, 1) := by decide +kernel
theorem dX1_copyFrom_73 : decode cX1_copyFrom 73 = .ok (.getfield 21, 3) := by decide +kernel
theorem dX1_copyFrom_76 : decode cX1_copyFrom 76 = .ok (.iconst 0, 1) := by decide +kernel
theorem dX1_copyFrom_77 : decode cX1_copyFrom 77 = .ok (.aload_n 0, 1) := by decide +kernel
theorem dX1_copyFrom_78 : decode cX1_copyFrom 78 = .ok (.getfield 51, 3) := by decide +kernel
theorem dX1_copyFrom_81 : decode cX1_copyFrom 81 = .ok (.invokestatic 58, 3) := by decide +kernel
theorem dX1_copyFrom_84 : decode cX1_copyFrom 84 = .ok (.aload_n 1, 1) := by decide +kernel
theorem dX1_copyFrom_85 : decode cX1_copyFrom 85 = .ok (.getfield 24, 3) := by decide +kernel
theorem dX1_copyFrom_88 : decode cX1_copyFrom 88 = .ok (.iconst 0, 1) := by decide +kernel
theorem dX1_copyFrom_89 : decode cX1_copyFrom 89 = .ok (.aload_n 0, 1) := by decide +kernel
theorem dX1_copyFrom_90 : decode cX1_copyFrom 90 = .ok (.getfield 24, 3) := by decide +kernel
theorem dX1_copyFrom_93 : decode cX1_copyFrom 93 = .ok (.iconst 0, 1) := by decide +kernel
theorem dX1_copyFrom_94 : decode cX1_copyFrom 94 = .ok (.aload_n 0, 1) := by decide +kernel
theorem dX1_copyFrom_95 : decode cX1_copyFrom 95 = .ok (.getfield 51, 3) := by decide +kernel
theorem dX1_copyFrom_98 : decode cX1_copyFrom 98 = .ok (.invokestatic 58, 3) := by decide +kernel
theorem dX1_copyFrom_101 : decode cX1_copyFrom 101 = .ok (.aload_n 1, 1) := by decide +kernel
theorem dX1_copyFrom_102 : decode cX1_copyFrom 102 = .ok (.getfield 27, 3) := by decide +kernel
theorem dX1_copyFrom_105 : decode cX1_copyFrom 105 = .ok (.iconst 0, 1) := by decide +kernel
theorem dX1_copyFrom_106 : decode cX1_copyFrom 106 = .ok (.aload_n 0, 1) := by decide +kernel
theorem dX1_copyFrom_107 : decode cX1_copyFrom 107 = .ok (.getfield 27, 3) := by decide +kernel
theorem dX1_copyFrom_110 : decode cX1_copyFrom 110 = .ok (.iconst 0, 1) := by decide +kernel
theorem dX1_copyFrom_111 : decode cX1_copyFrom 111 = .ok (.aload_n 0, 1) := by decide +kernel
theorem dX1_copyFrom_112 : decode cX1_copyFrom 112 = .ok (.getfield 51, 3) := by decide +kernel
theorem dX1_copyFrom_115 : decode cX1_copyFrom 115 = .ok (.invokestatic 58, 3) := by decide +kernel
theorem dX1_copyFrom_118 : decode cX1_copyFrom 118 = .ok (.aload_n 1, 1) := by decide +kernel
theorem dX1_copyFrom_119 : decode cX1_copyFrom 119 = .ok (.getfield 30, 3) := by decide +kernel
theorem dX1_copyFrom_122 : decode cX1_copyFrom 122 = .ok (.iconst 0, 1) := by decide +kernel
theorem dX1_copyFrom_123 : decode cX1_copyFrom 123 = .ok (.aload_n 0, 1) := by decide +kernel
theorem dX1_copyFrom_124 : decode cX1_copyFrom 124 = .ok (.getfield 30, 3) := by decide +kernel
theorem dX1_copyFrom_127 : decode cX1_copyFrom 127 = .ok (.iconst 0, 1) := by decide +kernel
theorem dX1_copyFrom_128 : decode cX1_copyFrom 128 = .ok (.aload_n 0, 1) := by decide +kernel
theorem dX1_copyFrom_129 : decode cX1_copyFrom 129 = .ok (.getfield 51, 3) := by decide +kernel
theorem dX1_copyFrom_132 : decode cX1_copyFrom 132 = .ok (.invokestatic 58, 3) := by decide +kernel
theorem dX1_copyFrom_135 : decode cX1_copyFrom 135 = .ok (.aload_n 1, 1) := by decide +kernel
theorem dX1_copyFrom_136 : decode cX1_copyFrom 136 = .ok (.getfield 33, 3) := by decide +kernel
theorem dX1_copyFrom_139 : decode cX1_copyFrom 139 = .ok (.iconst 0, 1) := by decide +kernel
theorem dX1_copyFrom_140 : decode cX1_copyFrom 140 = .ok (.aload_n 0, 1) := by decide +kernel
theorem dX1_copyFrom_141 : decode cX1_copyFrom 141 = .ok (.getfield 33, 3) := by decide +kernel
theorem dX1_copyFrom_144 : decode cX1_copyFrom 144 = .ok (.iconst 0, 1) := by decide +kernel
theorem dX1_copyFrom_145 : decode cX1_copyFrom 145 = .ok (.aload_n 0, 1) := by decide +kernel
theorem dX1_copyFrom_146 : decode cX1_copyFrom 146 = .ok (.getfield 51, 3) := by decide +kernel
theorem dX1_copyFrom_149 : decode cX1_copyFrom 149 = .ok (.invokestatic 58, 3) := by decide +kernel
theorem dX1_copyFrom_152 : decode cX1_copyFrom 152 = .ok (.aload_n 1, 1) := by decide +kernel
theorem dX1_copyFrom_153 : decode cX1_copyFrom 153 = .ok (.getfield 36, 3) := by decide +kernel
theorem dX1_copyFrom_156 : decode cX1_copyFrom 156 = .ok (.iconst 0, 1) := by decide +kernel
theorem dX1_copyFrom_157 : decode cX1_copyFrom 157 = .ok (.aload_n 0, 1) := by decide +kernel
theorem dX1_copyFrom_158 : decode cX1_copyFrom 158 = .ok (.getfield 36, 3) := by decide +kernel
theorem dX1_copyFrom_161 : decode cX1_copyFrom 161 = .ok (.iconst 0, 1) := by decide +kernel
theorem dX1_copyFrom_162 : decode cX1_copyFrom 162 = .ok (.aload_n 0, 1) := by decide +kernel
theorem dX1_copyFrom_163 : decode cX1_copyFrom 163 = .ok (.getfield 51, 3) := by decide +kernel
theorem dX1_copyFrom_166 : decode cX1_copyFrom 166 = .ok (.invokestatic 58, 3) := by decide +kernel
theorem dX1_copyFrom_169 : decode cX1_copyFrom 169 = .ok (.aload_n 1, 1) := by decide +kernel
theorem dX1_copyFrom_170 : decode cX1_copyFrom 170 = .ok (.getfield 39, 3) := by decide +kernel
theorem dX1_copyFrom_173 : decode cX1_copyFrom 173 = .ok (.iconst 0, 1) := by decide +kernel
theorem dX1_copyFrom_174 : decode cX1_copyFrom 174 = .ok (.aload_n 0, 1) := by decide +kernel
theorem dX1_copyFrom_175 : decode cX1_copyFrom 175 = .ok (.getfield 39, 3) := by decide +kernel
theorem dX1_copyFrom_178 : decode cX1_copyFrom 178 = .ok (.iconst 0, 1) := by decide +kernel
theorem dX1_copyFrom_179 : decode cX1_copyFrom 179 = .ok (.aload_n 0, 1) := by decide +kernel
theorem dX1_copyFrom_180 : decode cX1_copyFrom 180 = .ok (.getfield 51, 3) := by decide +kernel
theorem dX1_copyFrom_183 : decode cX1_copyFrom 183 = .ok (.invokestatic 58, 3) := by decide +kernel
theorem dX1_copyFrom_186 : decode cX1_copyFrom 186 = .ok (.aload_n 1, 1) := by decide +kernel
theorem dX1_copyFrom_187 : decode cX1_copyFrom 187 = .ok (.getfield 42, 3) := by decide +kernel
theorem dX1_copyFrom_190 : decode cX1_copyFrom 190 = .ok (.iconst 0, 1) := by decide +kernel
theorem dX1_copyFrom_191 : decode cX1_copyFrom 191 = .ok (.aload_n 0, 1) := by decide +kernel
theorem dX1_copyFrom_192 : decode cX1_copyFrom 192 = .ok (.getfield 42, 3) := by decide +kernel
theorem dX1_copyFrom_195 : decode cX1_copyFrom 195 = .ok (.iconst 0, 1) := by decide +kernel
theorem dX1_copyFrom_196 : decode cX1_copyFrom 196 = .ok (.aload_n 0, 1) := by decide +kernel
theorem dX1_copyFrom_197 : decode cX1_copyFrom 197 = .ok (.getfield 51, 3) := by decide +kernel
theorem dX1_copyFrom_200 : decode cX1_copyFrom 200 = .ok (.invokestatic 58, 3) := by decide +kernel
theorem dX1_copyFrom_203 : decode cX1_copyFrom 203 = .ok (.aload_n 1, 1) := by decide +kernel
theorem dX1_copyFrom_204 : decode cX1_copyFrom 204 = .ok (.getfield 45, 3) := by decide +kernel
theorem dX1_copyFrom_207 : decode cX1_copyFrom 207 = .ok (.iconst 0, 1) := by decide +kernel
theorem dX1_copyFrom_208 : decode cX1_copyFrom 208 = .ok (.aload_n 0, 1) := by decide +kernel
theorem dX1_copyFrom_209 : decode cX1_copyFrom 209 = .ok (.getfield 45, 3) := by decide +kernel
theorem dX1_copyFrom_212 : decode cX1_copyFrom 212 = .ok (.iconst 0, 1) := by decide +kernel
theorem dX1_copyFrom_213 : decode cX1_copyFrom 213 = .ok (.aload_n 0, 1) := by decide +kernel
theorem dX1_copyFrom_214 : decode cX1_copyFrom 214 = .ok (.getfield 55, 3) := by decide +kernel
theorem dX1_copyFrom_217 : decode cX1_copyFrom 217 = .ok (.invokestatic 58, 3) := by decide +kernel
theorem dX1_copyFrom_220 : decode cX1_copyFrom 220 = .ok (.aload_n 1, 1) := by decide +kernel
theorem dX1_copyFrom_221 : decode cX1_copyFrom 221 = .ok (.getfield 48, 3) := by decide +kernel
theorem dX1_copyFrom_224 : decode cX1_copyFrom 224 = .ok (.iconst 0, 1) := by decide +kernel
theorem dX1_copyFrom_225 : decode cX1_copyFrom 225 = .ok (.aload_n 0, 1) := by decide +kernel
theorem dX1_copyFrom_226 : decode cX1_copyFrom 226 = .ok (.getfield 48, 3) := by decide +kernel
theorem dX1_copyFrom_229 : decode cX1_copyFrom 229 = .ok (.iconst 0, 1) := by decide +kernel
theorem dX1_copyFrom_230 : decode cX1_copyFrom 230 = .ok (.iconst 5, 1) := by decide +kernel
theorem dX1_copyFrom_231 : decode cX1_copyFrom 231 = .ok (.invokestatic 58, 3) := by decide +kernel
theorem dX1_copyFrom_234 : decode cX1_copyFrom 234 = .ok (.return_, 1) := by decide +kernel
theorem dX1_has_0 : decode cX1_has 0 = .ok (.iload_n 1, 1) := by decide +kernel
theorem dX1_has_1 : decode cX1_has 1 = .ok (.ifCond .lt 22, 3) := by decide +kernel
theorem dX1_has_4 : decode cX1_has 4 = .ok (.iload_n 1, 1) := by decide +kernel
theorem dX1_has_5 : decode cX1_has 5 = .ok (.aload_n 0, 1) := by decide +kernel
theorem dX1_has_6 : decode cX1_has 6 = .ok (.getfield 51, 3) := by decide +kernel
theorem dX1_has_9 : decode cX1_has 9 = .ok (.if_icmp .ge 14, 3) := by decide +kernel
theorem dX1_has_12 : decode cX1_has 12 = .ok (.iload_n 1, 1) := by decide +kernel
theorem dX1_has_13 : decode cX1_has 13 = .ok (.sipush 200, 3) := by decide +kernel
theorem dX1_has_16 : decode cX1_has 16 = .ok (.if_icmp .ge 7, 3) := by decide +kernel
theorem dX1_has_19 : decode cX1_has 19 = .ok (.iconst 1, 1) := by decide +kernel
theorem dX1_has_20 : decode cX1_has 20 = .ok (.goto 4, 3) := by decide +kernel
theorem dX1_has_23 : decode cX1_has 23 = .ok (.iconst 0, 1) := by decide +kernel
theorem dX1_has_24 : decode cX1_has 24 = .ok (.ireturn, 1) := by decide +kernel
theorem dX1_add_0 : decode cX1_add 0 = .ok (.aload_n 0, 1) := by decide +kernel
theorem dX1_add_1 : decode cX1_add 1 = .ok (.getfield 51, 3) := by decide +kernel
theorem dX1_add_4 : decode cX1_add 4 = .ok (.istore 8, 2) := by decide +kernel
theorem dX1_add_6 : decode cX1_add 6 = .ok (.iload 8, 2) := by decide +kernel
theorem dX1_add_8 : decode cX1_add 8 = .ok (.sipush 200, 3) := by decide +kernel
theorem dX1_add_11 : decode cX1_add 11 = .ok (.if_icmp .lt 6, 3) := by decide +kernel
theorem dX1_add_14 : decode cX1_add 14 = .ok (.bipush (-2), 2) := by decide +kernel
theorem dX1_add_16 : decode cX1_add 16 = .ok (.ireturn, 1) := by decide +kernel
theorem dX1_add_17 : decode cX1_add 17 = .ok (.aload_n 0, 1) := by decide +kernel
theorem dX1_add_18 : decode cX1_add 18 = .ok (.dup, 1) := by decide +kernel
theorem dX1_add_19 : decode cX1_add 19 = .ok (.getfield 51, 3) := by decide +kernel
theorem dX1_add_22 : decode cX1_add 22 = .ok (.iconst 1, 1) := by decide +kernel
theorem dX1_add_23 : decode cX1_add 23 = .ok (.iadd, 1) := by decide +kernel
theorem dX1_add_24 : decode cX1_add 24 = .ok (.putfield 51, 3) := by decide +kernel
theorem dX1_add_27 : decode cX1_add 27 = .ok (.aload_n 0, 1) := by decide +kernel
theorem dX1_add_28 : decode cX1_add 28 = .ok (.getfield 9, 3) := by decide +kernel
theorem dX1_add_31 : decode cX1_add 31 = .ok (.iload 8, 2) := by decide +kernel
theorem dX1_add_33 : decode cX1_add 33 = .ok (.iload_n 1, 1) := by decide +kernel
theorem dX1_add_34 : decode cX1_add 34 = .ok (.iastore, 1) := by decide +kernel
theorem dX1_add_35 : decode cX1_add 35 = .ok (.aload_n 0, 1) := by decide +kernel
theorem dX1_add_36 : decode cX1_add 36 = .ok (.getfield 15, 3) := by decide +kernel
theorem dX1_add_39 : decode cX1_add 39 = .ok (.iload 8, 2) := by decide +kernel
theorem dX1_add_41 : decode cX1_add 41 = .ok (.iload_n 2, 1) := by decide +kernel
theorem dX1_add_42 : decode cX1_add 42 = .ok (.iastore, 1) := by decide +kernel
theorem dX1_add_43 : decode cX1_add 43 = .ok (.aload_n 0, 1) := by decide +kernel
theorem dX1_add_44 : decode cX1_add 44 = .ok (.getfield 18, 3) := by decide +kernel
theorem dX1_add_47 : decode cX1_add 47 = .ok (.iload 8, 2) := by decide +kernel
theorem dX1_add_49 : decode cX1_add 49 = .ok (.iload_n 3, 1) := by decide +kernel
theorem dX1_add_50 : decode cX1_add 50 = .ok (.iastore, 1) := by decide +kernel
theorem dX1_add_51 : decode cX1_add 51 = .ok (.aload_n 0, 1) := by decide +kernel
theorem dX1_add_52 : decode cX1_add 52 = .ok (.getfield 21, 3) := by decide +kernel
theorem dX1_add_55 : decode cX1_add 55 = .ok (.iload 8, 2) := by decide +kernel
theorem dX1_add_57 : decode cX1_add 57 = .ok (.iload 4, 2) := by decide +kernel
theorem dX1_add_59 : decode cX1_add 59 = .ok (.iastore, 1) := by decide +kernel
theorem dX1_add_60 : decode cX1_add 60 = .ok (.aload_n 0, 1) := by decide +kernel
theorem dX1_add_61 : decode cX1_add 61 = .ok (.getfield 24, 3) := by decide +kernel
theorem dX1_add_64 : decode cX1_add 64 = .ok (.iload 8, 2) := by decide +kernel
theorem dX1_add_66 : decode cX1_add 66 = .ok (.iload 6, 2) := by decide +kernel
theorem dX1_add_68 : decode cX1_add 68 = .ok (.iastore, 1) := by decide +kernel
theorem dX1_add_69 : decode cX1_add 69 = .ok (.aload_n 0, 1) := by decide +kernel
theorem dX1_add_70 : decode cX1_add 70 = .ok (.getfield 27, 3) := by decide +kernel
theorem dX1_add_73 : decode cX1_add 73 = .ok (.iload 8, 2) := by decide +kernel
theorem dX1_add_75 : decode cX1_add 75 = .ok (.iload 5, 2) := by decide +kernel
theorem dX1_add_77 : decode cX1_add 77 = .ok (.iastore, 1) := by decide +kernel
theorem dX1_add_78 : decode cX1_add 78 = .ok (.aload_n 0, 1) := by decide +kernel
theorem dX1_add_79 : decode cX1_add 79 = .ok (.getfield 30, 3) := by decide +kernel
theorem dX1_add_82 : decode cX1_add 82 = .ok (.iload 8, 2) := by decide +kernel
theorem dX1_add_84 : decode cX1_add 84 = .ok (.iload 7, 2) := by decide +kernel
theorem dX1_add_86 : decode cX1_add 86 = .ok (.iload_n 1, 1) := by decide +kernel
theorem dX1_add_87 : decode cX1_add 87 = .ok (.if_icmp .eq 7, 3) := by decide +kernel
theorem dX1_add_90 : decode cX1_add 90 = .ok (.iconst 1, 1) := by decide +kernel
theorem dX1_add_91 : decode cX1_add 91 = .ok (.goto 4, 3) := by decide +kernel
theorem dX1_add_94 : decode cX1_add 94 = .ok (.iconst 0, 1) := by decide +kernel
theorem dX1_add_95 : decode cX1_add 95 = .ok (.iastore, 1) := by decide +kernel
theorem dX1_add_96 : decode cX1_add 96 = .ok (.aload_n 0, 1) := by decide +kernel
theorem dX1_add_97 : decode cX1_add 97 = .ok (.getfield 33, 3) := by decide +kernel
theorem dX1_add_100 : decode cX1_add 100 = .ok (.iload 8, 2) := by decide +kernel
theorem dX1_add_102 : decode cX1_add 102 = .ok (.iconst 0, 1) := by decide +kernel
theorem dX1_add_103 : decode cX1_add 103 = .ok (.iastore, 1) := by decide +kernel
theorem dX1_add_104 : decode cX1_add 104 = .ok (.aload_n 0, 1) := by decide +kernel
theorem dX1_add_105 : decode cX1_add 105 = .ok (.getfield 36, 3) := by decide +kernel
theorem dX1_add_108 : decode cX1_add 108 = .ok (.iload 8, 2) := by decide +kernel
theorem dX1_add_110 : decode cX1_add 110 = .ok (.iconst 0, 1) := by decide +kernel
theorem dX1_add_111 : decode cX1_add 111 = .ok (.iastore, 1) := by decide +kernel
theorem dX1_add_112 : decode cX1_add 112 = .ok (.aload_n 0, 1) := by decide +kernel
theorem dX1_add_113 : decode cX1_add 113 = .ok (.getfield 39, 3) := by decide +kernel
theorem dX1_add_116 : decode cX1_add 116 = .ok (.iload 8, 2) := by decide +kernel
theorem dX1_add_118 : decode cX1_add 118 = .ok (.bipush (-2), 2) := by decide +kernel
theorem dX1_add_120 : decode cX1_add 120 = .ok (.iastore, 1) := by decide +kernel
theorem dX1_add_121 : decode cX1_add 121 = .ok (.aload_n 0, 1) := by decide +kernel
theorem dX1_add_122 : decode cX1_add 122 = .ok (.getfield 42, 3) := by decide +kernel
theorem dX1_add_125 : decode cX1_add 125 = .ok (.iload 8, 2) := by decide +kernel
theorem dX1_add_127 : decode cX1_add 127 = .ok (.bipush (-2), 2) := by decide +kernel
theorem dX1_add_129 : decode cX1_add 129 = .ok (.iastore, 1) := by decide +kernel
theorem dX1_add_130 : decode cX1_add 130 = .ok (.iload 8, 2) := by decide +kernel
theorem dX1_add_132 : decode cX1_add 132 = .ok (.ireturn, 1) := by decide +kernel
theorem dX1_end_0 : decode cX1_end 0 = .ok (.iload_n 1, 1) := by decide +kernel
theorem dX1_end_1 : decode cX1_end 1 = .ok (.ifCond .lt 22, 3) := by decide +kernel
theorem dX1_end_4 : decode cX1_end 4 = .ok (.iload_n 1, 1) := by decide +kernel
theorem dX1_end_5 : decode cX1_end 5 = .ok (.aload_n 0, 1) := by decide +kernel
theorem dX1_end_6 : decode cX1_end 6 = .ok (.getfield 51, 3) := by decide +kernel
theorem dX1_end_9 : decode cX1_end 9 = .ok (.if_icmp .ge 14, 3) := by decide +kernel
theorem dX1_end_12 : decode cX1_end 12 = .ok (.iload_n 1, 1) := by decide +kernel
theorem dX1_end_13 : decode cX1_end 13 = .ok (.sipush 200, 3) := by decide +kernel
theorem dX1_end_16 : decode cX1_end 16 = .ok (.if_icmp .ge 7, 3) := by decide +kernel
theorem dX1_end_19 : decode cX1_end 19 = .ok (.iconst 1, 1) := by decide +kernel
theorem dX1_end_20 : decode cX1_end 20 = .ok (.goto 4, 3) := by decide +kernel
theorem dX1_end_23 : decode cX1_end 23 = .ok (.iconst 0, 1) := by decide +kernel
theorem dX1_end_24 : decode cX1_end 24 = .ok (.istore 4, 2) := by decide +kernel
theorem dX1_end_26 : decode cX1_end 26 = .ok (.iload 4, 2) := by decide +kernel
theorem dX1_end_28 : decode cX1_end 28 = .ok (.ifCond .eq 22, 3) := by decide +kernel
theorem dX1_end_31 : decode cX1_end 31 = .ok (.aload_n 0, 1) := by decide +kernel
theorem dX1_end_32 : decode cX1_end 32 = .ok (.getfield 55, 3) := by decide +kernel
theorem dX1_end_35 : decode cX1_end 35 = .ok (.sipush 200, 3) := by decide +kernel
theorem dX1_end_38 : decode cX1_end 38 = .ok (.if_icmp .ge 12, 3) := by decide +kernel
theorem dX1_end_41 : decode cX1_end 41 = .ok (.iload_n 2, 1) := by decide +kernel
theorem dX1_end_42 : decode cX1_end 42 = .ok (.ifCond .lt 8, 3) := by decide +kernel
theorem dX1_end_45 : decode cX1_end 45 = .ok (.iload_n 2, 1) := by decide +kernel
theorem dX1_end_46 : decode cX1_end 46 = .ok (.iconst 5, 1) := by decide +kernel
theorem dX1_end_47 : decode cX1_end 47 = .ok (.if_icmp .lt 4, 3) := by decide +kernel
theorem dX1_end_50 : decode cX1_end 50 = .ok (.return_, 1) := by decide +kernel
theorem dX1_end_51 : decode cX1_end 51 = .ok (.aload_n 0, 1) := by decide +kernel
theorem dX1_end_52 : decode cX1_end 52 = .ok (.getfield 36, 3) := by decide +kernel
theorem dX1_end_55 : decode cX1_end 55 = .ok (.iload_n 1, 1) := by decide +kernel
theorem dX1_end_56 : decode cX1_end 56 = .ok (.iload_n 2, 1) := by decide +kernel
theorem dX1_end_57 : decode cX1_end 57 = .ok (.iastore, 1) := by decide +kernel
theorem dX1_end_58 : decode cX1_end 58 = .ok (.aload_n 0, 1) := by decide +kernel
theorem dX1_end_59 : decode cX1_end 59 = .ok (.getfield 39, 3) := by decide +kernel
theorem dX1_end_62 : decode cX1_end 62 = .ok (.iload_n 1, 1) := by decide +kernel
theorem dX1_end_63 : decode cX1_end 63 = .ok (.iload_n 3, 1) := by decide +kernel
theorem dX1_end_64 : decode cX1_end 64 = .ok (.iastore, 1) := by decide +kernel
theorem dX1_end_65 : decode cX1_end 65 = .ok (.aload_n 0, 1) := by decide +kernel
theorem dX1_end_66 : decode cX1_end 66 = .ok (.getfield 45, 3) := by decide +kernel
theorem dX1_end_69 : decode cX1_end 69 = .ok (.aload_n 0, 1) := by decide +kernel
theorem dX1_end_70 : decode cX1_end 70 = .ok (.getfield 55, 3) := by decide +kernel
theorem dX1_end_73 : decode cX1_end 73 = .ok (.iload_n 1, 1) := by decide +kernel
theorem dX1_end_74 : decode cX1_end 74 = .ok (.iastore, 1) := by decide +kernel
theorem dX1_end_75 : decode cX1_end 75 = .ok (.aload_n 0, 1) := by decide +kernel
theorem dX1_end_76 : decode cX1_end 76 = .ok (.dup, 1) := by decide +kernel
theorem dX1_end_77 : decode cX1_end 77 = .ok (.getfield 55, 3) := by decide +kernel
theorem dX1_end_80 : decode cX1_end 80 = .ok (.iconst 1, 1) := by decide +kernel
theorem dX1_end_81 : decode cX1_end 81 = .ok (.iadd, 1) := by decide +kernel
theorem dX1_end_82 : decode cX1_end 82 = .ok (.putfield 55, 3) := by decide +kernel
theorem dX1_end_85 : decode cX1_end 85 = .ok (.aload_n 0, 1) := by decide +kernel
theorem dX1_end_86 : decode cX1_end 86 = .ok (.getfield 48, 3) := by decide +kernel
theorem dX1_end_89 : decode cX1_end 89 = .ok (.iload_n 2, 1) := by decide +kernel
theorem dX1_end_90 : decode cX1_end 90 = .ok (.dup2, 1) := by decide +kernel
theorem dX1_end_91 : decode cX1_end 91 = .ok (.iaload, 1) := by decide +kernel
theorem dX1_end_92 : decode cX1_end 92 = .ok (.iconst 1, 1) := by decide +kernel
theorem dX1_end_93 : decode cX1_end 93 = .ok (.iadd, 1) := by decide +kernel
theorem dX1_end_94 : decode cX1_end 94 = .ok (.iastore, 1) := by decide +kernel
theorem dX1_end_95 : decode cX1_end 95 = .ok (.return_, 1) := by decide +kernel
theorem dX1_endedOne_0 : decode cX1_endedOne 0 = .ok (.iload_n 1, 1) := by decide +kernel
theorem dX1_endedOne_1 : decode cX1_endedOne 1 = .ok (.ifCond .lt 27, 3) := by decide +kernel
theorem dX1_endedOne_4 : decode cX1_endedOne 4 = .ok (.iload_n 1, 1) := by decide +kernel
theorem dX1_endedOne_5 : decode cX1_endedOne 5 = .ok (.aload_n 0, 1) := by decide +kernel
theorem dX1_endedOne_6 : decode cX1_endedOne 6 = .ok (.getfield 55, 3) := by decide +kernel
theorem dX1_endedOne_9 : decode cX1_endedOne 9 = .ok (.if_icmp .ge 19, 3) := by decide +kernel
theorem dX1_endedOne_12 : decode cX1_endedOne 12 = .ok (.iload_n 1, 1) := by decide +kernel
theorem dX1_endedOne_13 : decode cX1_endedOne 13 = .ok (.sipush 200, 3) := by decide +kernel
theorem dX1_endedOne_16 : decode cX1_endedOne 16 = .ok (.if_icmp .ge 12, 3) := by decide +kernel
theorem dX1_endedOne_19 : decode cX1_endedOne 19 = .ok (.aload_n 0, 1) := by decide +kernel
theorem dX1_endedOne_20 : decode cX1_endedOne 20 = .ok (.getfield 45, 3) := by decide +kernel
theorem dX1_endedOne_23 : decode cX1_endedOne 23 = .ok (.iload_n 1, 1) := by decide +kernel
theorem dX1_endedOne_24 : decode cX1_endedOne 24 = .ok (.iaload, 1) := by decide +kernel
theorem dX1_endedOne_25 : decode cX1_endedOne 25 = .ok (.goto 5, 3) := by decide +kernel
theorem dX1_endedOne_28 : decode cX1_endedOne 28 = .ok (.bipush (-2), 2) := by decide +kernel
theorem dX1_endedOne_30 : decode cX1_endedOne 30 = .ok (.ireturn, 1) := by decide +kernel
theorem dX1_waitOf_0 : decode cX1_waitOf 0 = .ok (.aload_n 0, 1) := by decide +kernel
theorem dX1_waitOf_1 : decode cX1_waitOf 1 = .ok (.getfield 39, 3) := by decide +kernel
theorem dX1_waitOf_4 : decode cX1_waitOf 4 = .ok (.iload_n 1, 1) := by decide +kernel
theorem dX1_waitOf_5 : decode cX1_waitOf 5 = .ok (.iaload, 1) := by decide +kernel
theorem dX1_waitOf_6 : decode cX1_waitOf 6 = .ok (.aload_n 0, 1) := by decide +kernel
theorem dX1_waitOf_7 : decode cX1_waitOf 7 = .ok (.getfield 21, 3) := by decide +kernel
theorem dX1_waitOf_10 : decode cX1_waitOf 10 = .ok (.iload_n 1, 1) := by decide +kernel
theorem dX1_waitOf_11 : decode cX1_waitOf 11 = .ok (.iaload, 1) := by decide +kernel
theorem dX1_waitOf_12 : decode cX1_waitOf 12 = .ok (.isub, 1) := by decide +kernel
theorem dX1_waitOf_13 : decode cX1_waitOf 13 = .ok (.ireturn, 1) := by decide +kernel
theorem dX1_bytesSentOf_0 : decode cX1_bytesSentOf 0 = .ok (.iconst 0, 1) := by decide +kernel
theorem dX1_bytesSentOf_1 : decode cX1_bytesSentOf 1 = .ok (.istore_n 2, 1) := by decide +kernel
theorem dX1_bytesSentOf_2 : decode cX1_bytesSentOf 2 = .ok (.iconst 0, 1) := by decide +kernel
theorem dX1_bytesSentOf_3 : decode cX1_bytesSentOf 3 = .ok (.istore_n 3, 1) := by decide +kernel
theorem dX1_bytesSentOf_4 : decode cX1_bytesSentOf 4 = .ok (.iload_n 3, 1) := by decide +kernel
theorem dX1_bytesSentOf_5 : decode cX1_bytesSentOf 5 = .ok (.aload_n 0, 1) := by decide +kernel
theorem dX1_bytesSentOf_6 : decode cX1_bytesSentOf 6 = .ok (.getfield 51, 3) := by decide +kernel
theorem dX1_bytesSentOf_9 : decode cX1_bytesSentOf 9 = .ok (.if_icmp .ge 38, 3) := by decide +kernel
theorem dX1_bytesSentOf_12 : decode cX1_bytesSentOf 12 = .ok (.aload_n 0, 1) := by decide +kernel
theorem dX1_bytesSentOf_13 : decode cX1_bytesSentOf 13 = .ok (.getfield 9, 3) := by decide +kernel
theorem dX1_bytesSentOf_16 : decode cX1_bytesSentOf 16 = .ok (.iload_n 3, 1) := by decide +kernel
theorem dX1_bytesSentOf_17 : decode cX1_bytesSentOf 17 = .ok (.iaload, 1) := by decide +kernel
theorem dX1_bytesSentOf_18 : decode cX1_bytesSentOf 18 = .ok (.iload_n 1, 1) := by decide +kernel
theorem dX1_bytesSentOf_19 : decode cX1_bytesSentOf 19 = .ok (.if_icmp .ne 22, 3) := by decide +kernel
theorem dX1_bytesSentOf_22 : decode cX1_bytesSentOf 22 = .ok (.aload_n 0, 1) := by decide +kernel
theorem dX1_bytesSentOf_23 : decode cX1_bytesSentOf 23 = .ok (.getfield 36, 3) := by decide +kernel
theorem dX1_bytesSentOf_26 : decode cX1_bytesSentOf 26 = .ok (.iload_n 3, 1) := by decide +kernel
theorem dX1_bytesSentOf_27 : decode cX1_bytesSentOf 27 = .ok (.iaload, 1) := by decide +kernel
theorem dX1_bytesSentOf_28 : decode cX1_bytesSentOf 28 = .ok (.iconst 1, 1) := by decide +kernel
theorem dX1_bytesSentOf_29 : decode cX1_bytesSentOf 29 = .ok (.if_icmp .ne 12, 3) := by decide +kernel
theorem dX1_bytesSentOf_32 : decode cX1_bytesSentOf 32 = .ok (.iload_n 2, 1) := by decide +kernel
theorem dX1_bytesSentOf_33 : decode cX1_bytesSentOf 33 = .ok (.aload_n 0, 1) := by decide +kernel
theorem dX1_bytesSentOf_34 : decode cX1_bytesSentOf 34 = .ok (.getfield 15, 3) := by decide +kernel
theorem dX1_bytesSentOf_37 : decode cX1_bytesSentOf 37 = .ok (.iload_n 3, 1) := by decide +kernel
theorem dX1_bytesSentOf_38 : decode cX1_bytesSentOf 38 = .ok (.iaload, 1) := by decide +kernel
theorem dX1_bytesSentOf_39 : decode cX1_bytesSentOf 39 = .ok (.iadd, 1) := by decide +kernel
theorem dX1_bytesSentOf_40 : decode cX1_bytesSentOf 40 = .ok (.istore_n 2, 1) := by decide +kernel
theorem dX1_bytesSentOf_41 : decode cX1_bytesSentOf 41 = .ok (.iinc 3 1, 3) := by decide +kernel
theorem dX1_bytesSentOf_44 : decode cX1_bytesSentOf 44 = .ok (.goto (-40), 3) := by decide +kernel
theorem dX1_bytesSentOf_47 : decode cX1_bytesSentOf 47 = .ok (.iload_n 2, 1) := by decide +kernel
theorem dX1_bytesSentOf_48 : decode cX1_bytesSentOf 48 = .ok (.ireturn, 1) := by decide +kernel
theorem dX1_cameOf_0 : decode cX1_cameOf 0 = .ok (.iconst 0, 1) := by decide +kernel
theorem dX1_cameOf_1 : decode cX1_cameOf 1 = .ok (.istore_n 2, 1) := by decide +kernel
theorem dX1_cameOf_2 : decode cX1_cameOf 2 = .ok (.iconst 0, 1) := by decide +kernel
theorem dX1_cameOf_3 : decode cX1_cameOf 3 = .ok (.istore_n 3, 1) := by decide +kernel
theorem dX1_cameOf_4 : decode cX1_cameOf 4 = .ok (.iload_n 3, 1) := by decide +kernel
theorem dX1_cameOf_5 : decode cX1_cameOf 5 = .ok (.aload_n 0, 1) := by decide +kernel
theorem dX1_cameOf_6 : decode cX1_cameOf 6 = .ok (.getfield 51, 3) := by decide +kernel
theorem dX1_cameOf_9 : decode cX1_cameOf 9 = .ok (.if_icmp .ge 22, 3) := by decide +kernel
theorem dX1_cameOf_12 : decode cX1_cameOf 12 = .ok (.aload_n 0, 1) := by decide +kernel
theorem dX1_cameOf_13 : decode cX1_cameOf 13 = .ok (.getfield 9, 3) := by decide +kernel
theorem dX1_cameOf_16 : decode cX1_cameOf 16 = .ok (.iload_n 3, 1) := by decide +kernel
theorem dX1_cameOf_17 : decode cX1_cameOf 17 = .ok (.iaload, 1) := by decide +kernel
theorem dX1_cameOf_18 : decode cX1_cameOf 18 = .ok (.iload_n 1, 1) := by decide +kernel
theorem dX1_cameOf_19 : decode cX1_cameOf 19 = .ok (.if_icmp .ne 6, 3) := by decide +kernel
theorem dX1_cameOf_22 : decode cX1_cameOf 22 = .ok (.iinc 2 1, 3) := by decide +kernel
theorem dX1_cameOf_25 : decode cX1_cameOf 25 = .ok (.iinc 3 1, 3) := by decide +kernel
theorem dX1_cameOf_28 : decode cX1_cameOf 28 = .ok (.goto (-24), 3) := by decide +kernel
theorem dX1_cameOf_31 : decode cX1_cameOf 31 = .ok (.iload_n 2, 1) := by decide +kernel
theorem dX1_cameOf_32 : decode cX1_cameOf 32 = .ok (.ireturn, 1) := by decide +kernel
theorem dX1_wasStrangeBefore_0 : decode cX1_wasStrangeBefore 0 = .ok (.iconst 0, 1) := by decide +kernel
theorem dX1_wasStrangeBefore_1 : decode cX1_wasStrangeBefore 1 = .ok (.istore_n 2, 1) := by decide +kernel
theorem dX1_wasStrangeBefore_2 : decode cX1_wasStrangeBefore 2 = .ok (.iload_n 2, 1) := by decide +kernel
theorem dX1_wasStrangeBefore_3 : decode cX1_wasStrangeBefore 3 = .ok (.iload_n 1, 1) := by decide +kernel
theorem dX1_wasStrangeBefore_4 : decode cX1_wasStrangeBefore 4 = .ok (.if_icmp .ge 36, 3) := by decide +kernel
theorem dX1_wasStrangeBefore_7 : decode cX1_wasStrangeBefore 7 = .ok (.aload_n 0, 1) := by decide +kernel
theorem dX1_wasStrangeBefore_8 : decode cX1_wasStrangeBefore 8 = .ok (.getfield 30, 3) := by decide +kernel
theorem dX1_wasStrangeBefore_11 : decode cX1_wasStrangeBefore 11 = .ok (.iload_n 2, 1) := by decide +kernel
theorem dX1_wasStrangeBefore_12 : decode cX1_wasStrangeBefore 12 = .ok (.iaload, 1) := by decide +kernel
theorem dX1_wasStrangeBefore_13 : decode cX1_wasStrangeBefore 13 = .ok (.iconst 1, 1) := by decide +kernel
theorem dX1_wasStrangeBefore_14 : decode cX1_wasStrangeBefore 14 = .ok (.if_icmp .ne 20, 3) := by decide +kernel
theorem dX1_wasStrangeBefore_17 : decode cX1_wasStrangeBefore 17 = .ok (.aload_n 0, 1) := by decide +kernel
theorem dX1_wasStrangeBefore_18 : decode cX1_wasStrangeBefore 18 = .ok (.getfield 9, 3) := by decide +kernel
theorem dX1_wasStrangeBefore_21 : decode cX1_wasStrangeBefore 21 = .ok (.iload_n 2, 1) := by decide +kernel
theorem dX1_wasStrangeBefore_22 : decode cX1_wasStrangeBefore 22 = .ok (.iaload, 1) := by decide +kernel
theorem dX1_wasStrangeBefore_23 : decode cX1_wasStrangeBefore 23 = .ok (.aload_n 0, 1) := by decide +kernel
theorem dX1_wasStrangeBefore_24 : decode cX1_wasStrangeBefore 24 = .ok (.getfield 9, 3) := by decide +kernel
theorem dX1_wasStrangeBefore_27 : decode cX1_wasStrangeBefore 27 = .ok (.iload_n 1, 1) := by decide +kernel
theorem dX1_wasStrangeBefore_28 : decode cX1_wasStrangeBefore 28 = .ok (.iaload, 1) := by decide +kernel
theorem dX1_wasStrangeBefore_29 : decode cX1_wasStrangeBefore 29 = .ok (.if_icmp .ne 5, 3) := by decide +kernel
theorem dX1_wasStrangeBefore_32 : decode cX1_wasStrangeBefore 32 = .ok (.iconst 1, 1) := by decide +kernel
theorem dX1_wasStrangeBefore_33 : decode cX1_wasStrangeBefore 33 = .ok (.ireturn, 1) := by decide +kernel
theorem dX1_wasStrangeBefore_34 : decode cX1_wasStrangeBefore 34 = .ok (.iinc 2 1, 3) := by decide +kernel
theorem dX1_wasStrangeBefore_37 : decode cX1_wasStrangeBefore 37 = .ok (.goto (-35), 3) := by decide +kernel
theorem dX1_wasStrangeBefore_40 : decode cX1_wasStrangeBefore 40 = .ok (.iconst 0, 1) := by decide +kernel
theorem dX1_wasStrangeBefore_41 : decode cX1_wasStrangeBefore 41 = .ok (.ireturn, 1) := by decide +kernel
theorem dX1_sentOne_0 : decode cX1_sentOne 0 = .ok (.aload_n 0, 1) := by decide +kernel
theorem dX1_sentOne_1 : decode cX1_sentOne 1 = .ok (.iload_n 1, 1) := by decide +kernel
theorem dX1_sentOne_2 : decode cX1_sentOne 2 = .ok (.invokevirtual 64, 3) := by decide +kernel
theorem dX1_sentOne_5 : decode cX1_sentOne 5 = .ok (.istore_n 2, 1) := by decide +kernel
theorem dX1_sentOne_6 : decode cX1_sentOne 6 = .ok (.aload_n 0, 1) := by decide +kernel
theorem dX1_sentOne_7 : decode cX1_sentOne 7 = .ok (.iload_n 2, 1) := by decide +kernel
theorem dX1_sentOne_8 : decode cX1_sentOne 8 = .ok (.invokevirtual 68, 3) := by decide +kernel
theorem dX1_sentOne_11 : decode cX1_sentOne 11 = .ok (.ifCond .eq 17, 3) := by decide +kernel
theorem dX1_sentOne_14 : decode cX1_sentOne 14 = .ok (.aload_n 0, 1) := by decide +kernel
theorem dX1_sentOne_15 : decode cX1_sentOne 15 = .ok (.getfield 36, 3) := by decide +kernel
theorem dX1_sentOne_18 : decode cX1_sentOne 18 = .ok (.iload_n 2, 1) := by decide +kernel
theorem dX1_sentOne_19 : decode cX1_sentOne 19 = .ok (.iaload, 1) := by decide +kernel
theorem dX1_sentOne_20 : decode cX1_sentOne 20 = .ok (.iconst 1, 1) := by decide +kernel
theorem dX1_sentOne_21 : decode cX1_sentOne 21 = .ok (.if_icmp .ne 7, 3) := by decide +kernel
theorem dX1_sentOne_24 : decode cX1_sentOne 24 = .ok (.iload_n 2, 1) := by decide +kernel
theorem dX1_sentOne_25 : decode cX1_sentOne 25 = .ok (.goto 5, 3) := by decide +kernel
theorem dX1_sentOne_28 : decode cX1_sentOne 28 = .ok (.bipush (-2), 2) := by decide +kernel
theorem dX1_sentOne_30 : decode cX1_sentOne 30 = .ok (.ireturn, 1) := by decide +kernel
theorem dX1_tell_0 : decode cX1_tell 0 = .ok (.aload_n 0, 1) := by decide +kernel
theorem dX1_tell_1 : decode cX1_tell 1 = .ok (.iload_n 1, 1) := by decide +kernel
theorem dX1_tell_2 : decode cX1_tell 2 = .ok (.invokevirtual 68, 3) := by decide +kernel
theorem dX1_tell_5 : decode cX1_tell 5 = .ok (.ifCond .ne 5, 3) := by decide +kernel
theorem dX1_tell_8 : decode cX1_tell 8 = .ok (.iconst (-1), 1) := by decide +kernel
theorem dX1_tell_9 : decode cX1_tell 9 = .ok (.ireturn, 1) := by decide +kernel
theorem dX1_tell_10 : decode cX1_tell 10 = .ok (.iload_n 2, 1) := by decide +kernel
theorem dX1_tell_11 : decode cX1_tell 11 = .ok (.tableswitch 101 0 7 #[45, 52, 59, 66, 73, 80, 87, 94], 45) := by decide +kernel
theorem dX1_tell_56 : decode cX1_tell 56 = .ok (.aload_n 0, 1) := by decide +kernel
theorem dX1_tell_57 : decode cX1_tell 57 = .ok (.getfield 9, 3) := by decide +kernel
theorem dX1_tell_60 : decode cX1_tell 60 = .ok (.iload_n 1, 1) := by decide +kernel
theorem dX1_tell_61 : decode cX1_tell 61 = .ok (.iaload, 1) := by decide +kernel
theorem dX1_tell_62 : decode cX1_tell 62 = .ok (.ireturn, 1) := by decide +kernel
theorem dX1_tell_63 : decode cX1_tell 63 = .ok (.aload_n 0, 1) := by decide +kernel
theorem dX1_tell_64 : decode cX1_tell 64 = .ok (.getfield 15, 3) := by decide +kernel
theorem dX1_tell_67 : decode cX1_tell 67 = .ok (.iload_n 1, 1) := by decide +kernel
theorem dX1_tell_68 : decode cX1_tell 68 = .ok (.iaload, 1) := by decide +kernel
theorem dX1_tell_69 : decode cX1_tell 69 = .ok (.ireturn, 1) := by decide +kernel
theorem dX1_tell_70 : decode cX1_tell 70 = .ok (.aload_n 0, 1) := by decide +kernel
theorem dX1_tell_71 : decode cX1_tell 71 = .ok (.getfield 18, 3) := by decide +kernel
theorem dX1_tell_74 : decode cX1_tell 74 = .ok (.iload_n 1, 1) := by decide +kernel
theorem dX1_tell_75 : decode cX1_tell 75 = .ok (.iaload, 1) := by decide +kernel
theorem dX1_tell_76 : decode cX1_tell 76 = .ok (.ireturn, 1) := by decide +kernel
theorem dX1_tell_77 : decode cX1_tell 77 = .ok (.aload_n 0, 1) := by decide +kernel
theorem dX1_tell_78 : decode cX1_tell 78 = .ok (.getfield 21, 3) := by decide +kernel
theorem dX1_tell_81 : decode cX1_tell 81 = .ok (.iload_n 1, 1) := by decide +kernel
theorem dX1_tell_82 : decode cX1_tell 82 = .ok (.iaload, 1) := by decide +kernel
theorem dX1_tell_83 : decode cX1_tell 83 = .ok (.ireturn, 1) := by decide +kernel
theorem dX1_tell_84 : decode cX1_tell 84 = .ok (.aload_n 0, 1) := by decide +kernel
theorem dX1_tell_85 : decode cX1_tell 85 = .ok (.getfield 24, 3) := by decide +kernel
theorem dX1_tell_88 : decode cX1_tell 88 = .ok (.iload_n 1, 1) := by decide +kernel
theorem dX1_tell_89 : decode cX1_tell 89 = .ok (.iaload, 1) := by decide +kernel
theorem dX1_tell_90 : decode cX1_tell 90 = .ok (.ireturn, 1) := by decide +kernel
theorem dX1_tell_91 : decode cX1_tell 91 = .ok (.aload_n 0, 1) := by decide +kernel
theorem dX1_tell_92 : decode cX1_tell 92 = .ok (.getfield 33, 3) := by decide +kernel
theorem dX1_tell_95 : decode cX1_tell 95 = .ok (.iload_n 1, 1) := by decide +kernel
theorem dX1_tell_96 : decode cX1_tell 96 = .ok (.iaload, 1) := by decide +kernel
theorem dX1_tell_97 : decode cX1_tell 97 = .ok (.ireturn, 1) := by decide +kernel
theorem dX1_tell_98 : decode cX1_tell 98 = .ok (.aload_n 0, 1) := by decide +kernel
theorem dX1_tell_99 : decode cX1_tell 99 = .ok (.getfield 36, 3) := by decide +kernel
theorem dX1_tell_102 : decode cX1_tell 102 = .ok (.iload_n 1, 1) := by decide +kernel
theorem dX1_tell_103 : decode cX1_tell 103 = .ok (.iaload, 1) := by decide +kernel
theorem dX1_tell_104 : decode cX1_tell 104 = .ok (.ireturn, 1) := by decide +kernel
theorem dX1_tell_105 : decode cX1_tell 105 = .ok (.aload_n 0, 1) := by decide +kernel
theorem dX1_tell_106 : decode cX1_tell 106 = .ok (.getfield 39, 3) := by decide +kernel
theorem dX1_tell_109 : decode cX1_tell 109 = .ok (.iload_n 1, 1) := by decide +kernel
theorem dX1_tell_110 : decode cX1_tell 110 = .ok (.iaload, 1) := by decide +kernel
theorem dX1_tell_111 : decode cX1_tell 111 = .ok (.ireturn, 1) := by decide +kernel
theorem dX1_tell_112 : decode cX1_tell 112 = .ok (.iconst (-1), 1) := by decide +kernel
theorem dX1_tell_113 : decode cX1_tell 113 = .ok (.ireturn, 1) := by decide +kernel
theorem dX1_along_0 : decode cX1_along 0 = .ok (.iload_n 1, 1) := by decide +kernel
theorem dX1_along_1 : decode cX1_along 1 = .ok (.istore_n 3, 1) := by decide +kernel
theorem dX1_along_2 : decode cX1_along 2 = .ok (.iconst 0, 1) := by decide +kernel
theorem dX1_along_3 : decode cX1_along 3 = .ok (.istore 4, 2) := by decide +kernel
theorem dX1_along_5 : decode cX1_along 5 = .ok (.iload 4, 2) := by decide +kernel
theorem dX1_along_7 : decode cX1_along 7 = .ok (.iload_n 2, 1) := by decide +kernel
theorem dX1_along_8 : decode cX1_along 8 = .ok (.if_icmp .ge 32, 3) := by decide +kernel
theorem dX1_along_11 : decode cX1_along 11 = .ok (.iload 4, 2) := by decide +kernel
theorem dX1_along_13 : decode cX1_along 13 = .ok (.sipush 200, 3) := by decide +kernel
theorem dX1_along_16 : decode cX1_along 16 = .ok (.if_icmp .ge 24, 3) := by decide +kernel
theorem dX1_along_19 : decode cX1_along 19 = .ok (.aload_n 0, 1) := by decide +kernel
theorem dX1_along_20 : decode cX1_along 20 = .ok (.iload_n 3, 1) := by decide +kernel
theorem dX1_along_21 : decode cX1_along 21 = .ok (.invokevirtual 68, 3) := by decide +kernel
theorem dX1_along_24 : decode cX1_along 24 = .ok (.ifCond .eq 16, 3) := by decide +kernel
theorem dX1_along_27 : decode cX1_along 27 = .ok (.aload_n 0, 1) := by decide +kernel
theorem dX1_along_28 : decode cX1_along 28 = .ok (.getfield 42, 3) := by decide +kernel
theorem dX1_along_31 : decode cX1_along 31 = .ok (.iload_n 3, 1) := by decide +kernel
theorem dX1_along_32 : decode cX1_along 32 = .ok (.iaload, 1) := by decide +kernel
theorem dX1_along_33 : decode cX1_along 33 = .ok (.istore_n 3, 1) := by decide +kernel
theorem dX1_along_34 : decode cX1_along 34 = .ok (.iinc 4 1, 3) := by decide +kernel
theorem dX1_along_37 : decode cX1_along 37 = .ok (.goto (-32), 3) := by decide +kernel
theorem dX1_along_40 : decode cX1_along 40 = .ok (.aload_n 0, 1) := by decide +kernel
theorem dX1_along_41 : decode cX1_along 41 = .ok (.iload_n 3, 1) := by decide +kernel
theorem dX1_along_42 : decode cX1_along 42 = .ok (.invokevirtual 68, 3) := by decide +kernel
theorem dX1_along_45 : decode cX1_along 45 = .ok (.ifCond .eq 14, 3) := by decide +kernel
theorem dX1_along_48 : decode cX1_along 48 = .ok (.iload_n 2, 1) := by decide +kernel
theorem dX1_along_49 : decode cX1_along 49 = .ok (.sipush 200, 3) := by decide +kernel
theorem dX1_along_52 : decode cX1_along 52 = .ok (.if_icmp .ge 7, 3) := by decide +kernel
theorem dX1_along_55 : decode cX1_along 55 = .ok (.iload_n 3, 1) := by decide +kernel
theorem dX1_along_56 : decode cX1_along 56 = .ok (.goto 5, 3) := by decide +kernel
theorem dX1_along_59 : decode cX1_along 59 = .ok (.bipush (-2), 2) := by decide +kernel
theorem dX1_along_61 : decode cX1_along 61 = .ok (.ireturn, 1) := by decide +kernel
theorem dX1_endedAs_0 : decode cX1_endedAs 0 = .ok (.iload_n 2, 1) := by decide +kernel
theorem dX1_endedAs_1 : decode cX1_endedAs 1 = .ok (.istore_n 3, 1) := by decide +kernel
theorem dX1_endedAs_2 : decode cX1_endedAs 2 = .ok (.iconst 0, 1) := by decide +kernel
theorem dX1_endedAs_3 : decode cX1_endedAs 3 = .ok (.istore 4, 2) := by decide +kernel
theorem dX1_endedAs_5 : decode cX1_endedAs 5 = .ok (.iload 4, 2) := by decide +kernel
theorem dX1_endedAs_7 : decode cX1_endedAs 7 = .ok (.aload_n 0, 1) := by decide +kernel
theorem dX1_endedAs_8 : decode cX1_endedAs 8 = .ok (.getfield 55, 3) := by decide +kernel
theorem dX1_endedAs_11 : decode cX1_endedAs 11 = .ok (.if_icmp .ge 66, 3) := by decide +kernel
theorem dX1_endedAs_14 : decode cX1_endedAs 14 = .ok (.aload_n 0, 1) := by decide +kernel
theorem dX1_endedAs_15 : decode cX1_endedAs 15 = .ok (.iload 4, 2) := by decide +kernel
theorem dX1_endedAs_17 : decode cX1_endedAs 17 = .ok (.invokevirtual 64, 3) := by decide +kernel
theorem dX1_endedAs_20 : decode cX1_endedAs 20 = .ok (.istore 5, 2) := by decide +kernel
theorem dX1_endedAs_22 : decode cX1_endedAs 22 = .ok (.aload_n 0, 1) := by decide +kernel
theorem dX1_endedAs_23 : decode cX1_endedAs 23 = .ok (.iload 5, 2) := by decide +kernel
theorem dX1_endedAs_25 : decode cX1_endedAs 25 = .ok (.invokevirtual 68, 3) := by decide +kernel
theorem dX1_endedAs_28 : decode cX1_endedAs 28 = .ok (.ifCond .eq 43, 3) := by decide +kernel
theorem dX1_endedAs_31 : decode cX1_endedAs 31 = .ok (.iload_n 1, 1) := by decide +kernel
theorem dX1_endedAs_32 : decode cX1_endedAs 32 = .ok (.iconst 4, 1) := by decide +kernel
theorem dX1_endedAs_33 : decode cX1_endedAs 33 = .ok (.if_icmp .ne 17, 3) := by decide +kernel
theorem dX1_endedAs_36 : decode cX1_endedAs 36 = .ok (.aload_n 0, 1) := by decide +kernel
theorem dX1_endedAs_37 : decode cX1_endedAs 37 = .ok (.getfield 33, 3) := by decide +kernel
theorem dX1_endedAs_40 : decode cX1_endedAs 40 = .ok (.iload 5, 2) := by decide +kernel
theorem dX1_endedAs_42 : decode cX1_endedAs 42 = .ok (.iaload, 1) := by decide +kernel
theorem dX1_endedAs_43 : decode cX1_endedAs 43 = .ok (.iconst 1, 1) := by decide +kernel
theorem dX1_endedAs_44 : decode cX1_endedAs 44 = .ok (.if_icmp .ne 27, 3) := by decide +kernel
theorem dX1_endedAs_47 : decode cX1_endedAs 47 = .ok (.goto 14, 3) := by decide +kernel
theorem dX1_endedAs_50 : decode cX1_endedAs 50 = .ok (.aload_n 0, 1) := by decide +kernel
theorem dX1_endedAs_51 : decode cX1_endedAs 51 = .ok (.getfield 36, 3) := by decide +kernel
theorem dX1_endedAs_54 : decode cX1_endedAs 54 = .ok (.iload 5, 2) := by decide +kernel
theorem dX1_endedAs_56 : decode cX1_endedAs 56 = .ok (.iaload, 1) := by decide +kernel
theorem dX1_endedAs_57 : decode cX1_endedAs 57 = .ok (.iload_n 1, 1) := by decide +kernel
theorem dX1_endedAs_58 : decode cX1_endedAs 58 = .ok (.if_icmp .ne 13, 3) := by decide +kernel
theorem dX1_endedAs_61 : decode cX1_endedAs 61 = .ok (.iload_n 3, 1) := by decide +kernel
theorem dX1_endedAs_62 : decode cX1_endedAs 62 = .ok (.ifCond .ne 6, 3) := by decide +kernel
theorem dX1_endedAs_65 : decode cX1_endedAs 65 = .ok (.iload 5, 2) := by decide +kernel
theorem dX1_endedAs_67 : decode cX1_endedAs 67 = .ok (.ireturn, 1) := by decide +kernel
theorem dX1_endedAs_68 : decode cX1_endedAs 68 = .ok (.iinc 3 (-1), 3) := by decide +kernel
theorem dX1_endedAs_71 : decode cX1_endedAs 71 = .ok (.iinc 4 1, 3) := by decide +kernel
theorem dX1_endedAs_74 : decode cX1_endedAs 74 = .ok (.goto (-69), 3) := by decide +kernel
theorem dX1_endedAs_77 : decode cX1_endedAs 77 = .ok (.bipush (-2), 2) := by decide +kernel
theorem dX1_endedAs_79 : decode cX1_endedAs 79 = .ok (.ireturn, 1) := by decide +kernel
theorem dX1_greatestWaitOf_0 : decode cX1_greatestWaitOf 0 = .ok (.bipush (-2), 2) := by decide +kernel
theorem dX1_greatestWaitOf_2 : decode cX1_greatestWaitOf 2 = .ok (.istore_n 2, 1) := by decide +kernel
theorem dX1_greatestWaitOf_3 : decode cX1_greatestWaitOf 3 = .ok (.iconst 0, 1) := by decide +kernel
theorem dX1_greatestWaitOf_4 : decode cX1_greatestWaitOf 4 = .ok (.istore_n 3, 1) := by decide +kernel
theorem dX1_greatestWaitOf_5 : decode cX1_greatestWaitOf 5 = .ok (.iload_n 3, 1) := by decide +kernel
theorem dX1_greatestWaitOf_6 : decode cX1_greatestWaitOf 6 = .ok (.aload_n 0, 1) := by decide +kernel
theorem dX1_greatestWaitOf_7 : decode cX1_greatestWaitOf 7 = .ok (.getfield 51, 3) := by decide +kernel
theorem dX1_greatestWaitOf_10 : decode cX1_greatestWaitOf 10 = .ok (.if_icmp .ge 39, 3) := by decide +kernel
theorem dX1_greatestWaitOf_13 : decode cX1_greatestWaitOf 13 = .ok (.aload_n 0, 1) := by decide +kernel
theorem dX1_greatestWaitOf_14 : decode cX1_greatestWaitOf 14 = .ok (.getfield 9, 3) := by decide +kernel
theorem dX1_greatestWaitOf_17 : decode cX1_greatestWaitOf 17 = .ok (.iload_n 3, 1) := by decide +kernel
theorem dX1_greatestWaitOf_18 : decode cX1_greatestWaitOf 18 = .ok (.iaload, 1) := by decide +kernel
theorem dX1_greatestWaitOf_19 : decode cX1_greatestWaitOf 19 = .ok (.iload_n 1, 1) := by decide +kernel
theorem dX1_greatestWaitOf_20 : decode cX1_greatestWaitOf 20 = .ok (.if_icmp .ne 23, 3) := by decide +kernel
theorem dX1_greatestWaitOf_23 : decode cX1_greatestWaitOf 23 = .ok (.aload_n 0, 1) := by decide +kernel
theorem dX1_greatestWaitOf_24 : decode cX1_greatestWaitOf 24 = .ok (.getfield 36, 3) := by decide +kernel
theorem dX1_greatestWaitOf_27 : decode cX1_greatestWaitOf 27 = .ok (.iload_n 3, 1) := by decide +kernel
theorem dX1_greatestWaitOf_28 : decode cX1_greatestWaitOf 28 = .ok (.iaload, 1) := by decide +kernel
theorem dX1_greatestWaitOf_29 : decode cX1_greatestWaitOf 29 = .ok (.iconst 1, 1) := by decide +kernel
theorem dX1_greatestWaitOf_30 : decode cX1_greatestWaitOf 30 = .ok (.if_icmp .ne 13, 3) := by decide +kernel
theorem dX1_greatestWaitOf_33 : decode cX1_greatestWaitOf 33 = .ok (.iload_n 2, 1) := by decide +kernel
theorem dX1_greatestWaitOf_34 : decode cX1_greatestWaitOf 34 = .ok (.aload_n 0, 1) := by decide +kernel
theorem dX1_greatestWaitOf_35 : decode cX1_greatestWaitOf 35 = .ok (.iload_n 3, 1) := by decide +kernel
theorem dX1_greatestWaitOf_36 : decode cX1_greatestWaitOf 36 = .ok (.invokevirtual 72, 3) := by decide +kernel
theorem dX1_greatestWaitOf_39 : decode cX1_greatestWaitOf 39 = .ok (.invokestatic 75, 3) := by decide +kernel
theorem dX1_greatestWaitOf_42 : decode cX1_greatestWaitOf 42 = .ok (.istore_n 2, 1) := by decide +kernel
theorem dX1_greatestWaitOf_43 : decode cX1_greatestWaitOf 43 = .ok (.iinc 3 1, 3) := by decide +kernel
theorem dX1_greatestWaitOf_46 : decode cX1_greatestWaitOf 46 = .ok (.goto (-41), 3) := by decide +kernel
theorem dX1_greatestWaitOf_49 : decode cX1_greatestWaitOf 49 = .ok (.iload_n 2, 1) := by decide +kernel
theorem dX1_greatestWaitOf_50 : decode cX1_greatestWaitOf 50 = .ok (.ireturn, 1) := by decide +kernel
theorem dX1_waitsOf_0 : decode cX1_waitsOf 0 = .ok (.iconst 0, 1) := by decide +kernel
theorem dX1_waitsOf_1 : decode cX1_waitsOf 1 = .ok (.istore_n 2, 1) := by decide +kernel
theorem dX1_waitsOf_2 : decode cX1_waitsOf 2 = .ok (.iconst 0, 1) := by decide +kernel
theorem dX1_waitsOf_3 : decode cX1_waitsOf 3 = .ok (.istore_n 3, 1) := by decide +kernel
theorem dX1_waitsOf_4 : decode cX1_waitsOf 4 = .ok (.iload_n 3, 1) := by decide +kernel
theorem dX1_waitsOf_5 : decode cX1_waitsOf 5 = .ok (.aload_n 0, 1) := by decide +kernel
theorem dX1_waitsOf_6 : decode cX1_waitsOf 6 = .ok (.getfield 51, 3) := by decide +kernel
theorem dX1_waitsOf_9 : decode cX1_waitsOf 9 = .ok (.if_icmp .ge 37, 3) := by decide +kernel
theorem dX1_waitsOf_12 : decode cX1_waitsOf 12 = .ok (.aload_n 0, 1) := by decide +kernel
theorem dX1_waitsOf_13 : decode cX1_waitsOf 13 = .ok (.getfield 9, 3) := by decide +kernel
theorem dX1_waitsOf_16 : decode cX1_waitsOf 16 = .ok (.iload_n 3, 1) := by decide +kernel
theorem dX1_waitsOf_17 : decode cX1_waitsOf 17 = .ok (.iaload, 1) := by decide +kernel
theorem dX1_waitsOf_18 : decode cX1_waitsOf 18 = .ok (.iload_n 1, 1) := by decide +kernel
theorem dX1_waitsOf_19 : decode cX1_waitsOf 19 = .ok (.if_icmp .ne 21, 3) := by decide +kernel
theorem dX1_waitsOf_22 : decode cX1_waitsOf 22 = .ok (.aload_n 0, 1) := by decide +kernel
theorem dX1_waitsOf_23 : decode cX1_waitsOf 23 = .ok (.getfield 36, 3) := by decide +kernel
theorem dX1_waitsOf_26 : decode cX1_waitsOf 26 = .ok (.iload_n 3, 1) := by decide +kernel
theorem dX1_waitsOf_27 : decode cX1_waitsOf 27 = .ok (.iaload, 1) := by decide +kernel
theorem dX1_waitsOf_28 : decode cX1_waitsOf 28 = .ok (.iconst 1, 1) := by decide +kernel
theorem dX1_waitsOf_29 : decode cX1_waitsOf 29 = .ok (.if_icmp .ne 11, 3) := by decide +kernel
theorem dX1_waitsOf_32 : decode cX1_waitsOf 32 = .ok (.iload_n 2, 1) := by decide +kernel
theorem dX1_waitsOf_33 : decode cX1_waitsOf 33 = .ok (.aload_n 0, 1) := by decide +kernel
theorem dX1_waitsOf_34 : decode cX1_waitsOf 34 = .ok (.iload_n 3, 1) := by decide +kernel
theorem dX1_waitsOf_35 : decode cX1_waitsOf 35 = .ok (.invokevirtual 72, 3) := by decide +kernel
theorem dX1_waitsOf_38 : decode cX1_waitsOf 38 = .ok (.iadd, 1) := by decide +kernel
theorem dX1_waitsOf_39 : decode cX1_waitsOf 39 = .ok (.istore_n 2, 1) := by decide +kernel
theorem dX1_waitsOf_40 : decode cX1_waitsOf 40 = .ok (.iinc 3 1, 3) := by decide +kernel
theorem dX1_waitsOf_43 : decode cX1_waitsOf 43 = .ok (.goto (-39), 3) := by decide +kernel
theorem dX1_waitsOf_46 : decode cX1_waitsOf 46 = .ok (.iload_n 2, 1) := by decide +kernel
theorem dX1_waitsOf_47 : decode cX1_waitsOf 47 = .ok (.ireturn, 1) := by decide +kernel
theorem dX1_unevenness_0 : decode cX1_unevenness 0 = .ok (.aload_n 0, 1) := by decide +kernel
theorem dX1_unevenness_1 : decode cX1_unevenness 1 = .ok (.getfield 51, 3) := by decide +kernel
theorem dX1_unevenness_4 : decode cX1_unevenness 4 = .ok (.ifCond .ne 6, 3) := by decide +kernel
theorem dX1_unevenness_7 : decode cX1_unevenness 7 = .ok (.bipush (-2), 2) := by decide +kernel
theorem dX1_unevenness_9 : decode cX1_unevenness 9 = .ok (.ireturn, 1) := by decide +kernel
theorem dX1_unevenness_10 : decode cX1_unevenness 10 = .ok (.aload_n 0, 1) := by decide +kernel
theorem dX1_unevenness_11 : decode cX1_unevenness 11 = .ok (.aload_n 0, 1) := by decide +kernel
theorem dX1_unevenness_12 : decode cX1_unevenness 12 = .ok (.getfield 9, 3) := by decide +kernel
theorem dX1_unevenness_15 : decode cX1_unevenness 15 = .ok (.iconst 0, 1) := by decide +kernel
theorem dX1_unevenness_16 : decode cX1_unevenness 16 = .ok (.iaload, 1) := by decide +kernel
theorem dX1_unevenness_17 : decode cX1_unevenness 17 = .ok (.invokevirtual 84, 3) := by decide +kernel
theorem dX1_unevenness_20 : decode cX1_unevenness 20 = .ok (.istore_n 1, 1) := by decide +kernel
theorem dX1_unevenness_21 : decode cX1_unevenness 21 = .ok (.iload_n 1, 1) := by decide +kernel
theorem dX1_unevenness_22 : decode cX1_unevenness 22 = .ok (.istore_n 2, 1) := by decide +kernel
theorem dX1_unevenness_23 : decode cX1_unevenness 23 = .ok (.iconst 1, 1) := by decide +kernel
theorem dX1_unevenness_24 : decode cX1_unevenness 24 = .ok (.istore_n 3, 1) := by decide +kernel
theorem dX1_unevenness_25 : decode cX1_unevenness 25 = .ok (.iload_n 3, 1) := by decide +kernel
theorem dX1_unevenness_26 : decode cX1_unevenness 26 = .ok (.aload_n 0, 1) := by decide +kernel
theorem dX1_unevenness_27 : decode cX1_unevenness 27 = .ok (.getfield 51, 3) := by decide +kernel
theorem dX1_unevenness_30 : decode cX1_unevenness 30 = .ok (.if_icmp .ge 35, 3) := by decide +kernel
theorem dX1_unevenness_33 : decode cX1_unevenness 33 = .ok (.aload_n 0, 1) := by decide +kernel
theorem dX1_unevenness_34 : decode cX1_unevenness 34 = .ok (.aload_n 0, 1) := by decide +kernel
theorem dX1_unevenness_35 : decode cX1_unevenness 35 = .ok (.getfield 9, 3) := by decide +kernel
theorem dX1_unevenness_38 : decode cX1_unevenness 38 = .ok (.iload_n 3, 1) := by decide +kernel
theorem dX1_unevenness_39 : decode cX1_unevenness 39 = .ok (.iaload, 1) := by decide +kernel
theorem dX1_unevenness_40 : decode cX1_unevenness 40 = .ok (.invokevirtual 84, 3) := by decide +kernel
theorem dX1_unevenness_43 : decode cX1_unevenness 43 = .ok (.istore 4, 2) := by decide +kernel
theorem dX1_unevenness_45 : decode cX1_unevenness 45 = .ok (.iload_n 1, 1) := by decide +kernel
theorem dX1_unevenness_46 : decode cX1_unevenness 46 = .ok (.iload 4, 2) := by decide +kernel
theorem dX1_unevenness_48 : decode cX1_unevenness 48 = .ok (.invokestatic 75, 3) := by decide +kernel
theorem dX1_unevenness_51 : decode cX1_unevenness 51 = .ok (.istore_n 1, 1) := by decide +kernel
theorem dX1_unevenness_52 : decode cX1_unevenness 52 = .ok (.iload_n 2, 1) := by decide +kernel
theorem dX1_unevenness_53 : decode cX1_unevenness 53 = .ok (.iload 4, 2) := by decide +kernel
theorem dX1_unevenness_55 : decode cX1_unevenness 55 = .ok (.invokestatic 87, 3) := by decide +kernel
theorem dX1_unevenness_58 : decode cX1_unevenness 58 = .ok (.istore_n 2, 1) := by decide +kernel
theorem dX1_unevenness_59 : decode cX1_unevenness 59 = .ok (.iinc 3 1, 3) := by decide +kernel
theorem dX1_unevenness_62 : decode cX1_unevenness 62 = .ok (.goto (-37), 3) := by decide +kernel
theorem dX1_unevenness_65 : decode cX1_unevenness 65 = .ok (.iload_n 1, 1) := by decide +kernel
theorem dX1_unevenness_66 : decode cX1_unevenness 66 = .ok (.iload_n 2, 1) := by decide +kernel
theorem dX1_unevenness_67 : decode cX1_unevenness 67 = .ok (.isub, 1) := by decide +kernel
theorem dX1_unevenness_68 : decode cX1_unevenness 68 = .ok (.ireturn, 1) := by decide +kernel
theorem dX1_strangeKeys_0 : decode cX1_strangeKeys 0 = .ok (.iconst 0, 1) := by decide +kernel
theorem dX1_strangeKeys_1 : decode cX1_strangeKeys 1 = .ok (.istore_n 1, 1) := by decide +kernel
theorem dX1_strangeKeys_2 : decode cX1_strangeKeys 2 = .ok (.iconst 0, 1) := by decide +kernel
theorem dX1_strangeKeys_3 : decode cX1_strangeKeys 3 = .ok (.istore_n 2, 1) := by decide +kernel
theorem dX1_strangeKeys_4 : decode cX1_strangeKeys 4 = .ok (.iload_n 2, 1) := by decide +kernel
theorem dX1_strangeKeys_5 : decode cX1_strangeKeys 5 = .ok (.aload_n 0, 1) := by decide +kernel
theorem dX1_strangeKeys_6 : decode cX1_strangeKeys 6 = .ok (.getfield 51, 3) := by decide +kernel
theorem dX1_strangeKeys_9 : decode cX1_strangeKeys 9 = .ok (.if_icmp .ge 30, 3) := by decide +kernel
theorem dX1_strangeKeys_12 : decode cX1_strangeKeys 12 = .ok (.aload_n 0, 1) := by decide +kernel
theorem dX1_strangeKeys_13 : decode cX1_strangeKeys 13 = .ok (.getfield 30, 3) := by decide +kernel
theorem dX1_strangeKeys_16 : decode cX1_strangeKeys 16 = .ok (.iload_n 2, 1) := by decide +kernel
theorem dX1_strangeKeys_17 : decode cX1_strangeKeys 17 = .ok (.iaload, 1) := by decide +kernel
theorem dX1_strangeKeys_18 : decode cX1_strangeKeys 18 = .ok (.iconst 1, 1) := by decide +kernel
theorem dX1_strangeKeys_19 : decode cX1_strangeKeys 19 = .ok (.if_icmp .ne 14, 3) := by decide +kernel
theorem dX1_strangeKeys_22 : decode cX1_strangeKeys 22 = .ok (.aload_n 0, 1) := by decide +kernel
theorem dX1_strangeKeys_23 : decode cX1_strangeKeys 23 = .ok (.iload_n 2, 1) := by decide +kernel
theorem dX1_strangeKeys_24 : decode cX1_strangeKeys 24 = .ok (.invokevirtual 90, 3) := by decide +kernel
theorem dX1_strangeKeys_27 : decode cX1_strangeKeys 27 = .ok (.ifCond .ne 6, 3) := by decide +kernel
theorem dX1_strangeKeys_30 : decode cX1_strangeKeys 30 = .ok (.iinc 1 1, 3) := by decide +kernel
theorem dX1_strangeKeys_33 : decode cX1_strangeKeys 33 = .ok (.iinc 2 1, 3) := by decide +kernel
theorem dX1_strangeKeys_36 : decode cX1_strangeKeys 36 = .ok (.goto (-32), 3) := by decide +kernel
theorem dX1_strangeKeys_39 : decode cX1_strangeKeys 39 = .ok (.iload_n 1, 1) := by decide +kernel
theorem dX1_strangeKeys_40 : decode cX1_strangeKeys 40 = .ok (.ireturn, 1) := by decide +kernel
theorem dX1_sentWithin_0 : decode cX1_sentWithin 0 = .ok (.iconst 0, 1) := by decide +kernel
theorem dX1_sentWithin_1 : decode cX1_sentWithin 1 = .ok (.istore_n 3, 1) := by decide +kernel
theorem dX1_sentWithin_2 : decode cX1_sentWithin 2 = .ok (.iconst 0, 1) := by decide +kernel
theorem dX1_sentWithin_3 : decode cX1_sentWithin 3 = .ok (.istore 4, 2) := by decide +kernel
theorem dX1_sentWithin_5 : decode cX1_sentWithin 5 = .ok (.iload 4, 2) := by decide +kernel
theorem dX1_sentWithin_7 : decode cX1_sentWithin 7 = .ok (.aload_n 0, 1) := by decide +kernel
theorem dX1_sentWithin_8 : decode cX1_sentWithin 8 = .ok (.getfield 51, 3) := by decide +kernel
theorem dX1_sentWithin_11 : decode cX1_sentWithin 11 = .ok (.if_icmp .ge 43, 3) := by decide +kernel
theorem dX1_sentWithin_14 : decode cX1_sentWithin 14 = .ok (.aload_n 0, 1) := by decide +kernel
theorem dX1_sentWithin_15 : decode cX1_sentWithin 15 = .ok (.getfield 36, 3) := by decide +kernel
theorem dX1_sentWithin_18 : decode cX1_sentWithin 18 = .ok (.iload 4, 2) := by decide +kernel
theorem dX1_sentWithin_20 : decode cX1_sentWithin 20 = .ok (.iaload, 1) := by decide +kernel
theorem dX1_sentWithin_21 : decode cX1_sentWithin 21 = .ok (.iconst 1, 1) := by decide +kernel
theorem dX1_sentWithin_22 : decode cX1_sentWithin 22 = .ok (.if_icmp .ne 26, 3) := by decide +kernel
theorem dX1_sentWithin_25 : decode cX1_sentWithin 25 = .ok (.aload_n 0, 1) := by decide +kernel
theorem dX1_sentWithin_26 : decode cX1_sentWithin 26 = .ok (.iload 4, 2) := by decide +kernel
theorem dX1_sentWithin_28 : decode cX1_sentWithin 28 = .ok (.invokevirtual 72, 3) := by decide +kernel
theorem dX1_sentWithin_31 : decode cX1_sentWithin 31 = .ok (.iload_n 1, 1) := by decide +kernel
theorem dX1_sentWithin_32 : decode cX1_sentWithin 32 = .ok (.if_icmp .lt 16, 3) := by decide +kernel
theorem dX1_sentWithin_35 : decode cX1_sentWithin 35 = .ok (.aload_n 0, 1) := by decide +kernel
theorem dX1_sentWithin_36 : decode cX1_sentWithin 36 = .ok (.iload 4, 2) := by decide +kernel
theorem dX1_sentWithin_38 : decode cX1_sentWithin 38 = .ok (.invokevirtual 72, 3) := by decide +kernel
theorem dX1_sentWithin_41 : decode cX1_sentWithin 41 = .ok (.iload_n 2, 1) := by decide +kernel
theorem dX1_sentWithin_42 : decode cX1_sentWithin 42 = .ok (.if_icmp .gt 6, 3) := by decide +kernel
theorem dX1_sentWithin_45 : decode cX1_sentWithin 45 = .ok (.iinc 3 1, 3) := by decide +kernel
theorem dX1_sentWithin_48 : decode cX1_sentWithin 48 = .ok (.iinc 4 1, 3) := by decide +kernel
theorem dX1_sentWithin_51 : decode cX1_sentWithin 51 = .ok (.goto (-46), 3) := by decide +kernel
theorem dX1_sentWithin_54 : decode cX1_sentWithin 54 = .ok (.iload_n 3, 1) := by decide +kernel
theorem dX1_sentWithin_55 : decode cX1_sentWithin 55 = .ok (.ireturn, 1) := by decide +kernel
theorem dX1_bytesSentFrom_0 : decode cX1_bytesSentFrom 0 = .ok (.iconst 0, 1) := by decide +kernel
theorem dX1_bytesSentFrom_1 : decode cX1_bytesSentFrom 1 = .ok (.istore_n 2, 1) := by decide +kernel
theorem dX1_bytesSentFrom_2 : decode cX1_bytesSentFrom 2 = .ok (.iload_n 1, 1) := by decide +kernel
theorem dX1_bytesSentFrom_3 : decode cX1_bytesSentFrom 3 = .ok (.iconst 0, 1) := by decide +kernel
theorem dX1_bytesSentFrom_4 : decode cX1_bytesSentFrom 4 = .ok (.invokestatic 75, 3) := by decide +kernel
theorem dX1_bytesSentFrom_7 : decode cX1_bytesSentFrom 7 = .ok (.istore_n 3, 1) := by decide +kernel
theorem dX1_bytesSentFrom_8 : decode cX1_bytesSentFrom 8 = .ok (.iload_n 3, 1) := by decide +kernel
theorem dX1_bytesSentFrom_9 : decode cX1_bytesSentFrom 9 = .ok (.aload_n 0, 1) := by decide +kernel
theorem dX1_bytesSentFrom_10 : decode cX1_bytesSentFrom 10 = .ok (.getfield 55, 3) := by decide +kernel
theorem dX1_bytesSentFrom_13 : decode cX1_bytesSentFrom 13 = .ok (.if_icmp .ge 35, 3) := by decide +kernel
theorem dX1_bytesSentFrom_16 : decode cX1_bytesSentFrom 16 = .ok (.aload_n 0, 1) := by decide +kernel
theorem dX1_bytesSentFrom_17 : decode cX1_bytesSentFrom 17 = .ok (.iload_n 3, 1) := by decide +kernel
theorem dX1_bytesSentFrom_18 : decode cX1_bytesSentFrom 18 = .ok (.invokevirtual 81, 3) := by decide +kernel
theorem dX1_bytesSentFrom_21 : decode cX1_bytesSentFrom 21 = .ok (.istore 4, 2) := by decide +kernel
theorem dX1_bytesSentFrom_23 : decode cX1_bytesSentFrom 23 = .ok (.aload_n 0, 1) := by decide +kernel
theorem dX1_bytesSentFrom_24 : decode cX1_bytesSentFrom 24 = .ok (.iload 4, 2) := by decide +kernel
theorem dX1_bytesSentFrom_26 : decode cX1_bytesSentFrom 26 = .ok (.invokevirtual 68, 3) := by decide +kernel
theorem dX1_bytesSentFrom_29 : decode cX1_bytesSentFrom 29 = .ok (.ifCond .eq 13, 3) := by decide +kernel
theorem dX1_bytesSentFrom_32 : decode cX1_bytesSentFrom 32 = .ok (.iload_n 2, 1) := by decide +kernel
theorem dX1_bytesSentFrom_33 : decode cX1_bytesSentFrom 33 = .ok (.aload_n 0, 1) := by decide +kernel
theorem dX1_bytesSentFrom_34 : decode cX1_bytesSentFrom 34 = .ok (.getfield 15, 3) := by decide +kernel
theorem dX1_bytesSentFrom_37 : decode cX1_bytesSentFrom 37 = .ok (.iload 4, 2) := by decide +kernel
theorem dX1_bytesSentFrom_39 : decode cX1_bytesSentFrom 39 = .ok (.iaload, 1) := by decide +kernel
theorem dX1_bytesSentFrom_40 : decode cX1_bytesSentFrom 40 = .ok (.iadd, 1) := by decide +kernel
theorem dX1_bytesSentFrom_41 : decode cX1_bytesSentFrom 41 = .ok (.istore_n 2, 1) := by decide +kernel
theorem dX1_bytesSentFrom_42 : decode cX1_bytesSentFrom 42 = .ok (.iinc 3 1, 3) := by decide +kernel
theorem dX1_bytesSentFrom_45 : decode cX1_bytesSentFrom 45 = .ok (.goto (-37), 3) := by decide +kernel
theorem dX1_bytesSentFrom_48 : decode cX1_bytesSentFrom 48 = .ok (.iload_n 2, 1) := by decide +kernel
theorem dX1_bytesSentFrom_49 : decode cX1_bytesSentFrom 49 = .ok (.ireturn, 1) := by decide +kernel
theorem dX1_waitsFrom_0 : decode cX1_waitsFrom 0 = .ok (.iconst 0, 1) := by decide +kernel
theorem dX1_waitsFrom_1 : decode cX1_waitsFrom 1 = .ok (.istore_n 2, 1) := by decide +kernel
theorem dX1_waitsFrom_2 : decode cX1_waitsFrom 2 = .ok (.iload_n 1, 1) := by decide +kernel
theorem dX1_waitsFrom_3 : decode cX1_waitsFrom 3 = .ok (.iconst 0, 1) := by decide +kernel
theorem dX1_waitsFrom_4 : decode cX1_waitsFrom 4 = .ok (.invokestatic 75, 3) := by decide +kernel
theorem dX1_waitsFrom_7 : decode cX1_waitsFrom 7 = .ok (.istore_n 3, 1) := by decide +kernel
theorem dX1_waitsFrom_8 : decode cX1_waitsFrom 8 = .ok (.iload_n 3, 1) := by decide +kernel
theorem dX1_waitsFrom_9 : decode cX1_waitsFrom 9 = .ok (.aload_n 0, 1) := by decide +kernel
theorem dX1_waitsFrom_10 : decode cX1_waitsFrom 10 = .ok (.getfield 55, 3) := by decide +kernel
theorem dX1_waitsFrom_13 : decode cX1_waitsFrom 13 = .ok (.if_icmp .ge 34, 3) := by decide +kernel
theorem dX1_waitsFrom_16 : decode cX1_waitsFrom 16 = .ok (.aload_n 0, 1) := by decide +kernel
theorem dX1_waitsFrom_17 : decode cX1_waitsFrom 17 = .ok (.iload_n 3, 1) := by decide +kernel
theorem dX1_waitsFrom_18 : decode cX1_waitsFrom 18 = .ok (.invokevirtual 81, 3) := by decide +kernel
theorem dX1_waitsFrom_21 : decode cX1_waitsFrom 21 = .ok (.istore 4, 2) := by decide +kernel
theorem dX1_waitsFrom_23 : decode cX1_waitsFrom 23 = .ok (.aload_n 0, 1) := by decide +kernel
theorem dX1_waitsFrom_24 : decode cX1_waitsFrom 24 = .ok (.iload 4, 2) := by decide +kernel
theorem dX1_waitsFrom_26 : decode cX1_waitsFrom 26 = .ok (.invokevirtual 68, 3) := by decide +kernel
theorem dX1_waitsFrom_29 : decode cX1_waitsFrom 29 = .ok (.ifCond .eq 12, 3) := by decide +kernel
theorem dX1_waitsFrom_32 : decode cX1_waitsFrom 32 = .ok (.iload_n 2, 1) := by decide +kernel
theorem dX1_waitsFrom_33 : decode cX1_waitsFrom 33 = .ok (.aload_n 0, 1) := by decide +kernel
theorem dX1_waitsFrom_34 : decode cX1_waitsFrom 34 = .ok (.iload 4, 2) := by decide +kernel
theorem dX1_waitsFrom_36 : decode cX1_waitsFrom 36 = .ok (.invokevirtual 72, 3) := by decide +kernel
theorem dX1_waitsFrom_39 : decode cX1_waitsFrom 39 = .ok (.iadd, 1) := by decide +kernel
theorem dX1_waitsFrom_40 : decode cX1_waitsFrom 40 = .ok (.istore_n 2, 1) := by decide +kernel
theorem dX1_waitsFrom_41 : decode cX1_waitsFrom 41 = .ok (.iinc 3 1, 3) := by decide +kernel
theorem dX1_waitsFrom_44 : decode cX1_waitsFrom 44 = .ok (.goto (-36), 3) := by decide +kernel
theorem dX1_waitsFrom_47 : decode cX1_waitsFrom 47 = .ok (.iload_n 2, 1) := by decide +kernel
theorem dX1_waitsFrom_48 : decode cX1_waitsFrom 48 = .ok (.ireturn, 1) := by decide +kernel
theorem dX1_greatestWaitFrom_0 : decode cX1_greatestWaitFrom 0 = .ok (.bipush (-2), 2) := by decide +kernel
theorem dX1_greatestWaitFrom_2 : decode cX1_greatestWaitFrom 2 = .ok (.istore_n 2, 1) := by decide +kernel
theorem dX1_greatestWaitFrom_3 : decode cX1_greatestWaitFrom 3 = .ok (.iload_n 1, 1) := by decide +kernel
theorem dX1_greatestWaitFrom_4 : decode cX1_greatestWaitFrom 4 = .ok (.iconst 0, 1) := by decide +kernel
theorem dX1_greatestWaitFrom_5 : decode cX1_greatestWaitFrom 5 = .ok (.invokestatic 75, 3) := by decide +kernel
theorem dX1_greatestWaitFrom_8 : decode cX1_greatestWaitFrom 8 = .ok (.istore_n 3, 1) := by decide +kernel
theorem dX1_greatestWaitFrom_9 : decode cX1_greatestWaitFrom 9 = .ok (.iload_n 3, 1) := by decide +kernel
theorem dX1_greatestWaitFrom_10 : decode cX1_greatestWaitFrom 10 = .ok (.aload_n 0, 1) := by decide +kernel
theorem dX1_greatestWaitFrom_11 : decode cX1_greatestWaitFrom 11 = .ok (.getfield 55, 3) := by decide +kernel
theorem dX1_greatestWaitFrom_14 : decode cX1_greatestWaitFrom 14 = .ok (.if_icmp .ge 36, 3) := by decide +kernel
theorem dX1_greatestWaitFrom_17 : decode cX1_greatestWaitFrom 17 = .ok (.aload_n 0, 1) := by decide +kernel
theorem dX1_greatestWaitFrom_18 : decode cX1_greatestWaitFrom 18 = .ok (.iload_n 3, 1) := by decide +kernel
theorem dX1_greatestWaitFrom_19 : decode cX1_greatestWaitFrom 19 = .ok (.invokevirtual 81, 3) := by decide +kernel
theorem dX1_greatestWaitFrom_22 : decode cX1_greatestWaitFrom 22 = .ok (.istore 4, 2) := by decide +kernel
theorem dX1_greatestWaitFrom_24 : decode cX1_greatestWaitFrom 24 = .ok (.aload_n 0, 1) := by decide +kernel
theorem dX1_greatestWaitFrom_25 : decode cX1_greatestWaitFrom 25 = .ok (.iload 4, 2) := by decide +kernel
theorem dX1_greatestWaitFrom_27 : decode cX1_greatestWaitFrom 27 = .ok (.invokevirtual 68, 3) := by decide +kernel
theorem dX1_greatestWaitFrom_30 : decode cX1_greatestWaitFrom 30 = .ok (.ifCond .eq 14, 3) := by decide +kernel
theorem dX1_greatestWaitFrom_33 : decode cX1_greatestWaitFrom 33 = .ok (.iload_n 2, 1) := by decide +kernel
theorem dX1_greatestWaitFrom_34 : decode cX1_greatestWaitFrom 34 = .ok (.aload_n 0, 1) := by decide +kernel
theorem dX1_greatestWaitFrom_35 : decode cX1_greatestWaitFrom 35 = .ok (.iload 4, 2) := by decide +kernel
theorem dX1_greatestWaitFrom_37 : decode cX1_greatestWaitFrom 37 = .ok (.invokevirtual 72, 3) := by decide +kernel
theorem dX1_greatestWaitFrom_40 : decode cX1_greatestWaitFrom 40 = .ok (.invokestatic 75, 3) := by decide +kernel
theorem dX1_greatestWaitFrom_43 : decode cX1_greatestWaitFrom 43 = .ok (.istore_n 2, 1) := by decide +kernel
theorem dX1_greatestWaitFrom_44 : decode cX1_greatestWaitFrom 44 = .ok (.iinc 3 1, 3) := by decide +kernel
theorem dX1_greatestWaitFrom_47 : decode cX1_greatestWaitFrom 47 = .ok (.goto (-38), 3) := by decide +kernel
theorem dX1_greatestWaitFrom_50 : decode cX1_greatestWaitFrom 50 = .ok (.iload_n 2, 1) := by decide +kernel
theorem dX1_greatestWaitFrom_51 : decode cX1_greatestWaitFrom 51 = .ok (.ireturn, 1) := by decide +kernel
theorem dX1_middleWait_0 : decode cX1_middleWait 0 = .ok (.aload_n 0, 1) := by decide +kernel
theorem dX1_middleWait_1 : decode cX1_middleWait 1 = .ok (.getfield 48, 3) := by decide +kernel
theorem dX1_middleWait_4 : decode cX1_middleWait 4 = .ok (.iconst 1, 1) := by decide +kernel
theorem dX1_middleWait_5 : decode cX1_middleWait 5 = .ok (.iaload, 1) := by decide +kernel
theorem dX1_middleWait_6 : decode cX1_middleWait 6 = .ok (.istore_n 1, 1) := by decide +kernel
theorem dX1_middleWait_7 : decode cX1_middleWait 7 = .ok (.iload_n 1, 1) := by decide +kernel
theorem dX1_middleWait_8 : decode cX1_middleWait 8 = .ok (.ifCond .ne 6, 3) := by decide +kernel
theorem dX1_middleWait_11 : decode cX1_middleWait 11 = .ok (.bipush (-2), 2) := by decide +kernel
theorem dX1_middleWait_13 : decode cX1_middleWait 13 = .ok (.ireturn, 1) := by decide +kernel
theorem dX1_middleWait_14 : decode cX1_middleWait 14 = .ok (.iconst 0, 1) := by decide +kernel
theorem dX1_middleWait_15 : decode cX1_middleWait 15 = .ok (.istore_n 2, 1) := by decide +kernel
theorem dX1_middleWait_16 : decode cX1_middleWait 16 = .ok (.ldc 93, 2) := by decide +kernel
theorem dX1_middleWait_18 : decode cX1_middleWait 18 = .ok (.istore_n 3, 1) := by decide +kernel
theorem dX1_middleWait_19 : decode cX1_middleWait 19 = .ok (.iconst 0, 1) := by decide +kernel
theorem dX1_middleWait_20 : decode cX1_middleWait 20 = .ok (.istore 4, 2) := by decide +kernel
theorem dX1_middleWait_22 : decode cX1_middleWait 22 = .ok (.iload 4, 2) := by decide +kernel
theorem dX1_middleWait_24 : decode cX1_middleWait 24 = .ok (.bipush 30, 2) := by decide +kernel
theorem dX1_middleWait_26 : decode cX1_middleWait 26 = .ok (.if_icmp .ge 45, 3) := by decide +kernel
theorem dX1_middleWait_29 : decode cX1_middleWait 29 = .ok (.iload_n 2, 1) := by decide +kernel
theorem dX1_middleWait_30 : decode cX1_middleWait 30 = .ok (.iload_n 3, 1) := by decide +kernel
theorem dX1_middleWait_31 : decode cX1_middleWait 31 = .ok (.if_icmp .ge 40, 3) := by decide +kernel
theorem dX1_middleWait_34 : decode cX1_middleWait 34 = .ok (.iload_n 2, 1) := by decide +kernel
theorem dX1_middleWait_35 : decode cX1_middleWait 35 = .ok (.iload_n 3, 1) := by decide +kernel
theorem dX1_middleWait_36 : decode cX1_middleWait 36 = .ok (.iadd, 1) := by decide +kernel
theorem dX1_middleWait_37 : decode cX1_middleWait 37 = .ok (.iconst 1, 1) := by decide +kernel
theorem dX1_middleWait_38 : decode cX1_middleWait 38 = .ok (.ishr, 1) := by decide +kernel
theorem dX1_middleWait_39 : decode cX1_middleWait 39 = .ok (.istore 5, 2) := by decide +kernel
theorem dX1_middleWait_41 : decode cX1_middleWait 41 = .ok (.aload_n 0, 1) := by decide +kernel
theorem dX1_middleWait_42 : decode cX1_middleWait 42 = .ok (.iconst 0, 1) := by decide +kernel
theorem dX1_middleWait_43 : decode cX1_middleWait 43 = .ok (.iload 5, 2) := by decide +kernel
theorem dX1_middleWait_45 : decode cX1_middleWait 45 = .ok (.invokevirtual 94, 3) := by decide +kernel
theorem dX1_middleWait_48 : decode cX1_middleWait 48 = .ok (.iload_n 1, 1) := by decide +kernel
theorem dX1_middleWait_49 : decode cX1_middleWait 49 = .ok (.iconst 2, 1) := by decide +kernel
theorem dX1_middleWait_50 : decode cX1_middleWait 50 = .ok (.idiv, 1) := by decide +kernel
theorem dX1_middleWait_51 : decode cX1_middleWait 51 = .ok (.if_icmp .le 9, 3) := by decide +kernel
theorem dX1_middleWait_54 : decode cX1_middleWait 54 = .ok (.iload 5, 2) := by decide +kernel
theorem dX1_middleWait_56 : decode cX1_middleWait 56 = .ok (.istore_n 3, 1) := by decide +kernel
theorem dX1_middleWait_57 : decode cX1_middleWait 57 = .ok (.goto 8, 3) := by decide +kernel
theorem dX1_middleWait_60 : decode cX1_middleWait 60 = .ok (.iload 5, 2) := by decide +kernel
theorem dX1_middleWait_62 : decode cX1_middleWait 62 = .ok (.iconst 1, 1) := by decide +kernel
theorem dX1_middleWait_63 : decode cX1_middleWait 63 = .ok (.iadd, 1) := by decide +kernel
theorem dX1_middleWait_64 : decode cX1_middleWait 64 = .ok (.istore_n 2, 1) := by decide +kernel
theorem dX1_middleWait_65 : decode cX1_middleWait 65 = .ok (.iinc 4 1, 3) := by decide +kernel
theorem dX1_middleWait_68 : decode cX1_middleWait 68 = .ok (.goto (-46), 3) := by decide +kernel
theorem dX1_middleWait_71 : decode cX1_middleWait 71 = .ok (.iload_n 2, 1) := by decide +kernel
theorem dX1_middleWait_72 : decode cX1_middleWait 72 = .ok (.ireturn, 1) := by decide +kernel
def b_X1_clear_12 (o0 : Nat) (k12 : Hp × Int32 → Option Hp) (q : Hp × Int32) : Option Hp :=
  if 5 ≤ q.2 then (some q.1) else (if ib q.2 5 then (nv (hp q.1 (o0 + 13) (Int32.toNatClampNeg q.2) 0) fun h2 => k12 (h2, q.2 + 1)) else none)
def p_X1_clear (h : Hp) (o0 : Nat) : Option Hp :=
  nv (hp h o0 13 0) fun h3 => nv (hp h3 o0 14 0) fun h4 => lp (b_X1_clear_12 o0) FU (h4, 0)
set_option maxRecDepth 4000 in
theorem s_X1_clear_12 {p : Program} {l : Launch} {e : Env} {s : State} {m : MethodId} {args : Array Value} {below : List Frame} {meth : Method} {c : Code} {G : GT} (cx : CX p s m args c cX1_clear 2 RX1 G) (hr : meth.sig.returnType = none) (hlk : meth.locks = false) (o0 : Nat) (hk_o0 : kd o0 = 1) : ∀ (n : Nat) (q : Hp × Int32), PF p l e (rmc 0 0) s m args below meth c 2 G 0 0 (QV below G args s) 12 [some (.ref (gad G o0)), some (.int q.2)] [] q.1 (lp (b_X1_clear_12 o0) n q) := by
  refine f_lp (lvf := fun (q : Hp × Int32) => [some (.ref (gad G o0)), some (.int q.2)]) (hf := fun (q : Hp × Int32) => q.1) (fun k12 hk12 q => ?_)
  show PF p l e (rmc 0 0) s m args below meth c 2 G 0 0 (QV below G args s) 12 [some (.ref (gad G o0)), some (.int q.2)] [] q.1 (b_X1_clear_12 o0 k12 q)
  unfold b_X1_clear_12
  refine f_iload_n (pc := 12) cx dX1_clear_12 rfl rfl ?_
  refine f_iconst (pc := 13) cx dX1_clear_13 kc_iconst_5 ?_
  refine f_icmp_ge (pc := 14) (tgt := 30) cx dX1_clear_14 (by decide) (fun _ => ?_) (fun _ => ?_)
  · exact f_vret cx hr hlk dX1_clear_30
  · refine f_aload_n (pc := 17) cx dX1_clear_17 rfl rfl ?_
    refine g_X1_48 (pc := 18) cx hk_o0 dX1_clear_18 ?_
    refine f_iload_n (pc := 21) cx dX1_clear_21 rfl rfl ?_
    refine f_iconst (pc := 22) cx dX1_clear_22 kc_iconst_0 ?_
    refine f_need (fun c1 => ?_)
    refine f_iast (pc := 23) (n := 5) cx (kf_1_12 hk_o0) (by decide) c1 dX1_clear_23 ?_
    refine f_nvh (fun h2 => ?_)
    refine f_iinc1 (pc := 24) cx dX1_clear_24 kc_iconst_1 (by decide) rfl ?_
    refine f_goto (pc := 27) (tgt := 12) cx dX1_clear_27 (by decide) ?_
    exact f_weak (LSb.s (LSb.s LSb.e)) (hk12 (h2, q.2 + 1))
set_option maxRecDepth 4000 in
theorem s_X1_clear {p : Program} {l : Launch} {e : Env} {s : State} {m : MethodId} {args : Array Value} {below : List Frame} {meth : Method} {c : Code} {G : GT} (cx : CX p s m args c cX1_clear 2 RX1 G) (hr : meth.sig.returnType = none) (hlk : meth.locks = false) (h : Hp) (o0 : Nat) (hk_o0 : kd o0 = 1) : PF p l e (rmc 0 0) s m args below meth c 2 G 0 0 (QV below G args s) 0 [some (.ref (gad G o0)), none] [] h (p_X1_clear h o0) := by
  unfold p_X1_clear
  refine f_aload_n (pc := 0) cx dX1_clear_0 rfl rfl ?_
  refine f_iconst (pc := 1) cx dX1_clear_1 kc_iconst_0 ?_
  refine u_X1_51 (pc := 2) cx hk_o0 dX1_clear_2 ?_
  refine f_nvh (fun h3 => ?_)
  refine f_aload_n (pc := 5) cx dX1_clear_5 rfl rfl ?_
  refine f_iconst (pc := 6) cx dX1_clear_6 kc_iconst_0 ?_
  refine u_X1_55 (pc := 7) cx hk_o0 dX1_clear_7 ?_
  refine f_nvh (fun h4 => ?_)
  refine f_iconst (pc := 10) cx dX1_clear_10 kc_iconst_0 ?_
  refine f_istore1 (pc := 11) cx dX1_clear_11 (by decide) rfl ?_
  exact f_weak (LSb.s (LSb.s LSb.e)) (s_X1_clear_12 cx hr hlk o0 hk_o0 FU (h4, 0))
set_option maxRecDepth 4000 in
theorem c_X1_clear (l : Launch) (G : GT) (h : Hp) (o0 : Nat) (hk_o0 : kd o0 = 1) : CtV l G yX1_clear cX1_clear 2 none 0 0 [.ref (gad G o0)] h (p_X1_clear h o0) := fun a ha => Ct.of (lv := [some (.ref (gad G o0)), none]) (by decide) rfl (Nat.le_of_ble_eq_true rfl) rfl (fun p e s m args below meth c cx hr hlk => s_X1_clear cx hr hlk h o0 hk_o0 a ha)
def p_X1_copyFrom (h : Hp) (o0 : Nat) (o1 : Nat) : Option Hp :=
  nv (hp h o0 13 (h o1 13)) fun h1 => nv (hp h1 o0 14 (h1 o1 14)) fun h2 => if cpk (h2 o0 13) 200 200 then (nv (va_up h2 (o0 + 1) (va_cpy (h2 (o1 + 1)) (h2 (o0 + 1)) 0 0 (Int32.toNatClampNeg (h2 o0 13)))) fun h4 => if cpk (h4 o0 13) 200 200 then (nv (va_up h4 (o0 + 2) (va_cpy (h4 (o1 + 2)) (h4 (o0 + 2)) 0 0 (Int32.toNatClampNeg (h4 o0 13)))) fun h6 => if cpk (h6 o0 13) 200 200 then (nv (va_up h6 (o0 + 3) (va_cpy (h6 (o1 + 3)) (h6 (o0 + 3)) 0 0 (Int32.toNatClampNeg (h6 o0 13)))) fun h8 => if cpk (h8 o0 13) 200 200 then (nv (va_up h8 (o0 + 4) (va_cpy (h8 (o1 + 4)) (h8 (o0 + 4)) 0 0 (Int32.toNatClampNeg (h8 o0 13)))) fun h10 => if cpk (h10 o0 13) 200 200 then (nv (va_up h10 (o0 + 5) (va_cpy (h10 (o1 + 5)) (h10 (o0 + 5)) 0 0 (Int32.toNatClampNeg (h10 o0 13)))) fun h12 => if cpk (h12 o0 13) 200 200 then (nv (va_up h12 (o0 + 6) (va_cpy (h12 (o1 + 6)) (h12 (o0 + 6)) 0 0 (Int32.toNatClampNeg (h12 o0 13)))) fun h14 => if cpk (h14 o0 13) 200 200 then (nv (va_up h14 (o0 + 7) (va_cpy (h14 (o1 + 7)) (h14 (o0 + 7)) 0 0 (Int32.toNatClampNeg (h14 o0 13)))) fun h16 => if cpk (h16 o0 13) 200 200 then (nv (va_up h16 (o0 + 8) (va_cpy (h16 (o1 + 8)) (h16 (o0 + 8)) 0 0 (Int32.toNatClampNeg (h16 o0 13)))) fun h18 => if cpk (h18 o0 13) 200 200 then (nv (va_up h18 (o0 + 9) (va_cpy (h18 (o1 + 9)) (h18 (o0 + 9)) 0 0 (Int32.toNatClampNeg (h18 o0 13)))) fun h20 => if cpk (h20 o0 13) 200 200 then (nv (va_up h20 (o0 + 10) (va_cpy (h20 (o1 + 10)) (h20 (o0 + 10)) 0 0 (Int32.toNatClampNeg (h20 o0 13)))) fun h22 => if cpk (h22 o0 13) 200 200 then (nv (va_up h22 (o0 + 11) (va_cpy (h22 (o1 + 11)) (h22 (o0 + 11)) 0 0 (Int32.toNatClampNeg (h22 o0 13)))) fun h24 => if cpk (h24 o0 14) 200 200 then (nv (va_up h24 (o0 + 12) (va_cpy (h24 (o1 + 12)) (h24 (o0 + 12)) 0 0 (Int32.toNatClampNeg (h24 o0 14)))) fun h26 => nv (va_up h26 (o0 + 13) (va_cpy (h26 (o1 + 13)) (h26 (o0 + 13)) 0 0 (Int32.toNatClampNeg 5))) fun h27 => some h27) else none) else none) else none) else none) else none) else none) else none) else none) else none) else none) else none) else none
set_option maxRecDepth 4000 in
theorem s_X1_copyFrom {p : Program} {l : Launch} {e : Env} {s : State} {m : MethodId} {args : Array Value} {below : List Frame} {meth : Method} {c : Code} {G : GT} (cx : CX p s m args c cX1_copyFrom 2 RX1 G) (hr : meth.sig.returnType = none) (hlk : meth.locks = false) (h : Hp) (o0 : Nat) (o1 : Nat) (hk_o0 : kd o0 = 1) (hk_o1 : kd o1 = 1) : PF p l e (rmc 1 27) s m args below meth c 2 G 0 0 (QV below G args s) 0 [some (.ref (gad G o0)), some (.ref (gad G o1))] [] h (p_X1_copyFrom h o0 o1) := by
  unfold p_X1_copyFrom
  refine f_aload_n (pc := 0) cx dX1_copyFrom_0 rfl rfl ?_
  refine f_aload_n (pc := 1) cx dX1_copyFrom_1 rfl rfl ?_
  refine g_X1_51 (pc := 2) cx hk_o1 dX1_copyFrom_2 ?_
  refine u_X1_51 (pc := 5) cx hk_o0 dX1_copyFrom_5 ?_
  refine f_nvh (fun h1 => ?_)
  refine f_aload_n (pc := 8) cx dX1_copyFrom_8 rfl rfl ?_
  refine f_aload_n (pc := 9) cx dX1_copyFrom_9 rfl rfl ?_
  refine g_X1_55 (pc := 10) cx hk_o1 dX1_copyFrom_10 ?_
  refine u_X1_55 (pc := 13) cx hk_o0 dX1_copyFrom_13 ?_
  refine f_nvh (fun h2 => ?_)
  refine f_aload_n (pc := 16) cx dX1_copyFrom_16 rfl rfl ?_
  refine g_X1_9 (pc := 17) cx hk_o1 dX1_copyFrom_17 ?_
  refine f_iconst (pc := 20) cx dX1_copyFrom_20 kc_iconst_0 ?_
  refine f_aload_n (pc := 21) cx dX1_copyFrom_21 rfl rfl ?_
  refine g_X1_9 (pc := 22) cx hk_o0 dX1_copyFrom_22 ?_
  refine f_iconst (pc := 25) cx dX1_copyFrom_25 kc_iconst_0 ?_
  refine f_aload_n (pc := 26) cx dX1_copyFrom_26 rfl rfl ?_
  refine g_X1_51 (pc := 27) cx hk_o0 dX1_copyFrom_27 ?_
  refine f_need (fun c3 => ?_)
  refine f_ac (pc := 30) (n0 := 200) (n1 := 200) cx (kf_1_0 hk_o1) (kf_1_0 hk_o0) (by decide) (by decide) c3 w_910 w_419 w_418 w_102 ⟨by decide, by decide⟩ (Nat.le_of_ble_eq_true rfl) dX1_copyFrom_30 ?_
  refine f_nvh (fun h4 => ?_)
  refine f_aload_n (pc := 33) cx dX1_copyFrom_33 rfl rfl ?_
  refine g_X1_15 (pc := 34) cx hk_o1 dX1_copyFrom_34 ?_
  refine f_iconst (pc := 37) cx dX1_copyFrom_37 kc_iconst_0 ?_
  refine f_aload_n (pc := 38) cx dX1_copyFrom_38 rfl rfl ?_
  refine g_X1_15 (pc := 39) cx hk_o0 dX1_copyFrom_39 ?_
  refine f_iconst (pc := 42) cx dX1_copyFrom_42 kc_iconst_0 ?_
  refine f_aload_n (pc := 43) cx dX1_copyFrom_43 rfl rfl ?_
  refine g_X1_51 (pc := 44) cx hk_o0 dX1_copyFrom_44 ?_
  refine f_need (fun c5 => ?_)
  refine f_ac (pc := 47) (n0 := 200) (n1 := 200) cx (kf_1_1 hk_o1) (kf_1_1 hk_o0) (by decide) (by decide) c5 w_910 w_419 w_418 w_102 ⟨by decide, by decide⟩ (Nat.le_of_ble_eq_true rfl) dX1_copyFrom_47 ?_
  refine f_nvh (fun h6 => ?_)
  refine f_aload_n (pc := 50) cx dX1_copyFrom_50 rfl rfl ?_
  refine g_X1_18 (pc := 51) cx hk_o1 dX1_copyFrom_51 ?_
  refine f_iconst (pc := 54) cx dX1_copyFrom_54 kc_iconst_0 ?_
  refine f_aload_n (pc := 55) cx dX1_copyFrom_55 rfl rfl ?_
  refine g_X1_18 (pc := 56) cx hk_o0 dX1_copyFrom_56 ?_
  refine f_iconst (pc := 59) cx dX1_copyFrom_59 kc_iconst_0 ?_
  refine f_aload_n (pc := 60) cx dX1_copyFrom_60 rfl rfl ?_
  refine g_X1_51 (pc := 61) cx hk_o0 dX1_copyFrom_61 ?_
  refine f_need (fun c7 => ?_)
  refine f_ac (pc := 64) (n0 := 200) (n1 := 200) cx (kf_1_2 hk_o1) (kf_1_2 hk_o0) (by decide) (by decide) c7 w_910 w_419 w_418 w_102 ⟨by decide, by decide⟩ (Nat.le_of_ble_eq_true rfl) dX1_copyFrom_64 ?_
  refine f_nvh (fun h8 => ?_)
  refine f_aload_n (pc := 67) cx dX1_copyFrom_67 rfl rfl ?_
  refine g_X1_21 (pc := 68) cx hk_o1 dX1_copyFrom_68 ?_
  refine f_iconst (pc := 71) cx dX1_copyFrom_71 kc_iconst_0 ?_
  refine f_aload_n (pc := 72) cx dX1_copyFrom_72 rfl rfl ?_
  refine g_X1_21 (pc := 73) cx hk_o0 dX1_copyFrom_73 ?_
  refine f_iconst (pc := 76) cx dX1_copyFrom_76 kc_iconst_0 ?_
  refine f_aload_n (pc := 77) cx dX1_copyFrom_77 rfl rfl ?_
  refine g_X1_51 (pc := 78) cx hk_o0 dX1_copyFrom_78 ?_
  refine f_need (fun c9 => ?_)
  refine f_ac (pc := 81) (n0 := 200) (n1 := 200) cx (kf_1_3 hk_o1) (kf_1_3 hk_o0) (by decide) (by decide) c9 w_910 w_419 w_418 w_102 ⟨by decide, by decide⟩ (Nat.le_of_ble_eq_true rfl) dX1_copyFrom_81 ?_
  refine f_nvh (fun h10 => ?_)
  refine f_aload_n (pc := 84) cx dX1_copyFrom_84 rfl rfl ?_
  refine g_X1_24 (pc := 85) cx hk_o1 dX1_copyFrom_85 ?_
  refine f_iconst (pc := 88) cx dX1_copyFrom_88 kc_iconst_0 ?_
  refine f_aload_n (pc := 89) cx dX1_copyFrom_89 rfl rfl ?_
  refine g_X1_24 (pc := 90) cx hk_o0 dX1_copyFrom_90 ?_
  refine f_iconst (pc := 93) cx dX1_copyFrom_93 kc_iconst_0 ?_
  refine f_aload_n (pc := 94) cx dX1_copyFrom_94 rfl rfl ?_
  refine g_X1_51 (pc := 95) cx hk_o0 dX1_copyFrom_95 ?_
  refine f_need (fun c11 => ?_)
  refine f_ac (pc := 98) (n0 := 200) (n1 := 200) cx (kf_1_4 hk_o1) (kf_1_4 hk_o0) (by decide) (by decide) c11 w_910 w_419 w_418 w_102 ⟨by decide, by decide⟩ (Nat.le_of_ble_eq_true rfl) dX1_copyFrom_98 ?_
  refine f_nvh (fun h12 => ?_)
  refine f_aload_n (pc := 101) cx dX1_copyFrom_101 rfl rfl ?_
  refine g_X1_27 (pc := 102) cx hk_o1 dX1_copyFrom_102 ?_
  refine f_iconst (pc := 105) cx dX1_copyFrom_105 kc_iconst_0 ?_
  refine f_aload_n (pc := 106) cx dX1_copyFrom_106 rfl rfl ?_
  refine g_X1_27 (pc := 107) cx hk_o0 dX1_copyFrom_107 ?_
  refine f_iconst (pc := 110) cx dX1_copyFrom_110 kc_iconst_0 ?_
  refine f_aload_n (pc := 111) cx dX1_copyFrom_111 rfl rfl ?_
  refine g_X1_51 (pc := 112) cx hk_o0 dX1_copyFrom_112 ?_
  refine f_need (fun c13 => ?_)
  refine f_ac (pc := 115) (n0 := 200) (n1 := 200) cx (kf_1_5 hk_o1) (kf_1_5 hk_o0) (by decide) (by decide) c13 w_910 w_419 w_418 w_102 ⟨by decide, by decide⟩ (Nat.le_of_ble_eq_true rfl) dX1_copyFrom_115 ?_
  refine f_nvh (fun h14 => ?_)
  refine f_aload_n (pc := 118) cx dX1_copyFrom_118 rfl rfl ?_
  refine g_X1_30 (pc := 119) cx hk_o1 dX1_copyFrom_119 ?_
  refine f_iconst (pc := 122) cx dX1_copyFrom_122 kc_iconst_0 ?_
  refine f_aload_n (pc := 123) cx dX1_copyFrom_123 rfl rfl ?_
  refine g_X1_30 (pc := 124) cx hk_o0 dX1_copyFrom_124 ?_
  refine f_iconst (pc := 127) cx dX1_copyFrom_127 kc_iconst_0 ?_
  refine f_aload_n (pc := 128) cx dX1_copyFrom_128 rfl rfl ?_
  refine g_X1_51 (pc := 129) cx hk_o0 dX1_copyFrom_129 ?_
  refine f_need (fun c15 => ?_)
  refine f_ac (pc := 132) (n0 := 200) (n1 := 200) cx (kf_1_6 hk_o1) (kf_1_6 hk_o0) (by decide) (by decide) c15 w_910 w_419 w_418 w_102 ⟨by decide, by decide⟩ (Nat.le_of_ble_eq_true rfl) dX1_copyFrom_132 ?_
  refine f_nvh (fun h16 => ?_)
  refine f_aload_n (pc := 135) cx dX1_copyFrom_135 rfl rfl ?_
  refine g_X1_33 (pc := 136) cx hk_o1 dX1_copyFrom_136 ?_
  refine f_iconst (pc := 139) cx dX1_copyFrom_139 kc_iconst_0 ?_
  refine f_aload_n (pc := 140) cx dX1_copyFrom_140 rfl rfl ?_
  refine g_X1_33 (pc := 141) cx hk_o0 dX1_copyFrom_141 ?_
  refine f_iconst (pc := 144) cx dX1_copyFrom_144 kc_iconst_0 ?_
  refine f_aload_n (pc := 145) cx dX1_copyFrom_145 rfl rfl ?_
  refine g_X1_51 (pc := 146) cx hk_o0 dX1_copyFrom_146 ?_
  refine f_need (fun c17 => ?_)
  refine f_ac (pc := 149) (n0 := 200) (n1 := 200) cx (kf_1_7 hk_o1) (kf_1_7 hk_o0) (by decide) (by decide) c17 w_910 w_419 w_418 w_102 ⟨by decide, by decide⟩ (Nat.le_of_ble_eq_true rfl) dX1_copyFrom_149 ?_
  refine f_nvh (fun h18 => ?_)
  refine f_aload_n (pc := 152) cx dX1_copyFrom_152 rfl rfl ?_
  refine g_X1_36 (pc := 153) cx hk_o1 dX1_copyFrom_153 ?_
  refine f_iconst (pc := 156) cx dX1_copyFrom_156 kc_iconst_0 ?_
  refine f_aload_n (pc := 157) cx dX1_copyFrom_157 rfl rfl ?_
  refine g_X1_36 (pc := 158) cx hk_o0 dX1_copyFrom_158 ?_
  refine f_iconst (pc := 161) cx dX1_copyFrom_161 kc_iconst_0 ?_
  refine f_aload_n (pc := 162) cx dX1_copyFrom_162 rfl rfl ?_
  refine g_X1_51 (pc := 163) cx hk_o0 dX1_copyFrom_163 ?_
  refine f_need (fun c19 => ?_)
  refine f_ac (pc := 166) (n0 := 200) (n1 := 200) cx (kf_1_8 hk_o1) (kf_1_8 hk_o0) (by decide) (by decide) c19 w_910 w_419 w_418 w_102 ⟨by decide, by decide⟩ (Nat.le_of_ble_eq_true rfl) dX1_copyFrom_166 ?_
  refine f_nvh (fun h20 => ?_)
  refine f_aload_n (pc := 169) cx dX1_copyFrom_169 rfl rfl ?_
  refine g_X1_39 (pc := 170) cx hk_o1 dX1_copyFrom_170 ?_
  refine f_iconst (pc := 173) cx dX1_copyFrom_173 kc_iconst_0 ?_
  refine f_aload_n (pc := 174) cx dX1_copyFrom_174 rfl rfl ?_
  refine g_X1_39 (pc := 175) cx hk_o0 dX1_copyFrom_175 ?_
  refine f_iconst (pc := 178) cx dX1_copyFrom_178 kc_iconst_0 ?_
  refine f_aload_n (pc := 179) cx dX1_copyFrom_179 rfl rfl ?_
  refine g_X1_51 (pc := 180) cx hk_o0 dX1_copyFrom_180 ?_
  refine f_need (fun c21 => ?_)
  refine f_ac (pc := 183) (n0 := 200) (n1 := 200) cx (kf_1_9 hk_o1) (kf_1_9 hk_o0) (by decide) (by decide) c21 w_910 w_419 w_418 w_102 ⟨by decide, by decide⟩ (Nat.le_of_ble_eq_true rfl) dX1_copyFrom_183 ?_
  refine f_nvh (fun h22 => ?_)
  refine f_aload_n (pc := 186) cx dX1_copyFrom_186 rfl rfl ?_
  refine g_X1_42 (pc := 187) cx hk_o1 dX1_copyFrom_187 ?_
  refine f_iconst (pc := 190) cx dX1_copyFrom_190 kc_iconst_0 ?_
  refine f_aload_n (pc := 191) cx dX1_copyFrom_191 rfl rfl ?_
  refine g_X1_42 (pc := 192) cx hk_o0 dX1_copyFrom_192 ?_
  refine f_iconst (pc := 195) cx dX1_copyFrom_195 kc_iconst_0 ?_
  refine f_aload_n (pc := 196) cx dX1_copyFrom_196 rfl rfl ?_
  refine g_X1_51 (pc := 197) cx hk_o0 dX1_copyFrom_197 ?_
  refine f_need (fun c23 => ?_)
  refine f_ac (pc := 200) (n0 := 200) (n1 := 200) cx (kf_1_10 hk_o1) (kf_1_10 hk_o0) (by decide) (by decide) c23 w_910 w_419 w_418 w_102 ⟨by decide, by decide⟩ (Nat.le_of_ble_eq_true rfl) dX1_copyFrom_200 ?_
  refine f_nvh (fun h24 => ?_)
  refine f_aload_n (pc := 203) cx dX1_copyFrom_203 rfl rfl ?_
  refine g_X1_45 (pc := 204) cx hk_o1 dX1_copyFrom_204 ?_
  refine f_iconst (pc := 207) cx dX1_copyFrom_207 kc_iconst_0 ?_
  refine f_aload_n (pc := 208) cx dX1_copyFrom_208 rfl rfl ?_
  refine g_X1_45 (pc := 209) cx hk_o0 dX1_copyFrom_209 ?_
  refine f_iconst (pc := 212) cx dX1_copyFrom_212 kc_iconst_0 ?_
  refine f_aload_n (pc := 213) cx dX1_copyFrom_213 rfl rfl ?_
  refine g_X1_55 (pc := 214) cx hk_o0 dX1_copyFrom_214 ?_
  refine f_need (fun c25 => ?_)
  refine f_ac (pc := 217) (n0 := 200) (n1 := 200) cx (kf_1_11 hk_o1) (kf_1_11 hk_o0) (by decide) (by decide) c25 w_910 w_419 w_418 w_102 ⟨by decide, by decide⟩ (Nat.le_of_ble_eq_true rfl) dX1_copyFrom_217 ?_
  refine f_nvh (fun h26 => ?_)
  refine f_aload_n (pc := 220) cx dX1_copyFrom_220 rfl rfl ?_
  refine g_X1_48 (pc := 221) cx hk_o1 dX1_copyFrom_221 ?_
  refine f_iconst (pc := 224) cx dX1_copyFrom_224 kc_iconst_0 ?_
  refine f_aload_n (pc := 225) cx dX1_copyFrom_225 rfl rfl ?_
  refine g_X1_48 (pc := 226) cx hk_o0 dX1_copyFrom_226 ?_
  refine f_iconst (pc := 229) cx dX1_copyFrom_229 kc_iconst_0 ?_
  refine f_iconst (pc := 230) cx dX1_copyFrom_230 kc_iconst_5 ?_
  refine f_ac (pc := 231) (n0 := 5) (n1 := 5) cx (kf_1_12 hk_o1) (kf_1_12 hk_o0) (by decide) (by decide) (by decide) w_910 w_419 w_418 w_102 ⟨by decide, by decide⟩ (Nat.le_of_ble_eq_true rfl) dX1_copyFrom_231 ?_
  refine f_nvh (fun h27 => ?_)
  exact f_vret cx hr hlk dX1_copyFrom_234
set_option maxRecDepth 4000 in
theorem c_X1_copyFrom (l : Launch) (G : GT) (h : Hp) (o0 : Nat) (o1 : Nat) (hk_o0 : kd o0 = 1) (hk_o1 : kd o1 = 1) : CtV l G yX1_copyFrom cX1_copyFrom 2 none 1 27 [.ref (gad G o0), .ref (gad G o1)] h (p_X1_copyFrom h o0 o1) := fun a ha => Ct.of (lv := [some (.ref (gad G o0)), some (.ref (gad G o1))]) (by decide) rfl (Nat.le_of_ble_eq_true rfl) rfl (fun p e s m args below meth c cx hr hlk => s_X1_copyFrom cx hr hlk h o0 o1 hk_o0 hk_o1 a ha)
def p_X1_has (h : Hp) (o0 : Nat) (x1 : Int32) : Option (Int32 × Hp) :=
  if x1 < 0 then (some (0, h)) else (if (h o0 13) ≤ x1 then (some (0, h)) else (if 200 ≤ x1 then (some (0, h)) else (some (1, h))))
set_option maxRecDepth 4000 in
theorem s_X1_has {p : Program} {l : Launch} {e : Env} {s : State} {m : MethodId} {args : Array Value} {below : List Frame} {meth : Method} {c : Code} {G : GT} (cx : CX p s m args c cX1_has 2 RX1 G) (hr : meth.sig.returnType = (some .boolean)) (hlk : meth.locks = false) (h : Hp) (o0 : Nat) (x1 : Int32) (hk_o0 : kd o0 = 1) : PF p l e (rmc 0 0) s m args below meth c 2 G 0 0 (QI below G args s) 0 [some (.ref (gad G o0)), some (.int x1)] [] h (p_X1_has h o0 x1) := by
  unfold p_X1_has
  refine f_iload_n (pc := 0) cx dX1_has_0 rfl rfl ?_
  refine f_if_lt (pc := 1) (tgt := 23) cx dX1_has_1 (by decide) (fun _ => ?_) (fun _ => ?_)
  · refine f_iconst (pc := 23) cx dX1_has_23 kc_iconst_0 ?_
    exact f_iret cx hr hlk (bb_n bb_0).1 dX1_has_24
  · refine f_iload_n (pc := 4) cx dX1_has_4 rfl rfl ?_
    refine f_aload_n (pc := 5) cx dX1_has_5 rfl rfl ?_
    refine g_X1_51 (pc := 6) cx hk_o0 dX1_has_6 ?_
    refine f_icmp_ge (pc := 9) (tgt := 23) cx dX1_has_9 (by decide) (fun _ => ?_) (fun _ => ?_)
    · refine f_iconst (pc := 23) cx dX1_has_23 kc_iconst_0 ?_
      exact f_iret cx hr hlk (bb_n bb_0).1 dX1_has_24
    · refine f_iload_n (pc := 12) cx dX1_has_12 rfl rfl ?_
      refine f_sipush (pc := 13) cx dX1_has_13 kc_sipush_200 ?_
      refine f_icmp_ge (pc := 16) (tgt := 23) cx dX1_has_16 (by decide) (fun _ => ?_) (fun _ => ?_)
      · refine f_iconst (pc := 23) cx dX1_has_23 kc_iconst_0 ?_
        exact f_iret cx hr hlk (bb_n bb_0).1 dX1_has_24
      · refine f_iconst (pc := 19) cx dX1_has_19 kc_iconst_1 ?_
        refine f_goto (pc := 20) (tgt := 24) cx dX1_has_20 (by decide) ?_
        exact f_iret cx hr hlk (bb_n bb_1).1 dX1_has_24
set_option maxRecDepth 4000 in
theorem c_X1_has (l : Launch) (G : GT) (h : Hp) (o0 : Nat) (x1 : Int32) (hk_o0 : kd o0 = 1) : CtI l G yX1_has cX1_has 2 (some .boolean) 0 0 [.ref (gad G o0), .int x1] h (p_X1_has h o0 x1) := fun a ha => Ct.of (lv := [some (.ref (gad G o0)), some (.int x1)]) (by decide) rfl (Nat.le_of_ble_eq_true rfl) rfl (fun p e s m args below meth c cx hr hlk => s_X1_has cx hr hlk h o0 x1 hk_o0 a ha)
def q_X1_add_95 (h : Hp) (o0 : Nat) (x8 : Int32) (p0 : Nat) (y1 : Int32) (y2 : Int32) : Option (Int32 × Hp) :=
  if ib y1 200 then (nv (hp h p0 (Int32.toNatClampNeg y1) y2) fun h2 => if ib x8 200 then (nv (hp h2 (o0 + 8) (Int32.toNatClampNeg x8) 0) fun h4 => if ib x8 200 then (nv (hp h4 (o0 + 9) (Int32.toNatClampNeg x8) 0) fun h6 => if ib x8 200 then (nv (hp h6 (o0 + 10) (Int32.toNatClampNeg x8) (-2)) fun h8 => if ib x8 200 then (nv (hp h8 (o0 + 11) (Int32.toNatClampNeg x8) (-2)) fun h10 => some (x8, h10)) else none) else none) else none) else none) else none
def p_X1_add (h : Hp) (o0 : Nat) (x1 : Int32) (x2 : Int32) (x3 : Int32) (x4 : Int32) (x5 : Int32) (x6 : Int32) (x7 : Int32) : Option (Int32 × Hp) :=
  nv (h o0 13) fun v11 => if v11 < 200 then (nv (hp h o0 13 ((h o0 13) + 1)) fun h12 => if ib v11 200 then (nv (hp h12 (o0 + 1) (Int32.toNatClampNeg v11) x1) fun h14 => if ib v11 200 then (nv (hp h14 (o0 + 2) (Int32.toNatClampNeg v11) x2) fun h16 => if ib v11 200 then (nv (hp h16 (o0 + 3) (Int32.toNatClampNeg v11) x3) fun h18 => if ib v11 200 then (nv (hp h18 (o0 + 4) (Int32.toNatClampNeg v11) x4) fun h20 => if ib v11 200 then (nv (hp h20 (o0 + 5) (Int32.toNatClampNeg v11) x6) fun h22 => if ib v11 200 then (nv (hp h22 (o0 + 6) (Int32.toNatClampNeg v11) x5) fun h24 => if x7 = x1 then (q_X1_add_95 h24 o0 v11 (o0 + 7) v11 0) else (q_X1_add_95 h24 o0 v11 (o0 + 7) v11 1)) else none) else none) else none) else none) else none) else none) else (some ((-2), h))
set_option maxRecDepth 4000 in
theorem s_X1_add_95 {p : Program} {l : Launch} {e : Env} {s : State} {m : MethodId} {args : Array Value} {below : List Frame} {meth : Method} {c : Code} {G : GT} (cx : CX p s m args c cX1_add 9 RX1 G) (hr : meth.sig.returnType = (some .int)) (hlk : meth.locks = false) (h : Hp) (o0 : Nat) (x8 : Int32) (p0 : Nat) (y1 : Int32) (y2 : Int32) (hk_o0 : kd o0 = 1) (hk_p0 : kd p0 = 10200) : PF p l e (rmc 0 0) s m args below meth c 9 G 0 0 (QI below G args s) 95 [some (.ref (gad G o0)), none, none, none, none, none, none, none, some (.int x8)] [.int y2, .int y1, .ref (gad G p0)] h (q_X1_add_95 h o0 x8 p0 y1 y2) := by
  unfold q_X1_add_95
  refine f_need (fun c1 => ?_)
  refine f_iast (pc := 95) (n := 200) cx hk_p0 (by decide) c1 dX1_add_95 ?_
  refine f_nvh (fun h2 => ?_)
  refine f_aload_n (pc := 96) cx dX1_add_96 rfl rfl ?_
  refine g_X1_33 (pc := 97) cx hk_o0 dX1_add_97 ?_
  refine f_iload (pc := 100) cx dX1_add_100 rfl ?_
  refine f_iconst (pc := 102) cx dX1_add_102 kc_iconst_0 ?_
  refine f_need (fun c3 => ?_)
  refine f_iast (pc := 103) (n := 200) cx (kf_1_7 hk_o0) (by decide) c3 dX1_add_103 ?_
  refine f_nvh (fun h4 => ?_)
  refine f_aload_n (pc := 104) cx dX1_add_104 rfl rfl ?_
  refine g_X1_36 (pc := 105) cx hk_o0 dX1_add_105 ?_
  refine f_iload (pc := 108) cx dX1_add_108 rfl ?_
  refine f_iconst (pc := 110) cx dX1_add_110 kc_iconst_0 ?_
  refine f_need (fun c5 => ?_)
  refine f_iast (pc := 111) (n := 200) cx (kf_1_8 hk_o0) (by decide) c5 dX1_add_111 ?_
  refine f_nvh (fun h6 => ?_)
  refine f_aload_n (pc := 112) cx dX1_add_112 rfl rfl ?_
  refine g_X1_39 (pc := 113) cx hk_o0 dX1_add_113 ?_
  refine f_iload (pc := 116) cx dX1_add_116 rfl ?_
  refine f_bipush (pc := 118) cx dX1_add_118 kc_bipush_m2 ?_
  refine f_need (fun c7 => ?_)
  refine f_iast (pc := 120) (n := 200) cx (kf_1_9 hk_o0) (by decide) c7 dX1_add_120 ?_
  refine f_nvh (fun h8 => ?_)
  refine f_aload_n (pc := 121) cx dX1_add_121 rfl rfl ?_
  refine g_X1_42 (pc := 122) cx hk_o0 dX1_add_122 ?_
  refine f_iload (pc := 125) cx dX1_add_125 rfl ?_
  refine f_bipush (pc := 127) cx dX1_add_127 kc_bipush_m2 ?_
  refine f_need (fun c9 => ?_)
  refine f_iast (pc := 129) (n := 200) cx (kf_1_10 hk_o0) (by decide) c9 dX1_add_129 ?_
  refine f_nvh (fun h10 => ?_)
  refine f_iload (pc := 130) cx dX1_add_130 rfl ?_
  exact f_iret cx hr hlk rfl dX1_add_132
set_option maxRecDepth 4000 in
theorem s_X1_add {p : Program} {l : Launch} {e : Env} {s : State} {m : MethodId} {args : Array Value} {below : List Frame} {meth : Method} {c : Code} {G : GT} (cx : CX p s m args c cX1_add 9 RX1 G) (hr : meth.sig.returnType = (some .int)) (hlk : meth.locks = false) (h : Hp) (o0 : Nat) (x1 : Int32) (x2 : Int32) (x3 : Int32) (x4 : Int32) (x5 : Int32) (x6 : Int32) (x7 : Int32) (hk_o0 : kd o0 = 1) : PF p l e (rmc 0 0) s m args below meth c 9 G 0 0 (QI below G args s) 0 [some (.ref (gad G o0)), some (.int x1), some (.int x2), some (.int x3), some (.int x4), some (.int x5), some (.int x6), some (.int x7), none] [] h (p_X1_add h o0 x1 x2 x3 x4 x5 x6 x7) := by
  unfold p_X1_add
  refine f_aload_n (pc := 0) cx dX1_add_0 rfl rfl ?_
  refine g_X1_51 (pc := 1) cx hk_o0 dX1_add_1 ?_
  refine f_nvi (fun v11 => ?_)
  refine f_istore8 (pc := 4) cx dX1_add_4 (by decide) rfl ?_
  refine f_iload (pc := 6) cx dX1_add_6 rfl ?_
  refine f_sipush (pc := 8) cx dX1_add_8 kc_sipush_200 ?_
  refine f_icmp_lt (pc := 11) (tgt := 17) cx dX1_add_11 (by decide) (fun _ => ?_) (fun _ => ?_)
  · refine f_aload_n (pc := 17) cx dX1_add_17 rfl rfl ?_
    refine f_dup (pc := 18) cx dX1_add_18 rfl ?_
    refine g_X1_51 (pc := 19) cx hk_o0 dX1_add_19 ?_
    refine f_iconst (pc := 22) cx dX1_add_22 kc_iconst_1 ?_
    refine f_iadd (pc := 23) cx dX1_add_23 ?_
    refine u_X1_51 (pc := 24) cx hk_o0 dX1_add_24 ?_
    refine f_nvh (fun h12 => ?_)
    refine f_aload_n (pc := 27) cx dX1_add_27 rfl rfl ?_
    refine g_X1_9 (pc := 28) cx hk_o0 dX1_add_28 ?_
    refine f_iload (pc := 31) cx dX1_add_31 rfl ?_
    refine f_iload_n (pc := 33) cx dX1_add_33 rfl rfl ?_
    refine f_need (fun c13 => ?_)
    refine f_iast (pc := 34) (n := 200) cx (kf_1_0 hk_o0) (by decide) c13 dX1_add_34 ?_
    refine f_nvh (fun h14 => ?_)
    refine f_aload_n (pc := 35) cx dX1_add_35 rfl rfl ?_
    refine g_X1_15 (pc := 36) cx hk_o0 dX1_add_36 ?_
    refine f_iload (pc := 39) cx dX1_add_39 rfl ?_
    refine f_iload_n (pc := 41) cx dX1_add_41 rfl rfl ?_
    refine f_need (fun c15 => ?_)
    refine f_iast (pc := 42) (n := 200) cx (kf_1_1 hk_o0) (by decide) c15 dX1_add_42 ?_
    refine f_nvh (fun h16 => ?_)
    refine f_aload_n (pc := 43) cx dX1_add_43 rfl rfl ?_
    refine g_X1_18 (pc := 44) cx hk_o0 dX1_add_44 ?_
    refine f_iload (pc := 47) cx dX1_add_47 rfl ?_
    refine f_iload_n (pc := 49) cx dX1_add_49 rfl rfl ?_
    refine f_need (fun c17 => ?_)
    refine f_iast (pc := 50) (n := 200) cx (kf_1_2 hk_o0) (by decide) c17 dX1_add_50 ?_
    refine f_nvh (fun h18 => ?_)
    refine f_aload_n (pc := 51) cx dX1_add_51 rfl rfl ?_
    refine g_X1_21 (pc := 52) cx hk_o0 dX1_add_52 ?_
    refine f_iload (pc := 55) cx dX1_add_55 rfl ?_
    refine f_iload (pc := 57) cx dX1_add_57 rfl ?_
    refine f_need (fun c19 => ?_)
    refine f_iast (pc := 59) (n := 200) cx (kf_1_3 hk_o0) (by decide) c19 dX1_add_59 ?_
    refine f_nvh (fun h20 => ?_)
    refine f_aload_n (pc := 60) cx dX1_add_60 rfl rfl ?_
    refine g_X1_24 (pc := 61) cx hk_o0 dX1_add_61 ?_
    refine f_iload (pc := 64) cx dX1_add_64 rfl ?_
    refine f_iload (pc := 66) cx dX1_add_66 rfl ?_
    refine f_need (fun c21 => ?_)
    refine f_iast (pc := 68) (n := 200) cx (kf_1_4 hk_o0) (by decide) c21 dX1_add_68 ?_
    refine f_nvh (fun h22 => ?_)
    refine f_aload_n (pc := 69) cx dX1_add_69 rfl rfl ?_
    refine g_X1_27 (pc := 70) cx hk_o0 dX1_add_70 ?_
    refine f_iload (pc := 73) cx dX1_add_73 rfl ?_
    refine f_iload (pc := 75) cx dX1_add_75 rfl ?_
    refine f_need (fun c23 => ?_)
    refine f_iast (pc := 77) (n := 200) cx (kf_1_5 hk_o0) (by decide) c23 dX1_add_77 ?_
    refine f_nvh (fun h24 => ?_)
    refine f_aload_n (pc := 78) cx dX1_add_78 rfl rfl ?_
    refine g_X1_30 (pc := 79) cx hk_o0 dX1_add_79 ?_
    refine f_iload (pc := 82) cx dX1_add_82 rfl ?_
    refine f_iload (pc := 84) cx dX1_add_84 rfl ?_
    refine f_iload_n (pc := 86) cx dX1_add_86 rfl rfl ?_
    refine f_icmp_eq (pc := 87) (tgt := 94) cx dX1_add_87 (by decide) (fun _ => ?_) (fun _ => ?_)
    · refine f_iconst (pc := 94) cx dX1_add_94 kc_iconst_0 ?_
      exact f_weak (LSb.s (LSb.n (LSb.n (LSb.n (LSb.n (LSb.n (LSb.n (LSb.n (LSb.s LSb.e))))))))) (s_X1_add_95 cx hr hlk _ o0 v11 (o0 + 7) v11 0 hk_o0 (kf_1_6 hk_o0))
    · refine f_iconst (pc := 90) cx dX1_add_90 kc_iconst_1 ?_
      refine f_goto (pc := 91) (tgt := 95) cx dX1_add_91 (by decide) ?_
      exact f_weak (LSb.s (LSb.n (LSb.n (LSb.n (LSb.n (LSb.n (LSb.n (LSb.n (LSb.s LSb.e))))))))) (s_X1_add_95 cx hr hlk _ o0 v11 (o0 + 7) v11 1 hk_o0 (kf_1_6 hk_o0))
  · refine f_bipush (pc := 14) cx dX1_add_14 kc_bipush_m2 ?_
    exact f_iret cx hr hlk rfl dX1_add_16
set_option maxRecDepth 4000 in
theorem c_X1_add (l : Launch) (G : GT) (h : Hp) (o0 : Nat) (x1 : Int32) (x2 : Int32) (x3 : Int32) (x4 : Int32) (x5 : Int32) (x6 : Int32) (x7 : Int32) (hk_o0 : kd o0 = 1) : CtI l G yX1_add cX1_add 9 (some .int) 0 0 [.ref (gad G o0), .int x1, .int x2, .int x3, .int x4, .int x5, .int x6, .int x7] h (p_X1_add h o0 x1 x2 x3 x4 x5 x6 x7) := fun a ha => Ct.of (lv := [some (.ref (gad G o0)), some (.int x1), some (.int x2), some (.int x3), some (.int x4), some (.int x5), some (.int x6), some (.int x7), none]) (by decide) rfl (Nat.le_of_ble_eq_true rfl) rfl (fun p e s m args below meth c cx hr hlk => s_X1_add cx hr hlk h o0 x1 x2 x3 x4 x5 x6 x7 hk_o0 a ha)
def q_X1_end_24 (h : Hp) (o0 : Nat) (x1 : Int32) (x2 : Int32) (x3 : Int32) (y0 : Int32) : Option Hp :=
  if y0 = 0 then (some h) else (if 200 ≤ (h o0 14) then (some h) else (if x2 < 0 then (some h) else (if x2 < 5 then (if ib x1 200 then (nv (hp h (o0 + 9) (Int32.toNatClampNeg x1) x2) fun h2 => if ib x1 200 then (nv (hp h2 (o0 + 10) (Int32.toNatClampNeg x1) x3) fun h4 => if ib (h4 o0 14) 200 then (nv (hp h4 (o0 + 12) (Int32.toNatClampNeg (h4 o0 14)) x1) fun h6 => nv (hp h6 o0 14 ((h6 o0 14) + 1)) fun h7 => if ib x2 5 then (if ib x2 5 then (nv (hp h7 (o0 + 13) (Int32.toNatClampNeg x2) ((h7 (o0 + 13) (Int32.toNatClampNeg x2)) + 1)) fun h10 => some h10) else none) else none) else none) else none) else none) else (some h))))
def p_X1_end (h : Hp) (o0 : Nat) (x1 : Int32) (x2 : Int32) (x3 : Int32) : Option Hp :=
  if x1 < 0 then (q_X1_end_24 h o0 x1 x2 x3 0) else (if (h o0 13) ≤ x1 then (q_X1_end_24 h o0 x1 x2 x3 0) else (if 200 ≤ x1 then (q_X1_end_24 h o0 x1 x2 x3 0) else (q_X1_end_24 h o0 x1 x2 x3 1)))
set_option maxRecDepth 4000 in
theorem s_X1_end_24 {p : Program} {l : Launch} {e : Env} {s : State} {m : MethodId} {args : Array Value} {below : List Frame} {meth : Method} {c : Code} {G : GT} (cx : CX p s m args c cX1_end 5 RX1 G) (hr : meth.sig.returnType = none) (hlk : meth.locks = false) (h : Hp) (o0 : Nat) (x1 : Int32) (x2 : Int32) (x3 : Int32) (y0 : Int32) (hk_o0 : kd o0 = 1) : PF p l e (rmc 0 0) s m args below meth c 5 G 0 0 (QV below G args s) 24 [some (.ref (gad G o0)), some (.int x1), some (.int x2), some (.int x3), none] [.int y0] h (q_X1_end_24 h o0 x1 x2 x3 y0) := by
  unfold q_X1_end_24
  refine f_istore4 (pc := 24) cx dX1_end_24 (by decide) rfl ?_
  refine f_iload (pc := 26) cx dX1_end_26 rfl ?_
  refine f_if_eq (pc := 28) (tgt := 50) cx dX1_end_28 (by decide) (fun _ => ?_) (fun _ => ?_)
  · exact f_vret cx hr hlk dX1_end_50
  · refine f_aload_n (pc := 31) cx dX1_end_31 rfl rfl ?_
    refine g_X1_55 (pc := 32) cx hk_o0 dX1_end_32 ?_
    refine f_sipush (pc := 35) cx dX1_end_35 kc_sipush_200 ?_
    refine f_icmp_ge (pc := 38) (tgt := 50) cx dX1_end_38 (by decide) (fun _ => ?_) (fun _ => ?_)
    · exact f_vret cx hr hlk dX1_end_50
    · refine f_iload_n (pc := 41) cx dX1_end_41 rfl rfl ?_
      refine f_if_lt (pc := 42) (tgt := 50) cx dX1_end_42 (by decide) (fun _ => ?_) (fun _ => ?_)
      · exact f_vret cx hr hlk dX1_end_50
      · refine f_iload_n (pc := 45) cx dX1_end_45 rfl rfl ?_
        refine f_iconst (pc := 46) cx dX1_end_46 kc_iconst_5 ?_
        refine f_icmp_lt (pc := 47) (tgt := 51) cx dX1_end_47 (by decide) (fun _ => ?_) (fun _ => ?_)
        · refine f_aload_n (pc := 51) cx dX1_end_51 rfl rfl ?_
          refine g_X1_36 (pc := 52) cx hk_o0 dX1_end_52 ?_
          refine f_iload_n (pc := 55) cx dX1_end_55 rfl rfl ?_
          refine f_iload_n (pc := 56) cx dX1_end_56 rfl rfl ?_
          refine f_need (fun c1 => ?_)
          refine f_iast (pc := 57) (n := 200) cx (kf_1_8 hk_o0) (by decide) c1 dX1_end_57 ?_
          refine f_nvh (fun h2 => ?_)
          refine f_aload_n (pc := 58) cx dX1_end_58 rfl rfl ?_
          refine g_X1_39 (pc := 59) cx hk_o0 dX1_end_59 ?_
          refine f_iload_n (pc := 62) cx dX1_end_62 rfl rfl ?_
          refine f_iload_n (pc := 63) cx dX1_end_63 rfl rfl ?_
          refine f_need (fun c3 => ?_)
          refine f_iast (pc := 64) (n := 200) cx (kf_1_9 hk_o0) (by decide) c3 dX1_end_64 ?_
          refine f_nvh (fun h4 => ?_)
          refine f_aload_n (pc := 65) cx dX1_end_65 rfl rfl ?_
          refine g_X1_45 (pc := 66) cx hk_o0 dX1_end_66 ?_
          refine f_aload_n (pc := 69) cx dX1_end_69 rfl rfl ?_
          refine g_X1_55 (pc := 70) cx hk_o0 dX1_end_70 ?_
          refine f_iload_n (pc := 73) cx dX1_end_73 rfl rfl ?_
          refine f_need (fun c5 => ?_)
          refine f_iast (pc := 74) (n := 200) cx (kf_1_11 hk_o0) (by decide) c5 dX1_end_74 ?_
          refine f_nvh (fun h6 => ?_)
          refine f_aload_n (pc := 75) cx dX1_end_75 rfl rfl ?_
          refine f_dup (pc := 76) cx dX1_end_76 rfl ?_
          refine g_X1_55 (pc := 77) cx hk_o0 dX1_end_77 ?_
          refine f_iconst (pc := 80) cx dX1_end_80 kc_iconst_1 ?_
          refine f_iadd (pc := 81) cx dX1_end_81 ?_
          refine u_X1_55 (pc := 82) cx hk_o0 dX1_end_82 ?_
          refine f_nvh (fun h7 => ?_)
          refine f_aload_n (pc := 85) cx dX1_end_85 rfl rfl ?_
          refine g_X1_48 (pc := 86) cx hk_o0 dX1_end_86 ?_
          refine f_iload_n (pc := 89) cx dX1_end_89 rfl rfl ?_
          refine f_dup2 (pc := 90) cx dX1_end_90 rfl rfl ?_
          refine f_need (fun c8 => ?_)
          refine f_iald (pc := 91) (n := 5) cx (kf_1_12 hk_o0) (by decide) c8 dX1_end_91 ?_
          refine f_iconst (pc := 92) cx dX1_end_92 kc_iconst_1 ?_
          refine f_iadd (pc := 93) cx dX1_end_93 ?_
          refine f_need (fun c9 => ?_)
          refine f_iast (pc := 94) (n := 5) cx (kf_1_12 hk_o0) (by decide) c9 dX1_end_94 ?_
          refine f_nvh (fun h10 => ?_)
          exact f_vret cx hr hlk dX1_end_95
        · exact f_vret cx hr hlk dX1_end_50
set_option maxRecDepth 4000 in
theorem s_X1_end {p : Program} {l : Launch} {e : Env} {s : State} {m : MethodId} {args : Array Value} {below : List Frame} {meth : Method} {c : Code} {G : GT} (cx : CX p s m args c cX1_end 5 RX1 G) (hr : meth.sig.returnType = none) (hlk : meth.locks = false) (h : Hp) (o0 : Nat) (x1 : Int32) (x2 : Int32) (x3 : Int32) (hk_o0 : kd o0 = 1) : PF p l e (rmc 0 0) s m args below meth c 5 G 0 0 (QV below G args s) 0 [some (.ref (gad G o0)), some (.int x1), some (.int x2), some (.int x3), none] [] h (p_X1_end h o0 x1 x2 x3) := by
  unfold p_X1_end
  refine f_iload_n (pc := 0) cx dX1_end_0 rfl rfl ?_
  refine f_if_lt (pc := 1) (tgt := 23) cx dX1_end_1 (by decide) (fun _ => ?_) (fun _ => ?_)
  · refine f_iconst (pc := 23) cx dX1_end_23 kc_iconst_0 ?_
    exact f_weak (LSb.s (LSb.s (LSb.s (LSb.s (LSb.n LSb.e))))) (s_X1_end_24 cx hr hlk _ o0 x1 x2 x3 0 hk_o0)
  · refine f_iload_n (pc := 4) cx dX1_end_4 rfl rfl ?_
    refine f_aload_n (pc := 5) cx dX1_end_5 rfl rfl ?_
    refine g_X1_51 (pc := 6) cx hk_o0 dX1_end_6 ?_
    refine f_icmp_ge (pc := 9) (tgt := 23) cx dX1_end_9 (by decide) (fun _ => ?_) (fun _ => ?_)
    · refine f_iconst (pc := 23) cx dX1_end_23 kc_iconst_0 ?_
      exact f_weak (LSb.s (LSb.s (LSb.s (LSb.s (LSb.n LSb.e))))) (s_X1_end_24 cx hr hlk _ o0 x1 x2 x3 0 hk_o0)
    · refine f_iload_n (pc := 12) cx dX1_end_12 rfl rfl ?_
      refine f_sipush (pc := 13) cx dX1_end_13 kc_sipush_200 ?_
      refine f_icmp_ge (pc := 16) (tgt := 23) cx dX1_end_16 (by decide) (fun _ => ?_) (fun _ => ?_)
      · refine f_iconst (pc := 23) cx dX1_end_23 kc_iconst_0 ?_
        exact f_weak (LSb.s (LSb.s (LSb.s (LSb.s (LSb.n LSb.e))))) (s_X1_end_24 cx hr hlk _ o0 x1 x2 x3 0 hk_o0)
      · refine f_iconst (pc := 19) cx dX1_end_19 kc_iconst_1 ?_
        refine f_goto (pc := 20) (tgt := 24) cx dX1_end_20 (by decide) ?_
        exact f_weak (LSb.s (LSb.s (LSb.s (LSb.s (LSb.n LSb.e))))) (s_X1_end_24 cx hr hlk _ o0 x1 x2 x3 1 hk_o0)
set_option maxRecDepth 4000 in
theorem c_X1_end (l : Launch) (G : GT) (h : Hp) (o0 : Nat) (x1 : Int32) (x2 : Int32) (x3 : Int32) (hk_o0 : kd o0 = 1) : CtV l G yX1_end cX1_end 5 none 0 0 [.ref (gad G o0), .int x1, .int x2, .int x3] h (p_X1_end h o0 x1 x2 x3) := fun a ha => Ct.of (lv := [some (.ref (gad G o0)), some (.int x1), some (.int x2), some (.int x3), none]) (by decide) rfl (Nat.le_of_ble_eq_true rfl) rfl (fun p e s m args below meth c cx hr hlk => s_X1_end cx hr hlk h o0 x1 x2 x3 hk_o0 a ha)
def p_X1_endedOne (h : Hp) (o0 : Nat) (x1 : Int32) : Option (Int32 × Hp) :=
  if x1 < 0 then (some ((-2), h)) else (if (h o0 14) ≤ x1 then (some ((-2), h)) else (if 200 ≤ x1 then (some ((-2), h)) else (if ib x1 200 then (some (h (o0 + 12) (Int32.toNatClampNeg x1), h)) else none)))
set_option maxRecDepth 4000 in
theorem s_X1_endedOne {p : Program} {l : Launch} {e : Env} {s : State} {m : MethodId} {args : Array Value} {below : List Frame} {meth : Method} {c : Code} {G : GT} (cx : CX p s m args c cX1_endedOne 2 RX1 G) (hr : meth.sig.returnType = (some .int)) (hlk : meth.locks = false) (h : Hp) (o0 : Nat) (x1 : Int32) (hk_o0 : kd o0 = 1) : PF p l e (rmc 0 0) s m args below meth c 2 G 0 0 (QI below G args s) 0 [some (.ref (gad G o0)), some (.int x1)] [] h (p_X1_endedOne h o0 x1) := by
  unfold p_X1_endedOne
  refine f_iload_n (pc := 0) cx dX1_endedOne_0 rfl rfl ?_
  refine f_if_lt (pc := 1) (tgt := 28) cx dX1_endedOne_1 (by decide) (fun _ => ?_) (fun _ => ?_)
  · refine f_bipush (pc := 28) cx dX1_endedOne_28 kc_bipush_m2 ?_
    exact f_iret cx hr hlk rfl dX1_endedOne_30
  · refine f_iload_n (pc := 4) cx dX1_endedOne_4 rfl rfl ?_
    refine f_aload_n (pc := 5) cx dX1_endedOne_5 rfl rfl ?_
    refine g_X1_55 (pc := 6) cx hk_o0 dX1_endedOne_6 ?_
    refine f_icmp_ge (pc := 9) (tgt := 28) cx dX1_endedOne_9 (by decide) (fun _ => ?_) (fun _ => ?_)
    · refine f_bipush (pc := 28) cx dX1_endedOne_28 kc_bipush_m2 ?_
      exact f_iret cx hr hlk rfl dX1_endedOne_30
    · refine f_iload_n (pc := 12) cx dX1_endedOne_12 rfl rfl ?_
      refine f_sipush (pc := 13) cx dX1_endedOne_13 kc_sipush_200 ?_
      refine f_icmp_ge (pc := 16) (tgt := 28) cx dX1_endedOne_16 (by decide) (fun _ => ?_) (fun _ => ?_)
      · refine f_bipush (pc := 28) cx dX1_endedOne_28 kc_bipush_m2 ?_
        exact f_iret cx hr hlk rfl dX1_endedOne_30
      · refine f_aload_n (pc := 19) cx dX1_endedOne_19 rfl rfl ?_
        refine g_X1_45 (pc := 20) cx hk_o0 dX1_endedOne_20 ?_
        refine f_iload_n (pc := 23) cx dX1_endedOne_23 rfl rfl ?_
        refine f_need (fun c1 => ?_)
        refine f_iald (pc := 24) (n := 200) cx (kf_1_11 hk_o0) (by decide) c1 dX1_endedOne_24 ?_
        refine f_goto (pc := 25) (tgt := 30) cx dX1_endedOne_25 (by decide) ?_
        exact f_iret cx hr hlk rfl dX1_endedOne_30
set_option maxRecDepth 4000 in
theorem c_X1_endedOne (l : Launch) (G : GT) (h : Hp) (o0 : Nat) (x1 : Int32) (hk_o0 : kd o0 = 1) : CtI l G yX1_endedOne cX1_endedOne 2 (some .int) 0 0 [.ref (gad G o0), .int x1] h (p_X1_endedOne h o0 x1) := fun a ha => Ct.of (lv := [some (.ref (gad G o0)), some (.int x1)]) (by decide) rfl (Nat.le_of_ble_eq_true rfl) rfl (fun p e s m args below meth c cx hr hlk => s_X1_endedOne cx hr hlk h o0 x1 hk_o0 a ha)
def p_X1_waitOf (h : Hp) (o0 : Nat) (x1 : Int32) : Option (Int32 × Hp) :=
  if ib x1 200 then (if ib x1 200 then (some ((h (o0 + 10) (Int32.toNatClampNeg x1)) - (h (o0 + 4) (Int32.toNatClampNeg x1)), h)) else none) else none
set_option maxRecDepth 4000 in
theorem s_X1_waitOf {p : Program} {l : Launch} {e : Env} {s : State} {m : MethodId} {args : Array Value} {below : List Frame} {meth : Method} {c : Code} {G : GT} (cx : CX p s m args c cX1_waitOf 2 RX1 G) (hr : meth.sig.returnType = (some .int)) (hlk : meth.locks = false) (h : Hp) (o0 : Nat) (x1 : Int32) (hk_o0 : kd o0 = 1) : PF p l e (rmc 0 0) s m args below meth c 2 G 0 0 (QI below G args s) 0 [some (.ref (gad G o0)), some (.int x1)] [] h (p_X1_waitOf h o0 x1) := by
  unfold p_X1_waitOf
  refine f_aload_n (pc := 0) cx dX1_waitOf_0 rfl rfl ?_
  refine g_X1_39 (pc := 1) cx hk_o0 dX1_waitOf_1 ?_
  refine f_iload_n (pc := 4) cx dX1_waitOf_4 rfl rfl ?_
  refine f_need (fun c1 => ?_)
  refine f_iald (pc := 5) (n := 200) cx (kf_1_9 hk_o0) (by decide) c1 dX1_waitOf_5 ?_
  refine f_aload_n (pc := 6) cx dX1_waitOf_6 rfl rfl ?_
  refine g_X1_21 (pc := 7) cx hk_o0 dX1_waitOf_7 ?_
  refine f_iload_n (pc := 10) cx dX1_waitOf_10 rfl rfl ?_
  refine f_need (fun c2 => ?_)
  refine f_iald (pc := 11) (n := 200) cx (kf_1_3 hk_o0) (by decide) c2 dX1_waitOf_11 ?_
  refine f_isub (pc := 12) cx dX1_waitOf_12 ?_
  exact f_iret cx hr hlk rfl dX1_waitOf_13
set_option maxRecDepth 4000 in
theorem c_X1_waitOf (l : Launch) (G : GT) (h : Hp) (o0 : Nat) (x1 : Int32) (hk_o0 : kd o0 = 1) : CtI l G yX1_waitOf cX1_waitOf 2 (some .int) 0 0 [.ref (gad G o0), .int x1] h (p_X1_waitOf h o0 x1) := fun a ha => Ct.of (lv := [some (.ref (gad G o0)), some (.int x1)]) (by decide) rfl (Nat.le_of_ble_eq_true rfl) rfl (fun p e s m args below meth c cx hr hlk => s_X1_waitOf cx hr hlk h o0 x1 hk_o0 a ha)
def b_X1_bytesSentOf_4 (o0 : Nat) (x1 : Int32) (k4 : Hp × Int32 × Int32 → Option (Int32 × Hp)) (q : Hp × Int32 × Int32) : Option (Int32 × Hp) :=
  if (q.1 o0 13) ≤ q.2.2 then (some (q.2.1, q.1)) else (if ib q.2.2 200 then (if (q.1 (o0 + 1) (Int32.toNatClampNeg q.2.2)) = x1 then (if ib q.2.2 200 then (if (q.1 (o0 + 9) (Int32.toNatClampNeg q.2.2)) = 1 then (if ib q.2.2 200 then (nv (q.2.1 + (q.1 (o0 + 2) (Int32.toNatClampNeg q.2.2))) fun v4 => k4 (q.1, v4, q.2.2 + 1)) else none) else (k4 (q.1, q.2.1, q.2.2 + 1))) else none) else (k4 (q.1, q.2.1, q.2.2 + 1))) else none)
def p_X1_bytesSentOf (h : Hp) (o0 : Nat) (x1 : Int32) : Option (Int32 × Hp) :=
  lp (b_X1_bytesSentOf_4 o0 x1) FU (h, 0, 0)
set_option maxRecDepth 4000 in
theorem s_X1_bytesSentOf_4 {p : Program} {l : Launch} {e : Env} {s : State} {m : MethodId} {args : Array Value} {below : List Frame} {meth : Method} {c : Code} {G : GT} (cx : CX p s m args c cX1_bytesSentOf 4 RX1 G) (hr : meth.sig.returnType = (some .int)) (hlk : meth.locks = false) (o0 : Nat) (x1 : Int32) (hk_o0 : kd o0 = 1) : ∀ (n : Nat) (q : Hp × Int32 × Int32), PF p l e (rmc 0 0) s m args below meth c 4 G 0 0 (QI below G args s) 4 [some (.ref (gad G o0)), some (.int x1), some (.int q.2.1), some (.int q.2.2)] [] q.1 (lp (b_X1_bytesSentOf_4 o0 x1) n q) := by
  refine f_lp (lvf := fun (q : Hp × Int32 × Int32) => [some (.ref (gad G o0)), some (.int x1), some (.int q.2.1), some (.int q.2.2)]) (hf := fun (q : Hp × Int32 × Int32) => q.1) (fun k4 hk4 q => ?_)
  show PF p l e (rmc 0 0) s m args below meth c 4 G 0 0 (QI below G args s) 4 [some (.ref (gad G o0)), some (.int x1), some (.int q.2.1), some (.int q.2.2)] [] q.1 (b_X1_bytesSentOf_4 o0 x1 k4 q)
  unfold b_X1_bytesSentOf_4
  refine f_iload_n (pc := 4) cx dX1_bytesSentOf_4 rfl rfl ?_
  refine f_aload_n (pc := 5) cx dX1_bytesSentOf_5 rfl rfl ?_
  refine g_X1_51 (pc := 6) cx hk_o0 dX1_bytesSentOf_6 ?_
  refine f_icmp_ge (pc := 9) (tgt := 47) cx dX1_bytesSentOf_9 (by decide) (fun _ => ?_) (fun _ => ?_)
  · refine f_iload_n (pc := 47) cx dX1_bytesSentOf_47 rfl rfl ?_
    exact f_iret cx hr hlk rfl dX1_bytesSentOf_48
  · refine f_aload_n (pc := 12) cx dX1_bytesSentOf_12 rfl rfl ?_
    refine g_X1_9 (pc := 13) cx hk_o0 dX1_bytesSentOf_13 ?_
    refine f_iload_n (pc := 16) cx dX1_bytesSentOf_16 rfl rfl ?_
    refine f_need (fun c1 => ?_)
    refine f_iald (pc := 17) (n := 200) cx (kf_1_0 hk_o0) (by decide) c1 dX1_bytesSentOf_17 ?_
    refine f_iload_n (pc := 18) cx dX1_bytesSentOf_18 rfl rfl ?_
    refine f_icmp_ne (pc := 19) (tgt := 41) cx dX1_bytesSentOf_19 (by decide) (fun _ => ?_) (fun _ => ?_)
    · refine f_aload_n (pc := 22) cx dX1_bytesSentOf_22 rfl rfl ?_
      refine g_X1_36 (pc := 23) cx hk_o0 dX1_bytesSentOf_23 ?_
      refine f_iload_n (pc := 26) cx dX1_bytesSentOf_26 rfl rfl ?_
      refine f_need (fun c2 => ?_)
      refine f_iald (pc := 27) (n := 200) cx (kf_1_8 hk_o0) (by decide) c2 dX1_bytesSentOf_27 ?_
      refine f_iconst (pc := 28) cx dX1_bytesSentOf_28 kc_iconst_1 ?_
      refine f_icmp_ne (pc := 29) (tgt := 41) cx dX1_bytesSentOf_29 (by decide) (fun _ => ?_) (fun _ => ?_)
      · refine f_iload_n (pc := 32) cx dX1_bytesSentOf_32 rfl rfl ?_
        refine f_aload_n (pc := 33) cx dX1_bytesSentOf_33 rfl rfl ?_
        refine g_X1_15 (pc := 34) cx hk_o0 dX1_bytesSentOf_34 ?_
        refine f_iload_n (pc := 37) cx dX1_bytesSentOf_37 rfl rfl ?_
        refine f_need (fun c3 => ?_)
        refine f_iald (pc := 38) (n := 200) cx (kf_1_1 hk_o0) (by decide) c3 dX1_bytesSentOf_38 ?_
        refine f_iadd (pc := 39) cx dX1_bytesSentOf_39 ?_
        refine f_nvi (fun v4 => ?_)
        refine f_istore2 (pc := 40) cx dX1_bytesSentOf_40 (by decide) rfl ?_
        refine f_iinc3 (pc := 41) cx dX1_bytesSentOf_41 kc_iconst_1 (by decide) rfl ?_
        refine f_goto (pc := 44) (tgt := 4) cx dX1_bytesSentOf_44 (by decide) ?_
        exact f_weak (LSb.s (LSb.s (LSb.s (LSb.s LSb.e)))) (hk4 (q.1, v4, q.2.2 + 1))
      · refine f_iinc3 (pc := 41) cx dX1_bytesSentOf_41 kc_iconst_1 (by decide) rfl ?_
        refine f_goto (pc := 44) (tgt := 4) cx dX1_bytesSentOf_44 (by decide) ?_
        exact f_weak (LSb.s (LSb.s (LSb.s (LSb.s LSb.e)))) (hk4 (q.1, q.2.1, q.2.2 + 1))
    · refine f_iinc3 (pc := 41) cx dX1_bytesSentOf_41 kc_iconst_1 (by decide) rfl ?_
      refine f_goto (pc := 44) (tgt := 4) cx dX1_bytesSentOf_44 (by decide) ?_
      exact f_weak (LSb.s (LSb.s (LSb.s (LSb.s LSb.e)))) (hk4 (q.1, q.2.1, q.2.2 + 1))
set_option maxRecDepth 4000 in
theorem s_X1_bytesSentOf {p : Program} {l : Launch} {e : Env} {s : State} {m : MethodId} {args : Array Value} {below : List Frame} {meth : Method} {c : Code} {G : GT} (cx : CX p s m args c cX1_bytesSentOf 4 RX1 G) (hr : meth.sig.returnType = (some .int)) (hlk : meth.locks = false) (h : Hp) (o0 : Nat) (x1 : Int32) (hk_o0 : kd o0 = 1) : PF p l e (rmc 0 0) s m args below meth c 4 G 0 0 (QI below G args s) 0 [some (.ref (gad G o0)), some (.int x1), none, none] [] h (p_X1_bytesSentOf h o0 x1) := by
  unfold p_X1_bytesSentOf
  refine f_iconst (pc := 0) cx dX1_bytesSentOf_0 kc_iconst_0 ?_
  refine f_istore2 (pc := 1) cx dX1_bytesSentOf_1 (by decide) rfl ?_
  refine f_iconst (pc := 2) cx dX1_bytesSentOf_2 kc_iconst_0 ?_
  refine f_istore3 (pc := 3) cx dX1_bytesSentOf_3 (by decide) rfl ?_
  exact f_weak (LSb.s (LSb.s (LSb.s (LSb.s LSb.e)))) (s_X1_bytesSentOf_4 cx hr hlk o0 x1 hk_o0 FU (h, 0, 0))
set_option maxRecDepth 4000 in
theorem c_X1_bytesSentOf (l : Launch) (G : GT) (h : Hp) (o0 : Nat) (x1 : Int32) (hk_o0 : kd o0 = 1) : CtI l G yX1_bytesSentOf cX1_bytesSentOf 4 (some .int) 0 0 [.ref (gad G o0), .int x1] h (p_X1_bytesSentOf h o0 x1) := fun a ha => Ct.of (lv := [some (.ref (gad G o0)), some (.int x1), none, none]) (by decide) rfl (Nat.le_of_ble_eq_true rfl) rfl (fun p e s m args below meth c cx hr hlk => s_X1_bytesSentOf cx hr hlk h o0 x1 hk_o0 a ha)
def b_X1_cameOf_4 (o0 : Nat) (x1 : Int32) (k4 : Hp × Int32 × Int32 → Option (Int32 × Hp)) (q : Hp × Int32 × Int32) : Option (Int32 × Hp) :=
  if (q.1 o0 13) ≤ q.2.2 then (some (q.2.1, q.1)) else (if ib q.2.2 200 then (if (q.1 (o0 + 1) (Int32.toNatClampNeg q.2.2)) = x1 then (k4 (q.1, q.2.1 + 1, q.2.2 + 1)) else (k4 (q.1, q.2.1, q.2.2 + 1))) else none)
def p_X1_cameOf (h : Hp) (o0 : Nat) (x1 : Int32) : Option (Int32 × Hp) :=
  lp (b_X1_cameOf_4 o0 x1) FU (h, 0, 0)
set_option maxRecDepth 4000 in
theorem s_X1_cameOf_4 {p : Program} {l : Launch} {e : Env} {s : State} {m : MethodId} {args : Array Value} {below : List Frame} {meth : Method} {c : Code} {G : GT} (cx : CX p s m args c cX1_cameOf 4 RX1 G) (hr : meth.sig.returnType = (some .int)) (hlk : meth.locks = false) (o0 : Nat) (x1 : Int32) (hk_o0 : kd o0 = 1) : ∀ (n : Nat) (q : Hp × Int32 × Int32), PF p l e (rmc 0 0) s m args below meth c 4 G 0 0 (QI below G args s) 4 [some (.ref (gad G o0)), some (.int x1), some (.int q.2.1), some (.int q.2.2)] [] q.1 (lp (b_X1_cameOf_4 o0 x1) n q) := by
  refine f_lp (lvf := fun (q : Hp × Int32 × Int32) => [some (.ref (gad G o0)), some (.int x1), some (.int q.2.1), some (.int q.2.2)]) (hf := fun (q : Hp × Int32 × Int32) => q.1) (fun k4 hk4 q => ?_)
  show PF p l e (rmc 0 0) s m args below meth c 4 G 0 0 (QI below G args s) 4 [some (.ref (gad G o0)), some (.int x1), some (.int q.2.1), some (.int q.2.2)] [] q.1 (b_X1_cameOf_4 o0 x1 k4 q)
  unfold b_X1_cameOf_4
  refine f_iload_n (pc := 4) cx dX1_cameOf_4 rfl rfl ?_
  refine f_aload_n (pc := 5) cx dX1_cameOf_5 rfl rfl ?_
  refine g_X1_51 (pc := 6) cx hk_o0 dX1_cameOf_6 ?_
  refine f_icmp_ge (pc := 9) (tgt := 31) cx dX1_cameOf_9 (by decide) (fun _ => ?_) (fun _ => ?_)
  · refine f_iload_n (pc := 31) cx dX1_cameOf_31 rfl rfl ?_
    exact f_iret cx hr hlk rfl dX1_cameOf_32
  · refine f_aload_n (pc := 12) cx dX1_cameOf_12 rfl rfl ?_
    refine g_X1_9 (pc := 13) cx hk_o0 dX1_cameOf_13 ?_
    refine f_iload_n (pc := 16) cx dX1_cameOf_16 rfl rfl ?_
    refine f_need (fun c1 => ?_)
    refine f_iald (pc := 17) (n := 200) cx (kf_1_0 hk_o0) (by decide) c1 dX1_cameOf_17 ?_
    refine f_iload_n (pc := 18) cx dX1_cameOf_18 rfl rfl ?_
    refine f_icmp_ne (pc := 19) (tgt := 25) cx dX1_cameOf_19 (by decide) (fun _ => ?_) (fun _ => ?_)
    · refine f_iinc2 (pc := 22) cx dX1_cameOf_22 kc_iconst_1 (by decide) rfl ?_
      refine f_iinc3 (pc := 25) cx dX1_cameOf_25 kc_iconst_1 (by decide) rfl ?_
      refine f_goto (pc := 28) (tgt := 4) cx dX1_cameOf_28 (by decide) ?_
      exact f_weak (LSb.s (LSb.s (LSb.s (LSb.s LSb.e)))) (hk4 (q.1, q.2.1 + 1, q.2.2 + 1))
    · refine f_iinc3 (pc := 25) cx dX1_cameOf_25 kc_iconst_1 (by decide) rfl ?_
      refine f_goto (pc := 28) (tgt := 4) cx dX1_cameOf_28 (by decide) ?_
      exact f_weak (LSb.s (LSb.s (LSb.s (LSb.s LSb.e)))) (hk4 (q.1, q.2.1, q.2.2 + 1))
set_option maxRecDepth 4000 in
theorem s_X1_cameOf {p : Program} {l : Launch} {e : Env} {s : State} {m : MethodId} {args : Array Value} {below : List Frame} {meth : Method} {c : Code} {G : GT} (cx : CX p s m args c cX1_cameOf 4 RX1 G) (hr : meth.sig.returnType = (some .int)) (hlk : meth.locks = false) (h : Hp) (o0 : Nat) (x1 : Int32) (hk_o0 : kd o0 = 1) : PF p l e (rmc 0 0) s m args below meth c 4 G 0 0 (QI below G args s) 0 [some (.ref (gad G o0)), some (.int x1), none, none] [] h (p_X1_cameOf h o0 x1) := by
  unfold p_X1_cameOf
  refine f_iconst (pc := 0) cx dX1_cameOf_0 kc_iconst_0 ?_
  refine f_istore2 (pc := 1) cx dX1_cameOf_1 (by decide) rfl ?_
  refine f_iconst (pc := 2) cx dX1_cameOf_2 kc_iconst_0 ?_
  refine f_istore3 (pc := 3) cx dX1_cameOf_3 (by decide) rfl ?_
  exact f_weak (LSb.s (LSb.s (LSb.s (LSb.s LSb.e)))) (s_X1_cameOf_4 cx hr hlk o0 x1 hk_o0 FU (h, 0, 0))
set_option maxRecDepth 4000 in
theorem c_X1_cameOf (l : Launch) (G : GT) (h : Hp) (o0 : Nat) (x1 : Int32) (hk_o0 : kd o0 = 1) : CtI l G yX1_cameOf cX1_cameOf 4 (some .int) 0 0 [.ref (gad G o0), .int x1] h (p_X1_cameOf h o0 x1) := fun a ha => Ct.of (lv := [some (.ref (gad G o0)), some (.int x1), none, none]) (by decide) rfl (Nat.le_of_ble_eq_true rfl) rfl (fun p e s m args below meth c cx hr hlk => s_X1_cameOf cx hr hlk h o0 x1 hk_o0 a ha)
def b_X1_wasStrangeBefore_2 (o0 : Nat) (x1 : Int32) (k2 : Hp × Int32 → Option (Int32 × Hp)) (q : Hp × Int32) : Option (Int32 × Hp) :=
  if x1 ≤ q.2 then (some (0, q.1)) else (if ib q.2 200 then (if (q.1 (o0 + 7) (Int32.toNatClampNeg q.2)) = 1 then (if ib q.2 200 then (if ib x1 200 then (if (q.1 (o0 + 1) (Int32.toNatClampNeg q.2)) = (q.1 (o0 + 1) (Int32.toNatClampNeg x1)) then (some (1, q.1)) else (k2 (q.1, q.2 + 1))) else none) else none) else (k2 (q.1, q.2 + 1))) else none)
def p_X1_wasStrangeBefore (h : Hp) (o0 : Nat) (x1 : Int32) : Option (Int32 × Hp) :=
  lp (b_X1_wasStrangeBefore_2 o0 x1) FU (h, 0)
set_option maxRecDepth 4000 in
theorem s_X1_wasStrangeBefore_2 {p : Program} {l : Launch} {e : Env} {s : State} {m : MethodId} {args : Array Value} {below : List Frame} {meth : Method} {c : Code} {G : GT} (cx : CX p s m args c cX1_wasStrangeBefore 3 RX1 G) (hr : meth.sig.returnType = (some .boolean)) (hlk : meth.locks = false) (o0 : Nat) (x1 : Int32) (hk_o0 : kd o0 = 1) : ∀ (n : Nat) (q : Hp × Int32), PF p l e (rmc 0 0) s m args below meth c 3 G 0 0 (QI below G args s) 2 [some (.ref (gad G o0)), some (.int x1), some (.int q.2)] [] q.1 (lp (b_X1_wasStrangeBefore_2 o0 x1) n q) := by
  refine f_lp (lvf := fun (q : Hp × Int32) => [some (.ref (gad G o0)), some (.int x1), some (.int q.2)]) (hf := fun (q : Hp × Int32) => q.1) (fun k2 hk2 q => ?_)
  show PF p l e (rmc 0 0) s m args below meth c 3 G 0 0 (QI below G args s) 2 [some (.ref (gad G o0)), some (.int x1), some (.int q.2)] [] q.1 (b_X1_wasStrangeBefore_2 o0 x1 k2 q)
  unfold b_X1_wasStrangeBefore_2
  refine f_iload_n (pc := 2) cx dX1_wasStrangeBefore_2 rfl rfl ?_
  refine f_iload_n (pc := 3) cx dX1_wasStrangeBefore_3 rfl rfl ?_
  refine f_icmp_ge (pc := 4) (tgt := 40) cx dX1_wasStrangeBefore_4 (by decide) (fun _ => ?_) (fun _ => ?_)
  · refine f_iconst (pc := 40) cx dX1_wasStrangeBefore_40 kc_iconst_0 ?_
    exact f_iret cx hr hlk (bb_n bb_0).1 dX1_wasStrangeBefore_41
  · refine f_aload_n (pc := 7) cx dX1_wasStrangeBefore_7 rfl rfl ?_
    refine g_X1_30 (pc := 8) cx hk_o0 dX1_wasStrangeBefore_8 ?_
    refine f_iload_n (pc := 11) cx dX1_wasStrangeBefore_11 rfl rfl ?_
    refine f_need (fun c1 => ?_)
    refine f_iald (pc := 12) (n := 200) cx (kf_1_6 hk_o0) (by decide) c1 dX1_wasStrangeBefore_12 ?_
    refine f_iconst (pc := 13) cx dX1_wasStrangeBefore_13 kc_iconst_1 ?_
    refine f_icmp_ne (pc := 14) (tgt := 34) cx dX1_wasStrangeBefore_14 (by decide) (fun _ => ?_) (fun _ => ?_)
    · refine f_aload_n (pc := 17) cx dX1_wasStrangeBefore_17 rfl rfl ?_
      refine g_X1_9 (pc := 18) cx hk_o0 dX1_wasStrangeBefore_18 ?_
      refine f_iload_n (pc := 21) cx dX1_wasStrangeBefore_21 rfl rfl ?_
      refine f_need (fun c2 => ?_)
      refine f_iald (pc := 22) (n := 200) cx (kf_1_0 hk_o0) (by decide) c2 dX1_wasStrangeBefore_22 ?_
      refine f_aload_n (pc := 23) cx dX1_wasStrangeBefore_23 rfl rfl ?_
      refine g_X1_9 (pc := 24) cx hk_o0 dX1_wasStrangeBefore_24 ?_
      refine f_iload_n (pc := 27) cx dX1_wasStrangeBefore_27 rfl rfl ?_
      refine f_need (fun c3 => ?_)
      refine f_iald (pc := 28) (n := 200) cx (kf_1_0 hk_o0) (by decide) c3 dX1_wasStrangeBefore_28 ?_
      refine f_icmp_ne (pc := 29) (tgt := 34) cx dX1_wasStrangeBefore_29 (by decide) (fun _ => ?_) (fun _ => ?_)
      · refine f_iconst (pc := 32) cx dX1_wasStrangeBefore_32 kc_iconst_1 ?_
        exact f_iret cx hr hlk (bb_n bb_1).1 dX1_wasStrangeBefore_33
      · refine f_iinc2 (pc := 34) cx dX1_wasStrangeBefore_34 kc_iconst_1 (by decide) rfl ?_
        refine f_goto (pc := 37) (tgt := 2) cx dX1_wasStrangeBefore_37 (by decide) ?_
        exact f_weak (LSb.s (LSb.s (LSb.s LSb.e))) (hk2 (q.1, q.2 + 1))
    · refine f_iinc2 (pc := 34) cx dX1_wasStrangeBefore_34 kc_iconst_1 (by decide) rfl ?_
      refine f_goto (pc := 37) (tgt := 2) cx dX1_wasStrangeBefore_37 (by decide) ?_
      exact f_weak (LSb.s (LSb.s (LSb.s LSb.e))) (hk2 (q.1, q.2 + 1))
set_option maxRecDepth 4000 in
theorem s_X1_wasStrangeBefore {p : Program} {l : Launch} {e : Env} {s : State} {m : MethodId} {args : Array Value} {below : List Frame} {meth : Method} {c : Code} {G : GT} (cx : CX p s m args c cX1_wasStrangeBefore 3 RX1 G) (hr : meth.sig.returnType = (some .boolean)) (hlk : meth.locks = false) (h : Hp) (o0 : Nat) (x1 : Int32) (hk_o0 : kd o0 = 1) : PF p l e (rmc 0 0) s m args below meth c 3 G 0 0 (QI below G args s) 0 [some (.ref (gad G o0)), some (.int x1), none] [] h (p_X1_wasStrangeBefore h o0 x1) := by
  unfold p_X1_wasStrangeBefore
  refine f_iconst (pc := 0) cx dX1_wasStrangeBefore_0 kc_iconst_0 ?_
  refine f_istore2 (pc := 1) cx dX1_wasStrangeBefore_1 (by decide) rfl ?_
  exact f_weak (LSb.s (LSb.s (LSb.s LSb.e))) (s_X1_wasStrangeBefore_2 cx hr hlk o0 x1 hk_o0 FU (h, 0))
set_option maxRecDepth 4000 in
theorem c_X1_wasStrangeBefore (l : Launch) (G : GT) (h : Hp) (o0 : Nat) (x1 : Int32) (hk_o0 : kd o0 = 1) : CtI l G yX1_wasStrangeBefore cX1_wasStrangeBefore 3 (some .boolean) 0 0 [.ref (gad G o0), .int x1] h (p_X1_wasStrangeBefore h o0 x1) := fun a ha => Ct.of (lv := [some (.ref (gad G o0)), some (.int x1), none]) (by decide) rfl (Nat.le_of_ble_eq_true rfl) rfl (fun p e s m args below meth c cx hr hlk => s_X1_wasStrangeBefore cx hr hlk h o0 x1 hk_o0 a ha)
def p_X1_sentOne (h : Hp) (o0 : Nat) (x1 : Int32) : Option (Int32 × Hp) :=
  Option.bind (p_X1_endedOne h o0 x1) fun r1 => Option.bind (p_X1_has r1.2 o0 r1.1) fun r2 => if r2.1 = 0 then (some ((-2), r2.2)) else (if ib r1.1 200 then (if (r2.2 (o0 + 9) (Int32.toNatClampNeg r1.1)) = 1 then (some (r1.1, r2.2)) else (some ((-2), r2.2))) else none)
set_option maxRecDepth 4000 in
theorem s_X1_sentOne {p : Program} {l : Launch} {e : Env} {s : State} {m : MethodId} {args : Array Value} {below : List Frame} {meth : Method} {c : Code} {G : GT} (cx : CX p s m args c cX1_sentOne 3 RX1 G) (hr : meth.sig.returnType = (some .int)) (hlk : meth.locks = false) (h : Hp) (o0 : Nat) (x1 : Int32) (hk_o0 : kd o0 = 1) : PF p l e (rmc 1 21) s m args below meth c 3 G 0 0 (QI below G args s) 0 [some (.ref (gad G o0)), some (.int x1), none] [] h (p_X1_sentOne h o0 x1) := by
  unfold p_X1_sentOne
  refine f_aload_n (pc := 0) cx dX1_sentOne_0 rfl rfl ?_
  refine f_iload_n (pc := 1) cx dX1_sentOne_1 rfl rfl ?_
  refine f_bind (fun r1 hr1 => ?_)
  refine k_X1_64 (pc := 2) cx (c_X1_endedOne l G _ o0 x1 hk_o0 r1 hr1) hk_o0 ⟨by decide, by decide⟩ ⟨Nat.zero_le _, Nat.zero_le _⟩ (Nat.le_of_ble_eq_true rfl) dX1_sentOne_2 ?_
  refine f_istore2 (pc := 5) cx dX1_sentOne_5 (by decide) rfl ?_
  refine f_aload_n (pc := 6) cx dX1_sentOne_6 rfl rfl ?_
  refine f_iload_n (pc := 7) cx dX1_sentOne_7 rfl rfl ?_
  refine f_bind (fun r2 hr2 => ?_)
  refine k_X1_68 (pc := 8) cx (c_X1_has l G _ o0 r1.1 hk_o0 r2 hr2) hk_o0 ⟨by decide, by decide⟩ ⟨Nat.zero_le _, Nat.zero_le _⟩ (Nat.le_of_ble_eq_true rfl) dX1_sentOne_8 ?_
  refine f_if_eq (pc := 11) (tgt := 28) cx dX1_sentOne_11 (by decide) (fun _ => ?_) (fun _ => ?_)
  · refine f_bipush (pc := 28) cx dX1_sentOne_28 kc_bipush_m2 ?_
    exact f_iret cx hr hlk rfl dX1_sentOne_30
  · refine f_aload_n (pc := 14) cx dX1_sentOne_14 rfl rfl ?_
    refine g_X1_36 (pc := 15) cx hk_o0 dX1_sentOne_15 ?_
    refine f_iload_n (pc := 18) cx dX1_sentOne_18 rfl rfl ?_
    refine f_need (fun c3 => ?_)
    refine f_iald (pc := 19) (n := 200) cx (kf_1_8 hk_o0) (by decide) c3 dX1_sentOne_19 ?_
    refine f_iconst (pc := 20) cx dX1_sentOne_20 kc_iconst_1 ?_
    refine f_icmp_ne (pc := 21) (tgt := 28) cx dX1_sentOne_21 (by decide) (fun _ => ?_) (fun _ => ?_)
    · refine f_iload_n (pc := 24) cx dX1_sentOne_24 rfl rfl ?_
      refine f_goto (pc := 25) (tgt := 30) cx dX1_sentOne_25 (by decide) ?_
      exact f_iret cx hr hlk rfl dX1_sentOne_30
    · refine f_bipush (pc := 28) cx dX1_sentOne_28 kc_bipush_m2 ?_
      exact f_iret cx hr hlk rfl dX1_sentOne_30
set_option maxRecDepth 4000 in
theorem c_X1_sentOne (l : Launch) (G : GT) (h : Hp) (o0 : Nat) (x1 : Int32) (hk_o0 : kd o0 = 1) : CtI l G yX1_sentOne cX1_sentOne 3 (some .int) 1 21 [.ref (gad G o0), .int x1] h (p_X1_sentOne h o0 x1) := fun a ha => Ct.of (lv := [some (.ref (gad G o0)), some (.int x1), none]) (by decide) rfl (Nat.le_of_ble_eq_true rfl) rfl (fun p e s m args below meth c cx hr hlk => s_X1_sentOne cx hr hlk h o0 x1 hk_o0 a ha)
def p_X1_tell (h : Hp) (o0 : Nat) (x1 : Int32) (x2 : Int32) : Option (Int32 × Hp) :=
  Option.bind (p_X1_has h o0 x1) fun r1 => if r1.1 = 0 then (some ((-1), r1.2)) else (if x2 = 0 then (if ib x1 200 then (some (r1.2 (o0 + 1) (Int32.toNatClampNeg x1), r1.2)) else none) else if x2 = 1 then (if ib x1 200 then (some (r1.2 (o0 + 2) (Int32.toNatClampNeg x1), r1.2)) else none) else if x2 = 2 then (if ib x1 200 then (some (r1.2 (o0 + 3) (Int32.toNatClampNeg x1), r1.2)) else none) else if x2 = 3 then (if ib x1 200 then (some (r1.2 (o0 + 4) (Int32.toNatClampNeg x1), r1.2)) else none) else if x2 = 4 then (if ib x1 200 then (some (r1.2 (o0 + 5) (Int32.toNatClampNeg x1), r1.2)) else none) else if x2 = 5 then (if ib x1 200 then (some (r1.2 (o0 + 8) (Int32.toNatClampNeg x1), r1.2)) else none) else if x2 = 6 then (if ib x1 200 then (some (r1.2 (o0 + 9) (Int32.toNatClampNeg x1), r1.2)) else none) else if x2 = 7 then (if ib x1 200 then (some (r1.2 (o0 + 10) (Int32.toNatClampNeg x1), r1.2)) else none) else (some ((-1), r1.2)))
set_option maxRecDepth 4000 in
theorem s_X1_tell {p : Program} {l : Launch} {e : Env} {s : State} {m : MethodId} {args : Array Value} {below : List Frame} {meth : Method} {c : Code} {G : GT} (cx : CX p s m args c cX1_tell 3 RX1 G) (hr : meth.sig.returnType = (some .int)) (hlk : meth.locks = false) (h : Hp) (o0 : Nat) (x1 : Int32) (x2 : Int32) (hk_o0 : kd o0 = 1) : PF p l e (rmc 1 21) s m args below meth c 3 G 0 0 (QI below G args s) 0 [some (.ref (gad G o0)), some (.int x1), some (.int x2)] [] h (p_X1_tell h o0 x1 x2) := by
  unfold p_X1_tell
  refine f_aload_n (pc := 0) cx dX1_tell_0 rfl rfl ?_
  refine f_iload_n (pc := 1) cx dX1_tell_1 rfl rfl ?_
  refine f_bind (fun r1 hr1 => ?_)
  refine k_X1_68 (pc := 2) cx (c_X1_has l G _ o0 x1 hk_o0 r1 hr1) hk_o0 ⟨by decide, by decide⟩ ⟨Nat.zero_le _, Nat.zero_le _⟩ (Nat.le_of_ble_eq_true rfl) dX1_tell_2 ?_
  refine f_if_ne (pc := 5) (tgt := 10) cx dX1_tell_5 (by decide) (fun _ => ?_) (fun _ => ?_)
  · refine f_iconst (pc := 8) cx dX1_tell_8 kc_iconst_m1 ?_
    exact f_iret cx hr hlk rfl dX1_tell_9
  · refine f_iload_n (pc := 10) cx dX1_tell_10 rfl rfl ?_
    refine f_case (?_) (fun n3 => ?_)
    · refine f_tin (pc := 11) (tgt := 56) cx dX1_tell_11 (by decide) (by decide) rfl (by decide) ?_
      refine f_aload_n (pc := 56) cx dX1_tell_56 rfl rfl ?_
      refine g_X1_9 (pc := 57) cx hk_o0 dX1_tell_57 ?_
      refine f_iload_n (pc := 60) cx dX1_tell_60 rfl rfl ?_
      refine f_need (fun c2 => ?_)
      refine f_iald (pc := 61) (n := 200) cx (kf_1_0 hk_o0) (by decide) c2 dX1_tell_61 ?_
      exact f_iret cx hr hlk rfl dX1_tell_62
    refine f_case (?_) (fun n5 => ?_)
    · refine f_tin (pc := 11) (tgt := 63) cx dX1_tell_11 (by decide) (by decide) rfl (by decide) ?_
      refine f_aload_n (pc := 63) cx dX1_tell_63 rfl rfl ?_
      refine g_X1_15 (pc := 64) cx hk_o0 dX1_tell_64 ?_
      refine f_iload_n (pc := 67) cx dX1_tell_67 rfl rfl ?_
      refine f_need (fun c4 => ?_)
      refine f_iald (pc := 68) (n := 200) cx (kf_1_1 hk_o0) (by decide) c4 dX1_tell_68 ?_
      exact f_iret cx hr hlk rfl dX1_tell_69
    refine f_case (?_) (fun n7 => ?_)
    · refine f_tin (pc := 11) (tgt := 70) cx dX1_tell_11 (by decide) (by decide) rfl (by decide) ?_
      refine f_aload_n (pc := 70) cx dX1_tell_70 rfl rfl ?_
      refine g_X1_18 (pc := 71) cx hk_o0 dX1_tell_71 ?_
      refine f_iload_n (pc := 74) cx dX1_tell_74 rfl rfl ?_
      refine f_need (fun c6 => ?_)
      refine f_iald (pc := 75) (n := 200) cx (kf_1_2 hk_o0) (by decide) c6 dX1_tell_75 ?_
      exact f_iret cx hr hlk rfl dX1_tell_76
    refine f_case (?_) (fun n9 => ?_)
    · refine f_tin (pc := 11) (tgt := 77) cx dX1_tell_11 (by decide) (by decide) rfl (by decide) ?_
      refine f_aload_n (pc := 77) cx dX1_tell_77 rfl rfl ?_
      refine g_X1_21 (pc := 78) cx hk_o0 dX1_tell_78 ?_
      refine f_iload_n (pc := 81) cx dX1_tell_81 rfl rfl ?_
      refine f_need (fun c8 => ?_)
      refine f_iald (pc := 82) (n := 200) cx (kf_1_3 hk_o0) (by decide) c8 dX1_tell_82 ?_
      exact f_iret cx hr hlk rfl dX1_tell_83
    refine f_case (?_) (fun n11 => ?_)
    · refine f_tin (pc := 11) (tgt := 84) cx dX1_tell_11 (by decide) (by decide) rfl (by decide) ?_
      refine f_aload_n (pc := 84) cx dX1_tell_84 rfl rfl ?_
      refine g_X1_24 (pc := 85) cx hk_o0 dX1_tell_85 ?_
      refine f_iload_n (pc := 88) cx dX1_tell_88 rfl rfl ?_
      refine f_need (fun c10 => ?_)
      refine f_iald (pc := 89) (n := 200) cx (kf_1_4 hk_o0) (by decide) c10 dX1_tell_89 ?_
      exact f_iret cx hr hlk rfl dX1_tell_90
    refine f_case (?_) (fun n13 => ?_)
    · refine f_tin (pc := 11) (tgt := 91) cx dX1_tell_11 (by decide) (by decide) rfl (by decide) ?_
      refine f_aload_n (pc := 91) cx dX1_tell_91 rfl rfl ?_
      refine g_X1_33 (pc := 92) cx hk_o0 dX1_tell_92 ?_
      refine f_iload_n (pc := 95) cx dX1_tell_95 rfl rfl ?_
      refine f_need (fun c12 => ?_)
      refine f_iald (pc := 96) (n := 200) cx (kf_1_7 hk_o0) (by decide) c12 dX1_tell_96 ?_
      exact f_iret cx hr hlk rfl dX1_tell_97
    refine f_case (?_) (fun n15 => ?_)
    · refine f_tin (pc := 11) (tgt := 98) cx dX1_tell_11 (by decide) (by decide) rfl (by decide) ?_
      refine f_aload_n (pc := 98) cx dX1_tell_98 rfl rfl ?_
      refine g_X1_36 (pc := 99) cx hk_o0 dX1_tell_99 ?_
      refine f_iload_n (pc := 102) cx dX1_tell_102 rfl rfl ?_
      refine f_need (fun c14 => ?_)
      refine f_iald (pc := 103) (n := 200) cx (kf_1_8 hk_o0) (by decide) c14 dX1_tell_103 ?_
      exact f_iret cx hr hlk rfl dX1_tell_104
    refine f_case (?_) (fun n17 => ?_)
    · refine f_tin (pc := 11) (tgt := 105) cx dX1_tell_11 (by decide) (by decide) rfl (by decide) ?_
      refine f_aload_n (pc := 105) cx dX1_tell_105 rfl rfl ?_
      refine g_X1_39 (pc := 106) cx hk_o0 dX1_tell_106 ?_
      refine f_iload_n (pc := 109) cx dX1_tell_109 rfl rfl ?_
      refine f_need (fun c16 => ?_)
      refine f_iald (pc := 110) (n := 200) cx (kf_1_9 hk_o0) (by decide) c16 dX1_tell_110 ?_
      exact f_iret cx hr hlk rfl dX1_tell_111
    refine f_tout (pc := 11) (tgt := 112) (N := 8) cx dX1_tell_11 (by decide) (by decide) (lt_s (lt_s (lt_s (lt_s (lt_s (lt_s (lt_s (lt_s lt_0 n3) n5) n7) n9) n11) n13) n15) n17) (by decide) ?_
    refine f_iconst (pc := 112) cx dX1_tell_112 kc_iconst_m1 ?_
    exact f_iret cx hr hlk rfl dX1_tell_113
set_option maxRecDepth 4000 in
theorem c_X1_tell (l : Launch) (G : GT) (h : Hp) (o0 : Nat) (x1 : Int32) (x2 : Int32) (hk_o0 : kd o0 = 1) : CtI l G yX1_tell cX1_tell 3 (some .int) 1 21 [.ref (gad G o0), .int x1, .int x2] h (p_X1_tell h o0 x1 x2) := fun a ha => Ct.of (lv := [some (.ref (gad G o0)), some (.int x1), some (.int x2)]) (by decide) rfl (Nat.le_of_ble_eq_true rfl) rfl (fun p e s m args below meth c cx hr hlk => s_X1_tell cx hr hlk h o0 x1 x2 hk_o0 a ha)
def b_X1_along_5 (o0 : Nat) (x2 : Int32) (k5 : Hp × Int32 × Int32 → Option (Int32 × Hp)) (q : Hp × Int32 × Int32) : Option (Int32 × Hp) :=
  if x2 ≤ q.2.2 then (Option.bind (p_X1_has q.1 o0 q.2.1) fun r1 => if r1.1 = 0 then (some ((-2), r1.2)) else (if 200 ≤ x2 then (some ((-2), r1.2)) else (some (q.2.1, r1.2)))) else (if 200 ≤ q.2.2 then (Option.bind (p_X1_has q.1 o0 q.2.1) fun r2 => if r2.1 = 0 then (some ((-2), r2.2)) else (if 200 ≤ x2 then (some ((-2), r2.2)) else (some (q.2.1, r2.2)))) else (Option.bind (p_X1_has q.1 o0 q.2.1) fun r3 => if r3.1 = 0 then (Option.bind (p_X1_has r3.2 o0 q.2.1) fun r4 => if r4.1 = 0 then (some ((-2), r4.2)) else (if 200 ≤ x2 then (some ((-2), r4.2)) else (some (q.2.1, r4.2)))) else (if ib q.2.1 200 then (nv (r3.2 (o0 + 11) (Int32.toNatClampNeg q.2.1)) fun v6 => k5 (r3.2, v6, q.2.2 + 1)) else none)))
def p_X1_along (h : Hp) (o0 : Nat) (x1 : Int32) (x2 : Int32) : Option (Int32 × Hp) :=
  lp (b_X1_along_5 o0 x2) FU (h, x1, 0)
set_option maxRecDepth 4000 in
theorem s_X1_along_5 {p : Program} {l : Launch} {e : Env} {s : State} {m : MethodId} {args : Array Value} {below : List Frame} {meth : Method} {c : Code} {G : GT} (cx : CX p s m args c cX1_along 5 RX1 G) (hr : meth.sig.returnType = (some .int)) (hlk : meth.locks = false) (o0 : Nat) (x2 : Int32) (hk_o0 : kd o0 = 1) : ∀ (n : Nat) (q : Hp × Int32 × Int32), PF p l e (rmc 1 21) s m args below meth c 5 G 0 0 (QI below G args s) 5 [some (.ref (gad G o0)), none, some (.int x2), some (.int q.2.1), some (.int q.2.2)] [] q.1 (lp (b_X1_along_5 o0 x2) n q) := by
  refine f_lp (lvf := fun (q : Hp × Int32 × Int32) => [some (.ref (gad G o0)), none, some (.int x2), some (.int q.2.1), some (.int q.2.2)]) (hf := fun (q : Hp × Int32 × Int32) => q.1) (fun k5 hk5 q => ?_)
  show PF p l e (rmc 1 21) s m args below meth c 5 G 0 0 (QI below G args s) 5 [some (.ref (gad G o0)), none, some (.int x2), some (.int q.2.1), some (.int q.2.2)] [] q.1 (b_X1_along_5 o0 x2 k5 q)
  unfold b_X1_along_5
  refine f_iload (pc := 5) cx dX1_along_5 rfl ?_
  refine f_iload_n (pc := 7) cx dX1_along_7 rfl rfl ?_
  refine f_icmp_ge (pc := 8) (tgt := 40) cx dX1_along_8 (by decide) (fun _ => ?_) (fun _ => ?_)
  · refine f_aload_n (pc := 40) cx dX1_along_40 rfl rfl ?_
    refine f_iload_n (pc := 41) cx dX1_along_41 rfl rfl ?_
    refine f_bind (fun r1 hr1 => ?_)
    refine k_X1_68 (pc := 42) cx (c_X1_has l G _ o0 q.2.1 hk_o0 r1 hr1) hk_o0 ⟨by decide, by decide⟩ ⟨Nat.zero_le _, Nat.zero_le _⟩ (Nat.le_of_ble_eq_true rfl) dX1_along_42 ?_
    refine f_if_eq (pc := 45) (tgt := 59) cx dX1_along_45 (by decide) (fun _ => ?_) (fun _ => ?_)
    · refine f_bipush (pc := 59) cx dX1_along_59 kc_bipush_m2 ?_
      exact f_iret cx hr hlk rfl dX1_along_61
    · refine f_iload_n (pc := 48) cx dX1_along_48 rfl rfl ?_
      refine f_sipush (pc := 49) cx dX1_along_49 kc_sipush_200 ?_
      refine f_icmp_ge (pc := 52) (tgt := 59) cx dX1_along_52 (by decide) (fun _ => ?_) (fun _ => ?_)
      · refine f_bipush (pc := 59) cx dX1_along_59 kc_bipush_m2 ?_
        exact f_iret cx hr hlk rfl dX1_along_61
      · refine f_iload_n (pc := 55) cx dX1_along_55 rfl rfl ?_
        refine f_goto (pc := 56) (tgt := 61) cx dX1_along_56 (by decide) ?_
        exact f_iret cx hr hlk rfl dX1_along_61
  · refine f_iload (pc := 11) cx dX1_along_11 rfl ?_
    refine f_sipush (pc := 13) cx dX1_along_13 kc_sipush_200 ?_
    refine f_icmp_ge (pc := 16) (tgt := 40) cx dX1_along_16 (by decide) (fun _ => ?_) (fun _ => ?_)
    · refine f_aload_n (pc := 40) cx dX1_along_40 rfl rfl ?_
      refine f_iload_n (pc := 41) cx dX1_along_41 rfl rfl ?_
      refine f_bind (fun r2 hr2 => ?_)
      refine k_X1_68 (pc := 42) cx (c_X1_has l G _ o0 q.2.1 hk_o0 r2 hr2) hk_o0 ⟨by decide, by decide⟩ ⟨Nat.zero_le _, Nat.zero_le _⟩ (Nat.le_of_ble_eq_true rfl) dX1_along_42 ?_
      refine f_if_eq (pc := 45) (tgt := 59) cx dX1_along_45 (by decide) (fun _ => ?_) (fun _ => ?_)
      · refine f_bipush (pc := 59) cx dX1_along_59 kc_bipush_m2 ?_
        exact f_iret cx hr hlk rfl dX1_along_61
      · refine f_iload_n (pc := 48) cx dX1_along_48 rfl rfl ?_
        refine f_sipush (pc := 49) cx dX1_along_49 kc_sipush_200 ?_
        refine f_icmp_ge (pc := 52) (tgt := 59) cx dX1_along_52 (by decide) (fun _ => ?_) (fun _ => ?_)
        · refine f_bipush (pc := 59) cx dX1_along_59 kc_bipush_m2 ?_
          exact f_iret cx hr hlk rfl dX1_along_61
        · refine f_iload_n (pc := 55) cx dX1_along_55 rfl rfl ?_
          refine f_goto (pc := 56) (tgt := 61) cx dX1_along_56 (by decide) ?_
          exact f_iret cx hr hlk rfl dX1_along_61
    · refine f_aload_n (pc := 19) cx dX1_along_19 rfl rfl ?_
      refine f_iload_n (pc := 20) cx dX1_along_20 rfl rfl ?_
      refine f_bind (fun r3 hr3 => ?_)
      refine k_X1_68 (pc := 21) cx (c_X1_has l G _ o0 q.2.1 hk_o0 r3 hr3) hk_o0 ⟨by decide, by decide⟩ ⟨Nat.zero_le _, Nat.zero_le _⟩ (Nat.le_of_ble_eq_true rfl) dX1_along_21 ?_
      refine f_if_eq (pc := 24) (tgt := 40) cx dX1_along_24 (by decide) (fun _ => ?_) (fun _ => ?_)
      · refine f_aload_n (pc := 40) cx dX1_along_40 rfl rfl ?_
        refine f_iload_n (pc := 41) cx dX1_along_41 rfl rfl ?_
        refine f_bind (fun r4 hr4 => ?_)
        refine k_X1_68 (pc := 42) cx (c_X1_has l G _ o0 q.2.1 hk_o0 r4 hr4) hk_o0 ⟨by decide, by decide⟩ ⟨Nat.zero_le _, Nat.zero_le _⟩ (Nat.le_of_ble_eq_true rfl) dX1_along_42 ?_
        refine f_if_eq (pc := 45) (tgt := 59) cx dX1_along_45 (by decide) (fun _ => ?_) (fun _ => ?_)
        · refine f_bipush (pc := 59) cx dX1_along_59 kc_bipush_m2 ?_
          exact f_iret cx hr hlk rfl dX1_along_61
        · refine f_iload_n (pc := 48) cx dX1_along_48 rfl rfl ?_
          refine f_sipush (pc := 49) cx dX1_along_49 kc_sipush_200 ?_
          refine f_icmp_ge (pc := 52) (tgt := 59) cx dX1_along_52 (by decide) (fun _ => ?_) (fun _ => ?_)
          · refine f_bipush (pc := 59) cx dX1_along_59 kc_bipush_m2 ?_
            exact f_iret cx hr hlk rfl dX1_along_61
          · refine f_iload_n (pc := 55) cx dX1_along_55 rfl rfl ?_
            refine f_goto (pc := 56) (tgt := 61) cx dX1_along_56 (by decide) ?_
            exact f_iret cx hr hlk rfl dX1_along_61
      · refine f_aload_n (pc := 27) cx dX1_along_27 rfl rfl ?_
        refine g_X1_42 (pc := 28) cx hk_o0 dX1_along_28 ?_
        refine f_iload_n (pc := 31) cx dX1_along_31 rfl rfl ?_
        refine f_need (fun c5 => ?_)
        refine f_iald (pc := 32) (n := 200) cx (kf_1_10 hk_o0) (by decide) c5 dX1_along_32 ?_
        refine f_nvi (fun v6 => ?_)
        refine f_istore3 (pc := 33) cx dX1_along_33 (by decide) rfl ?_
        refine f_iinc4 (pc := 34) cx dX1_along_34 kc_iconst_1 (by decide) rfl ?_
        refine f_goto (pc := 37) (tgt := 5) cx dX1_along_37 (by decide) ?_
        exact f_weak (LSb.s (LSb.n (LSb.s (LSb.s (LSb.s LSb.e))))) (hk5 (r3.2, v6, q.2.2 + 1))
set_option maxRecDepth 4000 in
theorem s_X1_along {p : Program} {l : Launch} {e : Env} {s : State} {m : MethodId} {args : Array Value} {below : List Frame} {meth : Method} {c : Code} {G : GT} (cx : CX p s m args c cX1_along 5 RX1 G) (hr : meth.sig.returnType = (some .int)) (hlk : meth.locks = false) (h : Hp) (o0 : Nat) (x1 : Int32) (x2 : Int32) (hk_o0 : kd o0 = 1) : PF p l e (rmc 1 21) s m args below meth c 5 G 0 0 (QI below G args s) 0 [some (.ref (gad G o0)), some (.int x1), some (.int x2), none, none] [] h (p_X1_along h o0 x1 x2) := by
  unfold p_X1_along
  refine f_iload_n (pc := 0) cx dX1_along_0 rfl rfl ?_
  refine f_istore3 (pc := 1) cx dX1_along_1 (by decide) rfl ?_
  refine f_iconst (pc := 2) cx dX1_along_2 kc_iconst_0 ?_
  refine f_istore4 (pc := 3) cx dX1_along_3 (by decide) rfl ?_
  exact f_weak (LSb.s (LSb.n (LSb.s (LSb.s (LSb.s LSb.e))))) (s_X1_along_5 cx hr hlk o0 x2 hk_o0 FU (h, x1, 0))
set_option maxRecDepth 4000 in
theorem c_X1_along (l : Launch) (G : GT) (h : Hp) (o0 : Nat) (x1 : Int32) (x2 : Int32) (hk_o0 : kd o0 = 1) : CtI l G yX1_along cX1_along 5 (some .int) 1 21 [.ref (gad G o0), .int x1, .int x2] h (p_X1_along h o0 x1 x2) := fun a ha => Ct.of (lv := [some (.ref (gad G o0)), some (.int x1), some (.int x2), none, none]) (by decide) rfl (Nat.le_of_ble_eq_true rfl) rfl (fun p e s m args below meth c cx hr hlk => s_X1_along cx hr hlk h o0 x1 x2 hk_o0 a ha)
def b_X1_endedAs_5 (o0 : Nat) (x1 : Int32) (k5 : Hp × Int32 × Int32 → Option (Int32 × Hp)) (q : Hp × Int32 × Int32) : Option (Int32 × Hp) :=
  if (q.1 o0 14) ≤ q.2.2 then (some ((-2), q.1)) else (Option.bind (p_X1_endedOne q.1 o0 q.2.2) fun r1 => Option.bind (p_X1_has r1.2 o0 r1.1) fun r2 => if r2.1 = 0 then (k5 (r2.2, q.2.1, q.2.2 + 1)) else (if x1 = 4 then (if ib r1.1 200 then (if (r2.2 (o0 + 8) (Int32.toNatClampNeg r1.1)) = 1 then (if q.2.1 = 0 then (some (r1.1, r2.2)) else (k5 (r2.2, q.2.1 + (-1), q.2.2 + 1))) else (k5 (r2.2, q.2.1, q.2.2 + 1))) else none) else (if ib r1.1 200 then (if (r2.2 (o0 + 9) (Int32.toNatClampNeg r1.1)) = x1 then (if q.2.1 = 0 then (some (r1.1, r2.2)) else (k5 (r2.2, q.2.1 + (-1), q.2.2 + 1))) else (k5 (r2.2, q.2.1, q.2.2 + 1))) else none)))
def p_X1_endedAs (h : Hp) (o0 : Nat) (x1 : Int32) (x2 : Int32) : Option (Int32 × Hp) :=
  lp (b_X1_endedAs_5 o0 x1) FU (h, x2, 0)
set_option maxRecDepth 4000 in
theorem s_X1_endedAs_5 {p : Program} {l : Launch} {e : Env} {s : State} {m : MethodId} {args : Array Value} {below : List Frame} {meth : Method} {c : Code} {G : GT} (cx : CX p s m args c cX1_endedAs 6 RX1 G) (hr : meth.sig.returnType = (some .int)) (hlk : meth.locks = false) (o0 : Nat) (x1 : Int32) (hk_o0 : kd o0 = 1) : ∀ (n : Nat) (q : Hp × Int32 × Int32), PF p l e (rmc 1 21) s m args below meth c 6 G 0 0 (QI below G args s) 5 [some (.ref (gad G o0)), some (.int x1), none, some (.int q.2.1), some (.int q.2.2), none] [] q.1 (lp (b_X1_endedAs_5 o0 x1) n q) := by
  refine f_lp (lvf := fun (q : Hp × Int32 × Int32) => [some (.ref (gad G o0)), some (.int x1), none, some (.int q.2.1), some (.int q.2.2), none]) (hf := fun (q : Hp × Int32 × Int32) => q.1) (fun k5 hk5 q => ?_)
  show PF p l e (rmc 1 21) s m args below meth c 6 G 0 0 (QI below G args s) 5 [some (.ref (gad G o0)), some (.int x1), none, some (.int q.2.1), some (.int q.2.2), none] [] q.1 (b_X1_endedAs_5 o0 x1 k5 q)
  unfold b_X1_endedAs_5
  refine f_iload (pc := 5) cx dX1_endedAs_5 rfl ?_
  refine f_aload_n (pc := 7) cx dX1_endedAs_7 rfl rfl ?_
  refine g_X1_55 (pc := 8) cx hk_o0 dX1_endedAs_8 ?_
  refine f_icmp_ge (pc := 11) (tgt := 77) cx dX1_endedAs_11 (by decide) (fun _ => ?_) (fun _ => ?_)
  · refine f_bipush (pc := 77) cx dX1_endedAs_77 kc_bipush_m2 ?_
    exact f_iret cx hr hlk rfl dX1_endedAs_79
  · refine f_aload_n (pc := 14) cx dX1_endedAs_14 rfl rfl ?_
    refine f_iload (pc := 15) cx dX1_endedAs_15 rfl ?_
    refine f_bind (fun r1 hr1 => ?_)
    refine k_X1_64 (pc := 17) cx (c_X1_endedOne l G _ o0 q.2.2 hk_o0 r1 hr1) hk_o0 ⟨by decide, by decide⟩ ⟨Nat.zero_le _, Nat.zero_le _⟩ (Nat.le_of_ble_eq_true rfl) dX1_endedAs_17 ?_
    refine f_istore5 (pc := 20) cx dX1_endedAs_20 (by decide) rfl ?_
    refine f_aload_n (pc := 22) cx dX1_endedAs_22 rfl rfl ?_
    refine f_iload (pc := 23) cx dX1_endedAs_23 rfl ?_
    refine f_bind (fun r2 hr2 => ?_)
    refine k_X1_68 (pc := 25) cx (c_X1_has l G _ o0 r1.1 hk_o0 r2 hr2) hk_o0 ⟨by decide, by decide⟩ ⟨Nat.zero_le _, Nat.zero_le _⟩ (Nat.le_of_ble_eq_true rfl) dX1_endedAs_25 ?_
    refine f_if_eq (pc := 28) (tgt := 71) cx dX1_endedAs_28 (by decide) (fun _ => ?_) (fun _ => ?_)
    · refine f_iinc4 (pc := 71) cx dX1_endedAs_71 kc_iconst_1 (by decide) rfl ?_
      refine f_goto (pc := 74) (tgt := 5) cx dX1_endedAs_74 (by decide) ?_
      exact f_weak (LSb.s (LSb.s (LSb.n (LSb.s (LSb.s (LSb.n LSb.e)))))) (hk5 (r2.2, q.2.1, q.2.2 + 1))
    · refine f_iload_n (pc := 31) cx dX1_endedAs_31 rfl rfl ?_
      refine f_iconst (pc := 32) cx dX1_endedAs_32 kc_iconst_4 ?_
      refine f_icmp_ne (pc := 33) (tgt := 50) cx dX1_endedAs_33 (by decide) (fun _ => ?_) (fun _ => ?_)
      · refine f_aload_n (pc := 36) cx dX1_endedAs_36 rfl rfl ?_
        refine g_X1_33 (pc := 37) cx hk_o0 dX1_endedAs_37 ?_
        refine f_iload (pc := 40) cx dX1_endedAs_40 rfl ?_
        refine f_need (fun c3 => ?_)
        refine f_iald (pc := 42) (n := 200) cx (kf_1_7 hk_o0) (by decide) c3 dX1_endedAs_42 ?_
        refine f_iconst (pc := 43) cx dX1_endedAs_43 kc_iconst_1 ?_
        refine f_icmp_ne (pc := 44) (tgt := 71) cx dX1_endedAs_44 (by decide) (fun _ => ?_) (fun _ => ?_)
        · refine f_goto (pc := 47) (tgt := 61) cx dX1_endedAs_47 (by decide) ?_
          refine f_iload_n (pc := 61) cx dX1_endedAs_61 rfl rfl ?_
          refine f_if_ne (pc := 62) (tgt := 68) cx dX1_endedAs_62 (by decide) (fun _ => ?_) (fun _ => ?_)
          · refine f_iload (pc := 65) cx dX1_endedAs_65 rfl ?_
            exact f_iret cx hr hlk rfl dX1_endedAs_67
          · refine f_iinc3 (pc := 68) cx dX1_endedAs_68 kc_iconst_m1 (by decide) rfl ?_
            refine f_iinc4 (pc := 71) cx dX1_endedAs_71 kc_iconst_1 (by decide) rfl ?_
            refine f_goto (pc := 74) (tgt := 5) cx dX1_endedAs_74 (by decide) ?_
            exact f_weak (LSb.s (LSb.s (LSb.n (LSb.s (LSb.s (LSb.n LSb.e)))))) (hk5 (r2.2, q.2.1 + (-1), q.2.2 + 1))
        · refine f_iinc4 (pc := 71) cx dX1_endedAs_71 kc_iconst_1 (by decide) rfl ?_
          refine f_goto (pc := 74) (tgt := 5) cx dX1_endedAs_74 (by decide) ?_
          exact f_weak (LSb.s (LSb.s (LSb.n (LSb.s (LSb.s (LSb.n LSb.e)))))) (hk5 (r2.2, q.2.1, q.2.2 + 1))
      · refine f_aload_n (pc := 50) cx dX1_endedAs_50 rfl rfl ?_
        refine g_X1_36 (pc := 51) cx hk_o0 dX1_endedAs_51 ?_
        refine f_iload (pc := 54) cx dX1_endedAs_54 rfl ?_
        refine f_need (fun c4 => ?_)
        refine f_iald (pc := 56) (n := 200) cx (kf_1_8 hk_o0) (by decide) c4 dX1_endedAs_56 ?_
        refine f_iload_n (pc := 57) cx dX1_endedAs_57 rfl rfl ?_
        refine f_icmp_ne (pc := 58) (tgt := 71) cx dX1_endedAs_58 (by decide) (fun _ => ?_) (fun _ => ?_)
        · refine f_iload_n (pc := 61) cx dX1_endedAs_61 rfl rfl ?_
          refine f_if_ne (pc := 62) (tgt := 68) cx dX1_endedAs_62 (by decide) (fun _ => ?_) (fun _ => ?_)
          · refine f_iload (pc := 65) cx dX1_endedAs_65 rfl ?_
            exact f_iret cx hr hlk rfl dX1_endedAs_67
          · refine f_iinc3 (pc := 68) cx dX1_endedAs_68 kc_iconst_m1 (by decide) rfl ?_
            refine f_iinc4 (pc := 71) cx dX1_endedAs_71 kc_iconst_1 (by decide) rfl ?_
            refine f_goto (pc := 74) (tgt := 5) cx dX1_endedAs_74 (by decide) ?_
            exact f_weak (LSb.s (LSb.s (LSb.n (LSb.s (LSb.s (LSb.n LSb.e)))))) (hk5 (r2.2, q.2.1 + (-1), q.2.2 + 1))
        · refine f_iinc4 (pc := 71) cx dX1_endedAs_71 kc_iconst_1 (by decide) rfl ?_
          refine f_goto (pc := 74) (tgt := 5) cx dX1_endedAs_74 (by decide) ?_
          exact f_weak (LSb.s (LSb.s (LSb.n (LSb.s (LSb.s (LSb.n LSb.e)))))) (hk5 (r2.2, q.2.1, q.2.2 + 1))
set_option maxRecDepth 4000 in
theorem s_X1_endedAs {p : Program} {l : Launch} {e : Env} {s : State} {m : MethodId} {args : Array Value} {below : List Frame} {meth : Method} {c : Code} {G : GT} (cx : CX p s m args c cX1_endedAs 6 RX1 G) (hr : meth.sig.returnType = (some .int)) (hlk : meth.locks = false) (h : Hp) (o0 : Nat) (x1 : Int32) (x2 : Int32) (hk_o0 : kd o0 = 1) : PF p l e (rmc 1 21) s m args below meth c 6 G 0 0 (QI below G args s) 0 [some (.ref (gad G o0)), some (.int x1), some (.int x2), none, none, none] [] h (p_X1_endedAs h o0 x1 x2) := by
  unfold p_X1_endedAs
  refine f_iload_n (pc := 0) cx dX1_endedAs_0 rfl rfl ?_
  refine f_istore3 (pc := 1) cx dX1_endedAs_1 (by decide) rfl ?_
  refine f_iconst (pc := 2) cx dX1_endedAs_2 kc_iconst_0 ?_
  refine f_istore4 (pc := 3) cx dX1_endedAs_3 (by decide) rfl ?_
  exact f_weak (LSb.s (LSb.s (LSb.n (LSb.s (LSb.s (LSb.n LSb.e)))))) (s_X1_endedAs_5 cx hr hlk o0 x1 hk_o0 FU (h, x2, 0))
set_option maxRecDepth 4000 in
theorem c_X1_endedAs (l : Launch) (G : GT) (h : Hp) (o0 : Nat) (x1 : Int32) (x2 : Int32) (hk_o0 : kd o0 = 1) : CtI l G yX1_endedAs cX1_endedAs 6 (some .int) 1 21 [.ref (gad G o0), .int x1, .int x2] h (p_X1_endedAs h o0 x1 x2) := fun a ha => Ct.of (lv := [some (.ref (gad G o0)), some (.int x1), some (.int x2), none, none, none]) (by decide) rfl (Nat.le_of_ble_eq_true rfl) rfl (fun p e s m args below meth c cx hr hlk => s_X1_endedAs cx hr hlk h o0 x1 x2 hk_o0 a ha)
def b_X1_greatestWaitOf_5 (o0 : Nat) (x1 : Int32) (k5 : Hp × Int32 × Int32 → Option (Int32 × Hp)) (q : Hp × Int32 × Int32) : Option (Int32 × Hp) :=
  if (q.1 o0 13) ≤ q.2.2 then (some (q.2.1, q.1)) else (if ib q.2.2 200 then (if (q.1 (o0 + 1) (Int32.toNatClampNeg q.2.2)) = x1 then (if ib q.2.2 200 then (if (q.1 (o0 + 9) (Int32.toNatClampNeg q.2.2)) = 1 then (Option.bind (p_X1_waitOf q.1 o0 q.2.2) fun r3 => nv (if q.2.1 < r3.1 then r3.1 else q.2.1) fun v4 => k5 (r3.2, v4, q.2.2 + 1)) else (k5 (q.1, q.2.1, q.2.2 + 1))) else none) else (k5 (q.1, q.2.1, q.2.2 + 1))) else none)
def p_X1_greatestWaitOf (h : Hp) (o0 : Nat) (x1 : Int32) : Option (Int32 × Hp) :=
  lp (b_X1_greatestWaitOf_5 o0 x1) FU (h, (-2), 0)
set_option maxRecDepth 4000 in
theorem s_X1_greatestWaitOf_5 {p : Program} {l : Launch} {e : Env} {s : State} {m : MethodId} {args : Array Value} {below : List Frame} {meth : Method} {c : Code} {G : GT} (cx : CX p s m args c cX1_greatestWaitOf 4 RX1 G) (hr : meth.sig.returnType = (some .int)) (hlk : meth.locks = false) (o0 : Nat) (x1 : Int32) (hk_o0 : kd o0 = 1) : ∀ (n : Nat) (q : Hp × Int32 × Int32), PF p l e (rmc 1 27) s m args below meth c 4 G 0 0 (QI below G args s) 5 [some (.ref (gad G o0)), some (.int x1), some (.int q.2.1), some (.int q.2.2)] [] q.1 (lp (b_X1_greatestWaitOf_5 o0 x1) n q) := by
  refine f_lp (lvf := fun (q : Hp × Int32 × Int32) => [some (.ref (gad G o0)), some (.int x1), some (.int q.2.1), some (.int q.2.2)]) (hf := fun (q : Hp × Int32 × Int32) => q.1) (fun k5 hk5 q => ?_)
  show PF p l e (rmc 1 27) s m args below meth c 4 G 0 0 (QI below G args s) 5 [some (.ref (gad G o0)), some (.int x1), some (.int q.2.1), some (.int q.2.2)] [] q.1 (b_X1_greatestWaitOf_5 o0 x1 k5 q)
  unfold b_X1_greatestWaitOf_5
  refine f_iload_n (pc := 5) cx dX1_greatestWaitOf_5 rfl rfl ?_
  refine f_aload_n (pc := 6) cx dX1_greatestWaitOf_6 rfl rfl ?_
  refine g_X1_51 (pc := 7) cx hk_o0 dX1_greatestWaitOf_7 ?_
  refine f_icmp_ge (pc := 10) (tgt := 49) cx dX1_greatestWaitOf_10 (by decide) (fun _ => ?_) (fun _ => ?_)
  · refine f_iload_n (pc := 49) cx dX1_greatestWaitOf_49 rfl rfl ?_
    exact f_iret cx hr hlk rfl dX1_greatestWaitOf_50
  · refine f_aload_n (pc := 13) cx dX1_greatestWaitOf_13 rfl rfl ?_
    refine g_X1_9 (pc := 14) cx hk_o0 dX1_greatestWaitOf_14 ?_
    refine f_iload_n (pc := 17) cx dX1_greatestWaitOf_17 rfl rfl ?_
    refine f_need (fun c1 => ?_)
    refine f_iald (pc := 18) (n := 200) cx (kf_1_0 hk_o0) (by decide) c1 dX1_greatestWaitOf_18 ?_
    refine f_iload_n (pc := 19) cx dX1_greatestWaitOf_19 rfl rfl ?_
    refine f_icmp_ne (pc := 20) (tgt := 43) cx dX1_greatestWaitOf_20 (by decide) (fun _ => ?_) (fun _ => ?_)
    · refine f_aload_n (pc := 23) cx dX1_greatestWaitOf_23 rfl rfl ?_
      refine g_X1_36 (pc := 24) cx hk_o0 dX1_greatestWaitOf_24 ?_
      refine f_iload_n (pc := 27) cx dX1_greatestWaitOf_27 rfl rfl ?_
      refine f_need (fun c2 => ?_)
      refine f_iald (pc := 28) (n := 200) cx (kf_1_8 hk_o0) (by decide) c2 dX1_greatestWaitOf_28 ?_
      refine f_iconst (pc := 29) cx dX1_greatestWaitOf_29 kc_iconst_1 ?_
      refine f_icmp_ne (pc := 30) (tgt := 43) cx dX1_greatestWaitOf_30 (by decide) (fun _ => ?_) (fun _ => ?_)
      · refine f_iload_n (pc := 33) cx dX1_greatestWaitOf_33 rfl rfl ?_
        refine f_aload_n (pc := 34) cx dX1_greatestWaitOf_34 rfl rfl ?_
        refine f_iload_n (pc := 35) cx dX1_greatestWaitOf_35 rfl rfl ?_
        refine f_bind (fun r3 hr3 => ?_)
        refine k_X1_72 (pc := 36) cx (c_X1_waitOf l G _ o0 q.2.2 hk_o0 r3 hr3) hk_o0 ⟨by decide, by decide⟩ ⟨Nat.zero_le _, Nat.zero_le _⟩ (Nat.le_of_ble_eq_true rfl) dX1_greatestWaitOf_36 ?_
        refine k_X1_75 (pc := 39) cx ⟨by decide, by decide⟩ ⟨Nat.zero_le _, Nat.zero_le _⟩ (Nat.le_of_ble_eq_true rfl) dX1_greatestWaitOf_39 ?_
        refine f_nvi (fun v4 => ?_)
        refine f_istore2 (pc := 42) cx dX1_greatestWaitOf_42 (by decide) rfl ?_
        refine f_iinc3 (pc := 43) cx dX1_greatestWaitOf_43 kc_iconst_1 (by decide) rfl ?_
        refine f_goto (pc := 46) (tgt := 5) cx dX1_greatestWaitOf_46 (by decide) ?_
        exact f_weak (LSb.s (LSb.s (LSb.s (LSb.s LSb.e)))) (hk5 (r3.2, v4, q.2.2 + 1))
      · refine f_iinc3 (pc := 43) cx dX1_greatestWaitOf_43 kc_iconst_1 (by decide) rfl ?_
        refine f_goto (pc := 46) (tgt := 5) cx dX1_greatestWaitOf_46 (by decide) ?_
        exact f_weak (LSb.s (LSb.s (LSb.s (LSb.s LSb.e)))) (hk5 (q.1, q.2.1, q.2.2 + 1))
    · refine f_iinc3 (pc := 43) cx dX1_greatestWaitOf_43 kc_iconst_1 (by decide) rfl ?_
      refine f_goto (pc := 46) (tgt := 5) cx dX1_greatestWaitOf_46 (by decide) ?_
      exact f_weak (LSb.s (LSb.s (LSb.s (LSb.s LSb.e)))) (hk5 (q.1, q.2.1, q.2.2 + 1))
set_option maxRecDepth 4000 in
theorem s_X1_greatestWaitOf {p : Program} {l : Launch} {e : Env} {s : State} {m : MethodId} {args : Array Value} {below : List Frame} {meth : Method} {c : Code} {G : GT} (cx : CX p s m args c cX1_greatestWaitOf 4 RX1 G) (hr : meth.sig.returnType = (some .int)) (hlk : meth.locks = false) (h : Hp) (o0 : Nat) (x1 : Int32) (hk_o0 : kd o0 = 1) : PF p l e (rmc 1 27) s m args below meth c 4 G 0 0 (QI below G args s) 0 [some (.ref (gad G o0)), some (.int x1), none, none] [] h (p_X1_greatestWaitOf h o0 x1) := by
  unfold p_X1_greatestWaitOf
  refine f_bipush (pc := 0) cx dX1_greatestWaitOf_0 kc_bipush_m2 ?_
  refine f_istore2 (pc := 2) cx dX1_greatestWaitOf_2 (by decide) rfl ?_
  refine f_iconst (pc := 3) cx dX1_greatestWaitOf_3 kc_iconst_0 ?_
  refine f_istore3 (pc := 4) cx dX1_greatestWaitOf_4 (by decide) rfl ?_
  exact f_weak (LSb.s (LSb.s (LSb.s (LSb.s LSb.e)))) (s_X1_greatestWaitOf_5 cx hr hlk o0 x1 hk_o0 FU (h, (-2), 0))
set_option maxRecDepth 4000 in
theorem c_X1_greatestWaitOf (l : Launch) (G : GT) (h : Hp) (o0 : Nat) (x1 : Int32) (hk_o0 : kd o0 = 1) : CtI l G yX1_greatestWaitOf cX1_greatestWaitOf 4 (some .int) 1 27 [.ref (gad G o0), .int x1] h (p_X1_greatestWaitOf h o0 x1) := fun a ha => Ct.of (lv := [some (.ref (gad G o0)), some (.int x1), none, none]) (by decide) rfl (Nat.le_of_ble_eq_true rfl) rfl (fun p e s m args below meth c cx hr hlk => s_X1_greatestWaitOf cx hr hlk h o0 x1 hk_o0 a ha)
def b_X1_waitsOf_4 (o0 : Nat) (x1 : Int32) (k4 : Hp × Int32 × Int32 → Option (Int32 × Hp)) (q : Hp × Int32 × Int32) : Option (Int32 × Hp) :=
  if (q.1 o0 13) ≤ q.2.2 then (some (q.2.1, q.1)) else (if ib q.2.2 200 then (if (q.1 (o0 + 1) (Int32.toNatClampNeg q.2.2)) = x1 then (if ib q.2.2 200 then (if (q.1 (o0 + 9) (Int32.toNatClampNeg q.2.2)) = 1 then (Option.bind (p_X1_waitOf q.1 o0 q.2.2) fun r3 => nv (q.2.1 + r3.1) fun v4 => k4 (r3.2, v4, q.2.2 + 1)) else (k4 (q.1, q.2.1, q.2.2 + 1))) else none) else (k4 (q.1, q.2.1, q.2.2 + 1))) else none)
def p_X1_waitsOf (h : Hp) (o0 : Nat) (x1 : Int32) : Option (Int32 × Hp) :=
  lp (b_X1_waitsOf_4 o0 x1) FU (h, 0, 0)
set_option maxRecDepth 4000 in
theorem s_X1_waitsOf_4 {p : Program} {l : Launch} {e : Env} {s : State} {m : MethodId} {args : Array Value} {below : List Frame} {meth : Method} {c : Code} {G : GT} (cx : CX p s m args c cX1_waitsOf 4 RX1 G) (hr : meth.sig.returnType = (some .int)) (hlk : meth.locks = false) (o0 : Nat) (x1 : Int32) (hk_o0 : kd o0 = 1) : ∀ (n : Nat) (q : Hp × Int32 × Int32), PF p l e (rmc 1 21) s m args below meth c 4 G 0 0 (QI below G args s) 4 [some (.ref (gad G o0)), some (.int x1), some (.int q.2.1), some (.int q.2.2)] [] q.1 (lp (b_X1_waitsOf_4 o0 x1) n q) := by
  refine f_lp (lvf := fun (q : Hp × Int32 × Int32) => [some (.ref (gad G o0)), some (.int x1), some (.int q.2.1), some (.int q.2.2)]) (hf := fun (q : Hp × Int32 × Int32) => q.1) (fun k4 hk4 q => ?_)
  show PF p l e (rmc 1 21) s m args below meth c 4 G 0 0 (QI below G args s) 4 [some (.ref (gad G o0)), some (.int x1), some (.int q.2.1), some (.int q.2.2)] [] q.1 (b_X1_waitsOf_4 o0 x1 k4 q)
  unfold b_X1_waitsOf_4
  refine f_iload_n (pc := 4) cx dX1_waitsOf_4 rfl rfl ?_
  refine f_aload_n (pc := 5) cx dX1_waitsOf_5 rfl rfl ?_
  refine g_X1_51 (pc := 6) cx hk_o0 dX1_waitsOf_6 ?_
  refine f_icmp_ge (pc := 9) (tgt := 46) cx dX1_waitsOf_9 (by decide) (fun _ => ?_) (fun _ => ?_)
  · refine f_iload_n (pc := 46) cx dX1_waitsOf_46 rfl rfl ?_
    exact f_iret cx hr hlk rfl dX1_waitsOf_47
  · refine f_aload_n (pc := 12) cx dX1_waitsOf_12 rfl rfl ?_
    refine g_X1_9 (pc := 13) cx hk_o0 dX1_waitsOf_13 ?_
    refine f_iload_n (pc := 16) cx dX1_waitsOf_16 rfl rfl ?_
    refine f_need (fun c1 => ?_)
    refine f_iald (pc := 17) (n := 200) cx (kf_1_0 hk_o0) (by decide) c1 dX1_waitsOf_17 ?_
    refine f_iload_n (pc := 18) cx dX1_waitsOf_18 rfl rfl ?_
    refine f_icmp_ne (pc := 19) (tgt := 40) cx dX1_waitsOf_19 (by decide) (fun _ => ?_) (fun _ => ?_)
    · refine f_aload_n (pc := 22) cx dX1_waitsOf_22 rfl rfl ?_
      refine g_X1_36 (pc := 23) cx hk_o0 dX1_waitsOf_23 ?_
      refine f_iload_n (pc := 26) cx dX1_waitsOf_26 rfl rfl ?_
      refine f_need (fun c2 => ?_)
      refine f_iald (pc := 27) (n := 200) cx (kf_1_8 hk_o0) (by decide) c2 dX1_waitsOf_27 ?_
      refine f_iconst (pc := 28) cx dX1_waitsOf_28 kc_iconst_1 ?_
      refine f_icmp_ne (pc := 29) (tgt := 40) cx dX1_waitsOf_29 (by decide) (fun _ => ?_) (fun _ => ?_)
      · refine f_iload_n (pc := 32) cx dX1_waitsOf_32 rfl rfl ?_
        refine f_aload_n (pc := 33) cx dX1_waitsOf_33 rfl rfl ?_
        refine f_iload_n (pc := 34) cx dX1_waitsOf_34 rfl rfl ?_
        refine f_bind (fun r3 hr3 => ?_)
        refine k_X1_72 (pc := 35) cx (c_X1_waitOf l G _ o0 q.2.2 hk_o0 r3 hr3) hk_o0 ⟨by decide, by decide⟩ ⟨Nat.zero_le _, Nat.zero_le _⟩ (Nat.le_of_ble_eq_true rfl) dX1_waitsOf_35 ?_
        refine f_iadd (pc := 38) cx dX1_waitsOf_38 ?_
        refine f_nvi (fun v4 => ?_)
        refine f_istore2 (pc := 39) cx dX1_waitsOf_39 (by decide) rfl ?_
        refine f_iinc3 (pc := 40) cx dX1_waitsOf_40 kc_iconst_1 (by decide) rfl ?_
        refine f_goto (pc := 43) (tgt := 4) cx dX1_waitsOf_43 (by decide) ?_
        exact f_weak (LSb.s (LSb.s (LSb.s (LSb.s LSb.e)))) (hk4 (r3.2, v4, q.2.2 + 1))
      · refine f_iinc3 (pc := 40) cx dX1_waitsOf_40 kc_iconst_1 (by decide) rfl ?_
        refine f_goto (pc := 43) (tgt := 4) cx dX1_waitsOf_43 (by decide) ?_
        exact f_weak (LSb.s (LSb.s (LSb.s (LSb.s LSb.e)))) (hk4 (q.1, q.2.1, q.2.2 + 1))
    · refine f_iinc3 (pc := 40) cx dX1_waitsOf_40 kc_iconst_1 (by decide) rfl ?_
      refine f_goto (pc := 43) (tgt := 4) cx dX1_waitsOf_43 (by decide) ?_
      exact f_weak (LSb.s (LSb.s (LSb.s (LSb.s LSb.e)))) (hk4 (q.1, q.2.1, q.2.2 + 1))
set_option maxRecDepth 4000 in
theorem s_X1_waitsOf {p : Program} {l : Launch} {e : Env} {s : State} {m : MethodId} {args : Array Value} {below : List Frame} {meth : Method} {c : Code} {G : GT} (cx : CX p s m args c cX1_waitsOf 4 RX1 G) (hr : meth.sig.returnType = (some .int)) (hlk : meth.locks = false) (h : Hp) (o0 : Nat) (x1 : Int32) (hk_o0 : kd o0 = 1) : PF p l e (rmc 1 21) s m args below meth c 4 G 0 0 (QI below G args s) 0 [some (.ref (gad G o0)), some (.int x1), none, none] [] h (p_X1_waitsOf h o0 x1) := by
  unfold p_X1_waitsOf
  refine f_iconst (pc := 0) cx dX1_waitsOf_0 kc_iconst_0 ?_
  refine f_istore2 (pc := 1) cx dX1_waitsOf_1 (by decide) rfl ?_
  refine f_iconst (pc := 2) cx dX1_waitsOf_2 kc_iconst_0 ?_
  refine f_istore3 (pc := 3) cx dX1_waitsOf_3 (by decide) rfl ?_
  exact f_weak (LSb.s (LSb.s (LSb.s (LSb.s LSb.e)))) (s_X1_waitsOf_4 cx hr hlk o0 x1 hk_o0 FU (h, 0, 0))
set_option maxRecDepth 4000 in
theorem c_X1_waitsOf (l : Launch) (G : GT) (h : Hp) (o0 : Nat) (x1 : Int32) (hk_o0 : kd o0 = 1) : CtI l G yX1_waitsOf cX1_waitsOf 4 (some .int) 1 21 [.ref (gad G o0), .int x1] h (p_X1_waitsOf h o0 x1) := fun a ha => Ct.of (lv := [some (.ref (gad G o0)), some (.int x1), none, none]) (by decide) rfl (Nat.le_of_ble_eq_true rfl) rfl (fun p e s m args below meth c cx hr hlk => s_X1_waitsOf cx hr hlk h o0 x1 hk_o0 a ha)
def b_X1_unevenness_25 (o0 : Nat) (k25 : Hp × Int32 × Int32 × Int32 → Option (Int32 × Hp)) (q : Hp × Int32 × Int32 × Int32) : Option (Int32 × Hp) :=
  if (q.1 o0 13) ≤ q.2.2.2 then (some (q.2.1 - q.2.2.1, q.1)) else (if ib q.2.2.2 200 then (Option.bind (p_X1_bytesSentOf q.1 o0 (q.1 (o0 + 1) (Int32.toNatClampNeg q.2.2.2))) fun r2 => nv (if q.2.1 < r2.1 then r2.1 else q.2.1) fun v3 => nv (if r2.1 < q.2.2.1 then r2.1 else q.2.2.1) fun v4 => k25 (r2.2, v3, v4, q.2.2.2 + 1)) else none)
def p_X1_unevenness (h : Hp) (o0 : Nat) : Option (Int32 × Hp) :=
  if (h o0 13) = 0 then (some ((-2), h)) else (Option.bind (p_X1_bytesSentOf h o0 (h (o0 + 1) 0)) fun r5 => lp (b_X1_unevenness_25 o0) FU (r5.2, r5.1, r5.1, 1))
set_option maxRecDepth 4000 in
theorem s_X1_unevenness_25 {p : Program} {l : Launch} {e : Env} {s : State} {m : MethodId} {args : Array Value} {below : List Frame} {meth : Method} {c : Code} {G : GT} (cx : CX p s m args c cX1_unevenness 5 RX1 G) (hr : meth.sig.returnType = (some .int)) (hlk : meth.locks = false) (o0 : Nat) (hk_o0 : kd o0 = 1) : ∀ (n : Nat) (q : Hp × Int32 × Int32 × Int32), PF p l e (rmc 1 27) s m args below meth c 5 G 0 0 (QI below G args s) 25 [some (.ref (gad G o0)), some (.int q.2.1), some (.int q.2.2.1), some (.int q.2.2.2), none] [] q.1 (lp (b_X1_unevenness_25 o0) n q) := by
  refine f_lp (lvf := fun (q : Hp × Int32 × Int32 × Int32) => [some (.ref (gad G o0)), some (.int q.2.1), some (.int q.2.2.1), some (.int q.2.2.2), none]) (hf := fun (q : Hp × Int32 × Int32 × Int32) => q.1) (fun k25 hk25 q => ?_)
  show PF p l e (rmc 1 27) s m args below meth c 5 G 0 0 (QI below G args s) 25 [some (.ref (gad G o0)), some (.int q.2.1), some (.int q.2.2.1), some (.int q.2.2.2), none] [] q.1 (b_X1_unevenness_25 o0 k25 q)
  unfold b_X1_unevenness_25
  refine f_iload_n (pc := 25) cx dX1_unevenness_25 rfl rfl ?_
  refine f_aload_n (pc := 26) cx dX1_unevenness_26 rfl rfl ?_
  refine g_X1_51 (pc := 27) cx hk_o0 dX1_unevenness_27 ?_
  refine f_icmp_ge (pc := 30) (tgt := 65) cx dX1_unevenness_30 (by decide) (fun _ => ?_) (fun _ => ?_)
  · refine f_iload_n (pc := 65) cx dX1_unevenness_65 rfl rfl ?_
    refine f_iload_n (pc := 66) cx dX1_unevenness_66 rfl rfl ?_
    refine f_isub (pc := 67) cx dX1_unevenness_67 ?_
    exact f_iret cx hr hlk rfl dX1_unevenness_68
  · refine f_aload_n (pc := 33) cx dX1_unevenness_33 rfl rfl ?_
    refine f_aload_n (pc := 34) cx dX1_unevenness_34 rfl rfl ?_
    refine g_X1_9 (pc := 35) cx hk_o0 dX1_unevenness_35 ?_
    refine f_iload_n (pc := 38) cx dX1_unevenness_38 rfl rfl ?_
    refine f_need (fun c1 => ?_)
    refine f_iald (pc := 39) (n := 200) cx (kf_1_0 hk_o0) (by decide) c1 dX1_unevenness_39 ?_
    refine f_bind (fun r2 hr2 => ?_)
    refine k_X1_84 (pc := 40) cx (c_X1_bytesSentOf l G _ o0 (q.1 (o0 + 1) (Int32.toNatClampNeg q.2.2.2)) hk_o0 r2 hr2) hk_o0 ⟨by decide, by decide⟩ ⟨Nat.zero_le _, Nat.zero_le _⟩ (Nat.le_of_ble_eq_true rfl) dX1_unevenness_40 ?_
    refine f_istore4 (pc := 43) cx dX1_unevenness_43 (by decide) rfl ?_
    refine f_iload_n (pc := 45) cx dX1_unevenness_45 rfl rfl ?_
    refine f_iload (pc := 46) cx dX1_unevenness_46 rfl ?_
    refine k_X1_75 (pc := 48) cx ⟨by decide, by decide⟩ ⟨Nat.zero_le _, Nat.zero_le _⟩ (Nat.le_of_ble_eq_true rfl) dX1_unevenness_48 ?_
    refine f_nvi (fun v3 => ?_)
    refine f_istore1 (pc := 51) cx dX1_unevenness_51 (by decide) rfl ?_
    refine f_iload_n (pc := 52) cx dX1_unevenness_52 rfl rfl ?_
    refine f_iload (pc := 53) cx dX1_unevenness_53 rfl ?_
    refine k_X1_87 (pc := 55) cx ⟨by decide, by decide⟩ ⟨Nat.zero_le _, Nat.zero_le _⟩ (Nat.le_of_ble_eq_true rfl) dX1_unevenness_55 ?_
    refine f_nvi (fun v4 => ?_)
    refine f_istore2 (pc := 58) cx dX1_unevenness_58 (by decide) rfl ?_
    refine f_iinc3 (pc := 59) cx dX1_unevenness_59 kc_iconst_1 (by decide) rfl ?_
    refine f_goto (pc := 62) (tgt := 25) cx dX1_unevenness_62 (by decide) ?_
    exact f_weak (LSb.s (LSb.s (LSb.s (LSb.s (LSb.n LSb.e))))) (hk25 (r2.2, v3, v4, q.2.2.2 + 1))
set_option maxRecDepth 4000 in
theorem s_X1_unevenness {p : Program} {l : Launch} {e : Env} {s : State} {m : MethodId} {args : Array Value} {below : List Frame} {meth : Method} {c : Code} {G : GT} (cx : CX p s m args c cX1_unevenness 5 RX1 G) (hr : meth.sig.returnType = (some .int)) (hlk : meth.locks = false) (h : Hp) (o0 : Nat) (hk_o0 : kd o0 = 1) : PF p l e (rmc 1 27) s m args below meth c 5 G 0 0 (QI below G args s) 0 [some (.ref (gad G o0)), none, none, none, none] [] h (p_X1_unevenness h o0) := by
  unfold p_X1_unevenness
  refine f_aload_n (pc := 0) cx dX1_unevenness_0 rfl rfl ?_
  refine g_X1_51 (pc := 1) cx hk_o0 dX1_unevenness_1 ?_
  refine f_if_ne (pc := 4) (tgt := 10) cx dX1_unevenness_4 (by decide) (fun _ => ?_) (fun _ => ?_)
  · refine f_bipush (pc := 7) cx dX1_unevenness_7 kc_bipush_m2 ?_
    exact f_iret cx hr hlk rfl dX1_unevenness_9
  · refine f_aload_n (pc := 10) cx dX1_unevenness_10 rfl rfl ?_
    refine f_aload_n (pc := 11) cx dX1_unevenness_11 rfl rfl ?_
    refine g_X1_9 (pc := 12) cx hk_o0 dX1_unevenness_12 ?_
    refine f_iconst (pc := 15) cx dX1_unevenness_15 kc_iconst_0 ?_
    refine f_ialdk (pc := 16) (j := 0) (n := 200) cx (kf_1_0 hk_o0) (by decide) (by decide) kl_0 dX1_unevenness_16 ?_
    refine f_bind (fun r5 hr5 => ?_)
    refine k_X1_84 (pc := 17) cx (c_X1_bytesSentOf l G _ o0 (h (o0 + 1) 0) hk_o0 r5 hr5) hk_o0 ⟨by decide, by decide⟩ ⟨Nat.zero_le _, Nat.zero_le _⟩ (Nat.le_of_ble_eq_true rfl) dX1_unevenness_17 ?_
    refine f_istore1 (pc := 20) cx dX1_unevenness_20 (by decide) rfl ?_
    refine f_iload_n (pc := 21) cx dX1_unevenness_21 rfl rfl ?_
    refine f_istore2 (pc := 22) cx dX1_unevenness_22 (by decide) rfl ?_
    refine f_iconst (pc := 23) cx dX1_unevenness_23 kc_iconst_1 ?_
    refine f_istore3 (pc := 24) cx dX1_unevenness_24 (by decide) rfl ?_
    exact f_weak (LSb.s (LSb.s (LSb.s (LSb.s (LSb.n LSb.e))))) (s_X1_unevenness_25 cx hr hlk o0 hk_o0 FU (r5.2, r5.1, r5.1, 1))
set_option maxRecDepth 4000 in
theorem c_X1_unevenness (l : Launch) (G : GT) (h : Hp) (o0 : Nat) (hk_o0 : kd o0 = 1) : CtI l G yX1_unevenness cX1_unevenness 5 (some .int) 1 27 [.ref (gad G o0)] h (p_X1_unevenness h o0) := fun a ha => Ct.of (lv := [some (.ref (gad G o0)), none, none, none, none]) (by decide) rfl (Nat.le_of_ble_eq_true rfl) rfl (fun p e s m args below meth c cx hr hlk => s_X1_unevenness cx hr hlk h o0 hk_o0 a ha)
def b_X1_strangeKeys_4 (o0 : Nat) (k4 : Hp × Int32 × Int32 → Option (Int32 × Hp)) (q : Hp × Int32 × Int32) : Option (Int32 × Hp) :=
  if (q.1 o0 13) ≤ q.2.2 then (some (q.2.1, q.1)) else (if ib q.2.2 200 then (if (q.1 (o0 + 7) (Int32.toNatClampNeg q.2.2)) = 1 then (Option.bind (p_X1_wasStrangeBefore q.1 o0 q.2.2) fun r2 => if r2.1 = 0 then (k4 (r2.2, q.2.1 + 1, q.2.2 + 1)) else (k4 (r2.2, q.2.1, q.2.2 + 1))) else (k4 (q.1, q.2.1, q.2.2 + 1))) else none)
def p_X1_strangeKeys (h : Hp) (o0 : Nat) : Option (Int32 × Hp) :=
  lp (b_X1_strangeKeys_4 o0) FU (h, 0, 0)
set_option maxRecDepth 4000 in
theorem s_X1_strangeKeys_4 {p : Program} {l : Launch} {e : Env} {s : State} {m : MethodId} {args : Array Value} {below : List Frame} {meth : Method} {c : Code} {G : GT} (cx : CX p s m args c cX1_strangeKeys 3 RX1 G) (hr : meth.sig.returnType = (some .int)) (hlk : meth.locks = false) (o0 : Nat) (hk_o0 : kd o0 = 1) : ∀ (n : Nat) (q : Hp × Int32 × Int32), PF p l e (rmc 1 22) s m args below meth c 3 G 0 0 (QI below G args s) 4 [some (.ref (gad G o0)), some (.int q.2.1), some (.int q.2.2)] [] q.1 (lp (b_X1_strangeKeys_4 o0) n q) := by
  refine f_lp (lvf := fun (q : Hp × Int32 × Int32) => [some (.ref (gad G o0)), some (.int q.2.1), some (.int q.2.2)]) (hf := fun (q : Hp × Int32 × Int32) => q.1) (fun k4 hk4 q => ?_)
  show PF p l e (rmc 1 22) s m args below meth c 3 G 0 0 (QI below G args s) 4 [some (.ref (gad G o0)), some (.int q.2.1), some (.int q.2.2)] [] q.1 (b_X1_strangeKeys_4 o0 k4 q)
  unfold b_X1_strangeKeys_4
  refine f_iload_n (pc := 4) cx dX1_strangeKeys_4 rfl rfl ?_
  refine f_aload_n (pc := 5) cx dX1_strangeKeys_5 rfl rfl ?_
  refine g_X1_51 (pc := 6) cx hk_o0 dX1_strangeKeys_6 ?_
  refine f_icmp_ge (pc := 9) (tgt := 39) cx dX1_strangeKeys_9 (by decide) (fun _ => ?_) (fun _ => ?_)
  · refine f_iload_n (pc := 39) cx dX1_strangeKeys_39 rfl rfl ?_
    exact f_iret cx hr hlk rfl dX1_strangeKeys_40
  · refine f_aload_n (pc := 12) cx dX1_strangeKeys_12 rfl rfl ?_
    refine g_X1_30 (pc := 13) cx hk_o0 dX1_strangeKeys_13 ?_
    refine f_iload_n (pc := 16) cx dX1_strangeKeys_16 rfl rfl ?_
    refine f_need (fun c1 => ?_)
    refine f_iald (pc := 17) (n := 200) cx (kf_1_6 hk_o0) (by decide) c1 dX1_strangeKeys_17 ?_
    refine f_iconst (pc := 18) cx dX1_strangeKeys_18 kc_iconst_1 ?_
    refine f_icmp_ne (pc := 19) (tgt := 33) cx dX1_strangeKeys_19 (by decide) (fun _ => ?_) (fun _ => ?_)
    · refine f_aload_n (pc := 22) cx dX1_strangeKeys_22 rfl rfl ?_
      refine f_iload_n (pc := 23) cx dX1_strangeKeys_23 rfl rfl ?_
      refine f_bind (fun r2 hr2 => ?_)
      refine k_X1_90 (pc := 24) cx (c_X1_wasStrangeBefore l G _ o0 q.2.2 hk_o0 r2 hr2) hk_o0 ⟨by decide, by decide⟩ ⟨Nat.zero_le _, Nat.zero_le _⟩ (Nat.le_of_ble_eq_true rfl) dX1_strangeKeys_24 ?_
      refine f_if_ne (pc := 27) (tgt := 33) cx dX1_strangeKeys_27 (by decide) (fun _ => ?_) (fun _ => ?_)
      · refine f_iinc1 (pc := 30) cx dX1_strangeKeys_30 kc_iconst_1 (by decide) rfl ?_
        refine f_iinc2 (pc := 33) cx dX1_strangeKeys_33 kc_iconst_1 (by decide) rfl ?_
        refine f_goto (pc := 36) (tgt := 4) cx dX1_strangeKeys_36 (by decide) ?_
        exact f_weak (LSb.s (LSb.s (LSb.s LSb.e))) (hk4 (r2.2, q.2.1 + 1, q.2.2 + 1))
      · refine f_iinc2 (pc := 33) cx dX1_strangeKeys_33 kc_iconst_1 (by decide) rfl ?_
        refine f_goto (pc := 36) (tgt := 4) cx dX1_strangeKeys_36 (by decide) ?_
        exact f_weak (LSb.s (LSb.s (LSb.s LSb.e))) (hk4 (r2.2, q.2.1, q.2.2 + 1))
    · refine f_iinc2 (pc := 33) cx dX1_strangeKeys_33 kc_iconst_1 (by decide) rfl ?_
      refine f_goto (pc := 36) (tgt := 4) cx dX1_strangeKeys_36 (by decide) ?_
      exact f_weak (LSb.s (LSb.s (LSb.s LSb.e))) (hk4 (q.1, q.2.1, q.2.2 + 1))
set_option maxRecDepth 4000 in
theorem s_X1_strangeKeys {p : Program} {l : Launch} {e : Env} {s : State} {m : MethodId} {args : Array Value} {below : List Frame} {meth : Method} {c : Code} {G : GT} (cx : CX p s m args c cX1_strangeKeys 3 RX1 G) (hr : meth.sig.returnType = (some .int)) (hlk : meth.locks = false) (h : Hp) (o0 : Nat) (hk_o0 : kd o0 = 1) : PF p l e (rmc 1 22) s m args below meth c 3 G 0 0 (QI below G args s) 0 [some (.ref (gad G o0)), none, none] [] h (p_X1_strangeKeys h o0) := by
  unfold p_X1_strangeKeys
  refine f_iconst (pc := 0) cx dX1_strangeKeys_0 kc_iconst_0 ?_
  refine f_istore1 (pc := 1) cx dX1_strangeKeys_1 (by decide) rfl ?_
  refine f_iconst (pc := 2) cx dX1_strangeKeys_2 kc_iconst_0 ?_
  refine f_istore2 (pc := 3) cx dX1_strangeKeys_3 (by decide) rfl ?_
  exact f_weak (LSb.s (LSb.s (LSb.s LSb.e))) (s_X1_strangeKeys_4 cx hr hlk o0 hk_o0 FU (h, 0, 0))
set_option maxRecDepth 4000 in
theorem c_X1_strangeKeys (l : Launch) (G : GT) (h : Hp) (o0 : Nat) (hk_o0 : kd o0 = 1) : CtI l G yX1_strangeKeys cX1_strangeKeys 3 (some .int) 1 22 [.ref (gad G o0)] h (p_X1_strangeKeys h o0) := fun a ha => Ct.of (lv := [some (.ref (gad G o0)), none, none]) (by decide) rfl (Nat.le_of_ble_eq_true rfl) rfl (fun p e s m args below meth c cx hr hlk => s_X1_strangeKeys cx hr hlk h o0 hk_o0 a ha)
def b_X1_sentWithin_5 (o0 : Nat) (x1 : Int32) (x2 : Int32) (k5 : Hp × Int32 × Int32 → Option (Int32 × Hp)) (q : Hp × Int32 × Int32) : Option (Int32 × Hp) :=
  if (q.1 o0 13) ≤ q.2.2 then (some (q.2.1, q.1)) else (if ib q.2.2 200 then (if (q.1 (o0 + 9) (Int32.toNatClampNeg q.2.2)) = 1 then (Option.bind (p_X1_waitOf q.1 o0 q.2.2) fun r2 => if r2.1 < x1 then (k5 (r2.2, q.2.1, q.2.2 + 1)) else (Option.bind (p_X1_waitOf r2.2 o0 q.2.2) fun r3 => if x2 < r3.1 then (k5 (r3.2, q.2.1, q.2.2 + 1)) else (k5 (r3.2, q.2.1 + 1, q.2.2 + 1)))) else (k5 (q.1, q.2.1, q.2.2 + 1))) else none)
def p_X1_sentWithin (h : Hp) (o0 : Nat) (x1 : Int32) (x2 : Int32) : Option (Int32 × Hp) :=
  lp (b_X1_sentWithin_5 o0 x1 x2) FU (h, 0, 0)
set_option maxRecDepth 4000 in
theorem s_X1_sentWithin_5 {p : Program} {l : Launch} {e : Env} {s : State} {m : MethodId} {args : Array Value} {below : List Frame} {meth : Method} {c : Code} {G : GT} (cx : CX p s m args c cX1_sentWithin 5 RX1 G) (hr : meth.sig.returnType = (some .int)) (hlk : meth.locks = false) (o0 : Nat) (x1 : Int32) (x2 : Int32) (hk_o0 : kd o0 = 1) : ∀ (n : Nat) (q : Hp × Int32 × Int32), PF p l e (rmc 1 21) s m args below meth c 5 G 0 0 (QI below G args s) 5 [some (.ref (gad G o0)), some (.int x1), some (.int x2), some (.int q.2.1), some (.int q.2.2)] [] q.1 (lp (b_X1_sentWithin_5 o0 x1 x2) n q) := by
  refine f_lp (lvf := fun (q : Hp × Int32 × Int32) => [some (.ref (gad G o0)), some (.int x1), some (.int x2), some (.int q.2.1), some (.int q.2.2)]) (hf := fun (q : Hp × Int32 × Int32) => q.1) (fun k5 hk5 q => ?_)
  show PF p l e (rmc 1 21) s m args below meth c 5 G 0 0 (QI below G args s) 5 [some (.ref (gad G o0)), some (.int x1), some (.int x2), some (.int q.2.1), some (.int q.2.2)] [] q.1 (b_X1_sentWithin_5 o0 x1 x2 k5 q)
  unfold b_X1_sentWithin_5
  refine f_iload (pc := 5) cx dX1_sentWithin_5 rfl ?_
  refine f_aload_n (pc := 7) cx dX1_sentWithin_7 rfl rfl ?_
  refine g_X1_51 (pc := 8) cx hk_o0 dX1_sentWithin_8 ?_
  refine f_icmp_ge (pc := 11) (tgt := 54) cx dX1_sentWithin_11 (by decide) (fun _ => ?_) (fun _ => ?_)
  · refine f_iload_n (pc := 54) cx dX1_sentWithin_54 rfl rfl ?_
    exact f_iret cx hr hlk rfl dX1_sentWithin_55
  · refine f_aload_n (pc := 14) cx dX1_sentWithin_14 rfl rfl ?_
    refine g_X1_36 (pc := 15) cx hk_o0 dX1_sentWithin_15 ?_
    refine f_iload (pc := 18) cx dX1_sentWithin_18 rfl ?_
    refine f_need (fun c1 => ?_)
    refine f_iald (pc := 20) (n := 200) cx (kf_1_8 hk_o0) (by decide) c1 dX1_sentWithin_20 ?_
    refine f_iconst (pc := 21) cx dX1_sentWithin_21 kc_iconst_1 ?_
    refine f_icmp_ne (pc := 22) (tgt := 48) cx dX1_sentWithin_22 (by decide) (fun _ => ?_) (fun _ => ?_)
    · refine f_aload_n (pc := 25) cx dX1_sentWithin_25 rfl rfl ?_
      refine f_iload (pc := 26) cx dX1_sentWithin_26 rfl ?_
      refine f_bind (fun r2 hr2 => ?_)
      refine k_X1_72 (pc := 28) cx (c_X1_waitOf l G _ o0 q.2.2 hk_o0 r2 hr2) hk_o0 ⟨by decide, by decide⟩ ⟨Nat.zero_le _, Nat.zero_le _⟩ (Nat.le_of_ble_eq_true rfl) dX1_sentWithin_28 ?_
      refine f_iload_n (pc := 31) cx dX1_sentWithin_31 rfl rfl ?_
      refine f_icmp_lt (pc := 32) (tgt := 48) cx dX1_sentWithin_32 (by decide) (fun _ => ?_) (fun _ => ?_)
      · refine f_iinc4 (pc := 48) cx dX1_sentWithin_48 kc_iconst_1 (by decide) rfl ?_
        refine f_goto (pc := 51) (tgt := 5) cx dX1_sentWithin_51 (by decide) ?_
        exact f_weak (LSb.s (LSb.s (LSb.s (LSb.s (LSb.s LSb.e))))) (hk5 (r2.2, q.2.1, q.2.2 + 1))
      · refine f_aload_n (pc := 35) cx dX1_sentWithin_35 rfl rfl ?_
        refine f_iload (pc := 36) cx dX1_sentWithin_36 rfl ?_
        refine f_bind (fun r3 hr3 => ?_)
        refine k_X1_72 (pc := 38) cx (c_X1_waitOf l G _ o0 q.2.2 hk_o0 r3 hr3) hk_o0 ⟨by decide, by decide⟩ ⟨Nat.zero_le _, Nat.zero_le _⟩ (Nat.le_of_ble_eq_true rfl) dX1_sentWithin_38 ?_
        refine f_iload_n (pc := 41) cx dX1_sentWithin_41 rfl rfl ?_
        refine f_icmp_gt (pc := 42) (tgt := 48) cx dX1_sentWithin_42 (by decide) (fun _ => ?_) (fun _ => ?_)
        · refine f_iinc4 (pc := 48) cx dX1_sentWithin_48 kc_iconst_1 (by decide) rfl ?_
          refine f_goto (pc := 51) (tgt := 5) cx dX1_sentWithin_51 (by decide) ?_
          exact f_weak (LSb.s (LSb.s (LSb.s (LSb.s (LSb.s LSb.e))))) (hk5 (r3.2, q.2.1, q.2.2 + 1))
        · refine f_iinc3 (pc := 45) cx dX1_sentWithin_45 kc_iconst_1 (by decide) rfl ?_
          refine f_iinc4 (pc := 48) cx dX1_sentWithin_48 kc_iconst_1 (by decide) rfl ?_
          refine f_goto (pc := 51) (tgt := 5) cx dX1_sentWithin_51 (by decide) ?_
          exact f_weak (LSb.s (LSb.s (LSb.s (LSb.s (LSb.s LSb.e))))) (hk5 (r3.2, q.2.1 + 1, q.2.2 + 1))
    · refine f_iinc4 (pc := 48) cx dX1_sentWithin_48 kc_iconst_1 (by decide) rfl ?_
      refine f_goto (pc := 51) (tgt := 5) cx dX1_sentWithin_51 (by decide) ?_
      exact f_weak (LSb.s (LSb.s (LSb.s (LSb.s (LSb.s LSb.e))))) (hk5 (q.1, q.2.1, q.2.2 + 1))
set_option maxRecDepth 4000 in
theorem s_X1_sentWithin {p : Program} {l : Launch} {e : Env} {s : State} {m : MethodId} {args : Array Value} {below : List Frame} {meth : Method} {c : Code} {G : GT} (cx : CX p s m args c cX1_sentWithin 5 RX1 G) (hr : meth.sig.returnType = (some .int)) (hlk : meth.locks = false) (h : Hp) (o0 : Nat) (x1 : Int32) (x2 : Int32) (hk_o0 : kd o0 = 1) : PF p l e (rmc 1 21) s m args below meth c 5 G 0 0 (QI below G args s) 0 [some (.ref (gad G o0)), some (.int x1), some (.int x2), none, none] [] h (p_X1_sentWithin h o0 x1 x2) := by
  unfold p_X1_sentWithin
  refine f_iconst (pc := 0) cx dX1_sentWithin_0 kc_iconst_0 ?_
  refine f_istore3 (pc := 1) cx dX1_sentWithin_1 (by decide) rfl ?_
  refine f_iconst (pc := 2) cx dX1_sentWithin_2 kc_iconst_0 ?_
  refine f_istore4 (pc := 3) cx dX1_sentWithin_3 (by decide) rfl ?_
  exact f_weak (LSb.s (LSb.s (LSb.s (LSb.s (LSb.s LSb.e))))) (s_X1_sentWithin_5 cx hr hlk o0 x1 x2 hk_o0 FU (h, 0, 0))
set_option maxRecDepth 4000 in
theorem c_X1_sentWithin (l : Launch) (G : GT) (h : Hp) (o0 : Nat) (x1 : Int32) (x2 : Int32) (hk_o0 : kd o0 = 1) : CtI l G yX1_sentWithin cX1_sentWithin 5 (some .int) 1 21 [.ref (gad G o0), .int x1, .int x2] h (p_X1_sentWithin h o0 x1 x2) := fun a ha => Ct.of (lv := [some (.ref (gad G o0)), some (.int x1), some (.int x2), none, none]) (by decide) rfl (Nat.le_of_ble_eq_true rfl) rfl (fun p e s m args below meth c cx hr hlk => s_X1_sentWithin cx hr hlk h o0 x1 x2 hk_o0 a ha)
def b_X1_bytesSentFrom_8 (o0 : Nat) (k8 : Hp × Int32 × Int32 → Option (Int32 × Hp)) (q : Hp × Int32 × Int32) : Option (Int32 × Hp) :=
  if (q.1 o0 14) ≤ q.2.2 then (some (q.2.1, q.1)) else (Option.bind (p_X1_sentOne q.1 o0 q.2.2) fun r1 => Option.bind (p_X1_has r1.2 o0 r1.1) fun r2 => if r2.1 = 0 then (k8 (r2.2, q.2.1, q.2.2 + 1)) else (if ib r1.1 200 then (nv (q.2.1 + (r2.2 (o0 + 2) (Int32.toNatClampNeg r1.1))) fun v4 => k8 (r2.2, v4, q.2.2 + 1)) else none))
def p_X1_bytesSentFrom (h : Hp) (o0 : Nat) (x1 : Int32) : Option (Int32 × Hp) :=
  nv (if x1 < 0 then 0 else x1) fun v5 => lp (b_X1_bytesSentFrom_8 o0) FU (h, 0, v5)
set_option maxRecDepth 4000 in
theorem s_X1_bytesSentFrom_8 {p : Program} {l : Launch} {e : Env} {s : State} {m : MethodId} {args : Array Value} {below : List Frame} {meth : Method} {c : Code} {G : GT} (cx : CX p s m args c cX1_bytesSentFrom 5 RX1 G) (hr : meth.sig.returnType = (some .int)) (hlk : meth.locks = false) (o0 : Nat) (hk_o0 : kd o0 = 1) : ∀ (n : Nat) (q : Hp × Int32 × Int32), PF p l e (rmc 2 43) s m args below meth c 5 G 0 0 (QI below G args s) 8 [some (.ref (gad G o0)), none, some (.int q.2.1), some (.int q.2.2), none] [] q.1 (lp (b_X1_bytesSentFrom_8 o0) n q) := by
  refine f_lp (lvf := fun (q : Hp × Int32 × Int32) => [some (.ref (gad G o0)), none, some (.int q.2.1), some (.int q.2.2), none]) (hf := fun (q : Hp × Int32 × Int32) => q.1) (fun k8 hk8 q => ?_)
  show PF p l e (rmc 2 43) s m args below meth c 5 G 0 0 (QI below G args s) 8 [some (.ref (gad G o0)), none, some (.int q.2.1), some (.int q.2.2), none] [] q.1 (b_X1_bytesSentFrom_8 o0 k8 q)
  unfold b_X1_bytesSentFrom_8
  refine f_iload_n (pc := 8) cx dX1_bytesSentFrom_8 rfl rfl ?_
  refine f_aload_n (pc := 9) cx dX1_bytesSentFrom_9 rfl rfl ?_
  refine g_X1_55 (pc := 10) cx hk_o0 dX1_bytesSentFrom_10 ?_
  refine f_icmp_ge (pc := 13) (tgt := 48) cx dX1_bytesSentFrom_13 (by decide) (fun _ => ?_) (fun _ => ?_)
  · refine f_iload_n (pc := 48) cx dX1_bytesSentFrom_48 rfl rfl ?_
    exact f_iret cx hr hlk rfl dX1_bytesSentFrom_49
  · refine f_aload_n (pc := 16) cx dX1_bytesSentFrom_16 rfl rfl ?_
    refine f_iload_n (pc := 17) cx dX1_bytesSentFrom_17 rfl rfl ?_
    refine f_bind (fun r1 hr1 => ?_)
    refine k_X1_81 (pc := 18) cx (c_X1_sentOne l G _ o0 q.2.2 hk_o0 r1 hr1) hk_o0 ⟨by decide, by decide⟩ ⟨Nat.zero_le _, Nat.zero_le _⟩ (Nat.le_of_ble_eq_true rfl) dX1_bytesSentFrom_18 ?_
    refine f_istore4 (pc := 21) cx dX1_bytesSentFrom_21 (by decide) rfl ?_
    refine f_aload_n (pc := 23) cx dX1_bytesSentFrom_23 rfl rfl ?_
    refine f_iload (pc := 24) cx dX1_bytesSentFrom_24 rfl ?_
    refine f_bind (fun r2 hr2 => ?_)
    refine k_X1_68 (pc := 26) cx (c_X1_has l G _ o0 r1.1 hk_o0 r2 hr2) hk_o0 ⟨by decide, by decide⟩ ⟨Nat.zero_le _, Nat.zero_le _⟩ (Nat.le_of_ble_eq_true rfl) dX1_bytesSentFrom_26 ?_
    refine f_if_eq (pc := 29) (tgt := 42) cx dX1_bytesSentFrom_29 (by decide) (fun _ => ?_) (fun _ => ?_)
    · refine f_iinc3 (pc := 42) cx dX1_bytesSentFrom_42 kc_iconst_1 (by decide) rfl ?_
      refine f_goto (pc := 45) (tgt := 8) cx dX1_bytesSentFrom_45 (by decide) ?_
      exact f_weak (LSb.s (LSb.n (LSb.s (LSb.s (LSb.n LSb.e))))) (hk8 (r2.2, q.2.1, q.2.2 + 1))
    · refine f_iload_n (pc := 32) cx dX1_bytesSentFrom_32 rfl rfl ?_
      refine f_aload_n (pc := 33) cx dX1_bytesSentFrom_33 rfl rfl ?_
      refine g_X1_15 (pc := 34) cx hk_o0 dX1_bytesSentFrom_34 ?_
      refine f_iload (pc := 37) cx dX1_bytesSentFrom_37 rfl ?_
      refine f_need (fun c3 => ?_)
      refine f_iald (pc := 39) (n := 200) cx (kf_1_1 hk_o0) (by decide) c3 dX1_bytesSentFrom_39 ?_
      refine f_iadd (pc := 40) cx dX1_bytesSentFrom_40 ?_
      refine f_nvi (fun v4 => ?_)
      refine f_istore2 (pc := 41) cx dX1_bytesSentFrom_41 (by decide) rfl ?_
      refine f_iinc3 (pc := 42) cx dX1_bytesSentFrom_42 kc_iconst_1 (by decide) rfl ?_
      refine f_goto (pc := 45) (tgt := 8) cx dX1_bytesSentFrom_45 (by decide) ?_
      exact f_weak (LSb.s (LSb.n (LSb.s (LSb.s (LSb.n LSb.e))))) (hk8 (r2.2, v4, q.2.2 + 1))
set_option maxRecDepth 4000 in
theorem s_X1_bytesSentFrom {p : Program} {l : Launch} {e : Env} {s : State} {m : MethodId} {args : Array Value} {below : List Frame} {meth : Method} {c : Code} {G : GT} (cx : CX p s m args c cX1_bytesSentFrom 5 RX1 G) (hr : meth.sig.returnType = (some .int)) (hlk : meth.locks = false) (h : Hp) (o0 : Nat) (x1 : Int32) (hk_o0 : kd o0 = 1) : PF p l e (rmc 2 43) s m args below meth c 5 G 0 0 (QI below G args s) 0 [some (.ref (gad G o0)), some (.int x1), none, none, none] [] h (p_X1_bytesSentFrom h o0 x1) := by
  unfold p_X1_bytesSentFrom
  refine f_iconst (pc := 0) cx dX1_bytesSentFrom_0 kc_iconst_0 ?_
  refine f_istore2 (pc := 1) cx dX1_bytesSentFrom_1 (by decide) rfl ?_
  refine f_iload_n (pc := 2) cx dX1_bytesSentFrom_2 rfl rfl ?_
  refine f_iconst (pc := 3) cx dX1_bytesSentFrom_3 kc_iconst_0 ?_
  refine k_X1_75 (pc := 4) cx ⟨by decide, by decide⟩ ⟨Nat.zero_le _, Nat.zero_le _⟩ (Nat.le_of_ble_eq_true rfl) dX1_bytesSentFrom_4 ?_
  refine f_nvi (fun v5 => ?_)
  refine f_istore3 (pc := 7) cx dX1_bytesSentFrom_7 (by decide) rfl ?_
  exact f_weak (LSb.s (LSb.n (LSb.s (LSb.s (LSb.n LSb.e))))) (s_X1_bytesSentFrom_8 cx hr hlk o0 hk_o0 FU (h, 0, v5))
set_option maxRecDepth 4000 in
theorem c_X1_bytesSentFrom (l : Launch) (G : GT) (h : Hp) (o0 : Nat) (x1 : Int32) (hk_o0 : kd o0 = 1) : CtI l G yX1_bytesSentFrom cX1_bytesSentFrom 5 (some .int) 2 43 [.ref (gad G o0), .int x1] h (p_X1_bytesSentFrom h o0 x1) := fun a ha => Ct.of (lv := [some (.ref (gad G o0)), some (.int x1), none, none, none]) (by decide) rfl (Nat.le_of_ble_eq_true rfl) rfl (fun p e s m args below meth c cx hr hlk => s_X1_bytesSentFrom cx hr hlk h o0 x1 hk_o0 a ha)
def b_X1_waitsFrom_8 (o0 : Nat) (k8 : Hp × Int32 × Int32 → Option (Int32 × Hp)) (q : Hp × Int32 × Int32) : Option (Int32 × Hp) :=
  if (q.1 o0 14) ≤ q.2.2 then (some (q.2.1, q.1)) else (Option.bind (p_X1_sentOne q.1 o0 q.2.2) fun r1 => Option.bind (p_X1_has r1.2 o0 r1.1) fun r2 => if r2.1 = 0 then (k8 (r2.2, q.2.1, q.2.2 + 1)) else (Option.bind (p_X1_waitOf r2.2 o0 r1.1) fun r3 => nv (q.2.1 + r3.1) fun v4 => k8 (r3.2, v4, q.2.2 + 1)))
def p_X1_waitsFrom (h : Hp) (o0 : Nat) (x1 : Int32) : Option (Int32 × Hp) :=
  nv (if x1 < 0 then 0 else x1) fun v5 => lp (b_X1_waitsFrom_8 o0) FU (h, 0, v5)
set_option maxRecDepth 4000 in
theorem s_X1_waitsFrom_8 {p : Program} {l : Launch} {e : Env} {s : State} {m : MethodId} {args : Array Value} {below : List Frame} {meth : Method} {c : Code} {G : GT} (cx : CX p s m args c cX1_waitsFrom 5 RX1 G) (hr : meth.sig.returnType = (some .int)) (hlk : meth.locks = false) (o0 : Nat) (hk_o0 : kd o0 = 1) : ∀ (n : Nat) (q : Hp × Int32 × Int32), PF p l e (rmc 2 43) s m args below meth c 5 G 0 0 (QI below G args s) 8 [some (.ref (gad G o0)), none, some (.int q.2.1), some (.int q.2.2), none] [] q.1 (lp (b_X1_waitsFrom_8 o0) n q) := by
  refine f_lp (lvf := fun (q : Hp × Int32 × Int32) => [some (.ref (gad G o0)), none, some (.int q.2.1), some (.int q.2.2), none]) (hf := fun (q : Hp × Int32 × Int32) => q.1) (fun k8 hk8 q => ?_)
  show PF p l e (rmc 2 43) s m args below meth c 5 G 0 0 (QI below G args s) 8 [some (.ref (gad G o0)), none, some (.int q.2.1), some (.int q.2.2), none] [] q.1 (b_X1_waitsFrom_8 o0 k8 q)
  unfold b_X1_waitsFrom_8
  refine f_iload_n (pc := 8) cx dX1_waitsFrom_8 rfl rfl ?_
  refine f_aload_n (pc := 9) cx dX1_waitsFrom_9 rfl rfl ?_
  refine g_X1_55 (pc := 10) cx hk_o0 dX1_waitsFrom_10 ?_
  refine f_icmp_ge (pc := 13) (tgt := 47) cx dX1_waitsFrom_13 (by decide) (fun _ => ?_) (fun _ => ?_)
  · refine f_iload_n (pc := 47) cx dX1_waitsFrom_47 rfl rfl ?_
    exact f_iret cx hr hlk rfl dX1_waitsFrom_48
  · refine f_aload_n (pc := 16) cx dX1_waitsFrom_16 rfl rfl ?_
    refine f_iload_n (pc := 17) cx dX1_waitsFrom_17 rfl rfl ?_
    refine f_bind (fun r1 hr1 => ?_)
    refine k_X1_81 (pc := 18) cx (c_X1_sentOne l G _ o0 q.2.2 hk_o0 r1 hr1) hk_o0 ⟨by decide, by decide⟩ ⟨Nat.zero_le _, Nat.zero_le _⟩ (Nat.le_of_ble_eq_true rfl) dX1_waitsFrom_18 ?_
    refine f_istore4 (pc := 21) cx dX1_waitsFrom_21 (by decide) rfl ?_
    refine f_aload_n (pc := 23) cx dX1_waitsFrom_23 rfl rfl ?_
    refine f_iload (pc := 24) cx dX1_waitsFrom_24 rfl ?_
    refine f_bind (fun r2 hr2 => ?_)
    refine k_X1_68 (pc := 26) cx (c_X1_has l G _ o0 r1.1 hk_o0 r2 hr2) hk_o0 ⟨by decide, by decide⟩ ⟨Nat.zero_le _, Nat.zero_le _⟩ (Nat.le_of_ble_eq_true rfl) dX1_waitsFrom_26 ?_
    refine f_if_eq (pc := 29) (tgt := 41) cx dX1_waitsFrom_29 (by decide) (fun _ => ?_) (fun _ => ?_)
    · refine f_iinc3 (pc := 41) cx dX1_waitsFrom_41 kc_iconst_1 (by decide) rfl ?_
      refine f_goto (pc := 44) (tgt := 8) cx dX1_waitsFrom_44 (by decide) ?_
      exact f_weak (LSb.s (LSb.n (LSb.s (LSb.s (LSb.n LSb.e))))) (hk8 (r2.2, q.2.1, q.2.2 + 1))
    · refine f_iload_n (pc := 32) cx dX1_waitsFrom_32 rfl rfl ?_
      refine f_aload_n (pc := 33) cx dX1_waitsFrom_33 rfl rfl ?_
      refine f_iload (pc := 34) cx dX1_waitsFrom_34 rfl ?_
      refine f_bind (fun r3 hr3 => ?_)
      refine k_X1_72 (pc := 36) cx (c_X1_waitOf l G _ o0 r1.1 hk_o0 r3 hr3) hk_o0 ⟨by decide, by decide⟩ ⟨Nat.zero_le _, Nat.zero_le _⟩ (Nat.le_of_ble_eq_true rfl) dX1_waitsFrom_36 ?_
      refine f_iadd (pc := 39) cx dX1_waitsFrom_39 ?_
      refine f_nvi (fun v4 => ?_)
      refine f_istore2 (pc := 40) cx dX1_waitsFrom_40 (by decide) rfl ?_
      refine f_iinc3 (pc := 41) cx dX1_waitsFrom_41 kc_iconst_1 (by decide) rfl ?_
      refine f_goto (pc := 44) (tgt := 8) cx dX1_waitsFrom_44 (by decide) ?_
      exact f_weak (LSb.s (LSb.n (LSb.s (LSb.s (LSb.n LSb.e))))) (hk8 (r3.2, v4, q.2.2 + 1))
set_option maxRecDepth 4000 in
theorem s_X1_waitsFrom {p : Program} {l : Launch} {e : Env} {s : State} {m : MethodId} {args : Array Value} {below : List Frame} {meth : Method} {c : Code} {G : GT} (cx : CX p s m args c cX1_waitsFrom 5 RX1 G) (hr : meth.sig.returnType = (some .int)) (hlk : meth.locks = false) (h : Hp) (o0 : Nat) (x1 : Int32) (hk_o0 : kd o0 = 1) : PF p l e (rmc 2 43) s m args below meth c 5 G 0 0 (QI below G args s) 0 [some (.ref (gad G o0)), some (.int x1), none, none, none] [] h (p_X1_waitsFrom h o0 x1) := by
  unfold p_X1_waitsFrom
  refine f_iconst (pc := 0) cx dX1_waitsFrom_0 kc_iconst_0 ?_
  refine f_istore2 (pc := 1) cx dX1_waitsFrom_1 (by decide) rfl ?_
  refine f_iload_n (pc := 2) cx dX1_waitsFrom_2 rfl rfl ?_
  refine f_iconst (pc := 3) cx dX1_waitsFrom_3 kc_iconst_0 ?_
  refine k_X1_75 (pc := 4) cx ⟨by decide, by decide⟩ ⟨Nat.zero_le _, Nat.zero_le _⟩ (Nat.le_of_ble_eq_true rfl) dX1_waitsFrom_4 ?_
  refine f_nvi (fun v5 => ?_)
  refine f_istore3 (pc := 7) cx dX1_waitsFrom_7 (by decide) rfl ?_
  exact f_weak (LSb.s (LSb.n (LSb.s (LSb.s (LSb.n LSb.e))))) (s_X1_waitsFrom_8 cx hr hlk o0 hk_o0 FU (h, 0, v5))
set_option maxRecDepth 4000 in
theorem c_X1_waitsFrom (l : Launch) (G : GT) (h : Hp) (o0 : Nat) (x1 : Int32) (hk_o0 : kd o0 = 1) : CtI l G yX1_waitsFrom cX1_waitsFrom 5 (some .int) 2 43 [.ref (gad G o0), .int x1] h (p_X1_waitsFrom h o0 x1) := fun a ha => Ct.of (lv := [some (.ref (gad G o0)), some (.int x1), none, none, none]) (by decide) rfl (Nat.le_of_ble_eq_true rfl) rfl (fun p e s m args below meth c cx hr hlk => s_X1_waitsFrom cx hr hlk h o0 x1 hk_o0 a ha)
def b_X1_greatestWaitFrom_9 (o0 : Nat) (k9 : Hp × Int32 × Int32 → Option (Int32 × Hp)) (q : Hp × Int32 × Int32) : Option (Int32 × Hp) :=
  if (q.1 o0 14) ≤ q.2.2 then (some (q.2.1, q.1)) else (Option.bind (p_X1_sentOne q.1 o0 q.2.2) fun r1 => Option.bind (p_X1_has r1.2 o0 r1.1) fun r2 => if r2.1 = 0 then (k9 (r2.2, q.2.1, q.2.2 + 1)) else (Option.bind (p_X1_waitOf r2.2 o0 r1.1) fun r3 => nv (if q.2.1 < r3.1 then r3.1 else q.2.1) fun v4 => k9 (r3.2, v4, q.2.2 + 1)))
def p_X1_greatestWaitFrom (h : Hp) (o0 : Nat) (x1 : Int32) : Option (Int32 × Hp) :=
  nv (if x1 < 0 then 0 else x1) fun v5 => lp (b_X1_greatestWaitFrom_9 o0) FU (h, (-2), v5)
set_option maxRecDepth 4000 in
theorem s_X1_greatestWaitFrom_9 {p : Program} {l : Launch} {e : Env} {s : State} {m : MethodId} {args : Array Value} {below : List Frame} {meth : Method} {c : Code} {G : GT} (cx : CX p s m args c cX1_greatestWaitFrom 5 RX1 G) (hr : meth.sig.returnType = (some .int)) (hlk : meth.locks = false) (o0 : Nat) (hk_o0 : kd o0 = 1) : ∀ (n : Nat) (q : Hp × Int32 × Int32), PF p l e (rmc 2 43) s m args below meth c 5 G 0 0 (QI below G args s) 9 [some (.ref (gad G o0)), none, some (.int q.2.1), some (.int q.2.2), none] [] q.1 (lp (b_X1_greatestWaitFrom_9 o0) n q) := by
  refine f_lp (lvf := fun (q : Hp × Int32 × Int32) => [some (.ref (gad G o0)), none, some (.int q.2.1), some (.int q.2.2), none]) (hf := fun (q : Hp × Int32 × Int32) => q.1) (fun k9 hk9 q => ?_)
  show PF p l e (rmc 2 43) s m args below meth c 5 G 0 0 (QI below G args s) 9 [some (.ref (gad G o0)), none, some (.int q.2.1), some (.int q.2.2), none] [] q.1 (b_X1_greatestWaitFrom_9 o0 k9 q)
  unfold b_X1_greatestWaitFrom_9
  refine f_iload_n (pc := 9) cx dX1_greatestWaitFrom_9 rfl rfl ?_
  refine f_aload_n (pc := 10) cx dX1_greatestWaitFrom_10 rfl rfl ?_
  refine g_X1_55 (pc := 11) cx hk_o0 dX1_greatestWaitFrom_11 ?_
  refine f_icmp_ge (pc := 14) (tgt := 50) cx dX1_greatestWaitFrom_14 (by decide) (fun _ => ?_) (fun _ => ?_)
  · refine f_iload_n (pc := 50) cx dX1_greatestWaitFrom_50 rfl rfl ?_
    exact f_iret cx hr hlk rfl dX1_greatestWaitFrom_51
  · refine f_aload_n (pc := 17) cx dX1_greatestWaitFrom_17 rfl rfl ?_
    refine f_iload_n (pc := 18) cx dX1_greatestWaitFrom_18 rfl rfl ?_
    refine f_bind (fun r1 hr1 => ?_)
    refine k_X1_81 (pc := 19) cx (c_X1_sentOne l G _ o0 q.2.2 hk_o0 r1 hr1) hk_o0 ⟨by decide, by decide⟩ ⟨Nat.zero_le _, Nat.zero_le _⟩ (Nat.le_of_ble_eq_true rfl) dX1_greatestWaitFrom_19 ?_
    refine f_istore4 (pc := 22) cx dX1_greatestWaitFrom_22 (by decide) rfl ?_
    refine f_aload_n (pc := 24) cx dX1_greatestWaitFrom_24 rfl rfl ?_
    refine f_iload (pc := 25) cx dX1_greatestWaitFrom_25 rfl ?_
    refine f_bind (fun r2 hr2 => ?_)
    refine k_X1_68 (pc := 27) cx (c_X1_has l G _ o0 r1.1 hk_o0 r2 hr2) hk_o0 ⟨by decide, by decide⟩ ⟨Nat.zero_le _, Nat.zero_le _⟩ (Nat.le_of_ble_eq_true rfl) dX1_greatestWaitFrom_27 ?_
    refine f_if_eq (pc := 30) (tgt := 44) cx dX1_greatestWaitFrom_30 (by decide) (fun _ => ?_) (fun _ => ?_)
    · refine f_iinc3 (pc := 44) cx dX1_greatestWaitFrom_44 kc_iconst_1 (by decide) rfl ?_
      refine f_goto (pc := 47) (tgt := 9) cx dX1_greatestWaitFrom_47 (by decide) ?_
      exact f_weak (LSb.s (LSb.n (LSb.s (LSb.s (LSb.n LSb.e))))) (hk9 (r2.2, q.2.1, q.2.2 + 1))
    · refine f_iload_n (pc := 33) cx dX1_greatestWaitFrom_33 rfl rfl ?_
      refine f_aload_n (pc := 34) cx dX1_greatestWaitFrom_34 rfl rfl ?_
      refine f_iload (pc := 35) cx dX1_greatestWaitFrom_35 rfl ?_
      refine f_bind (fun r3 hr3 => ?_)
      refine k_X1_72 (pc := 37) cx (c_X1_waitOf l G _ o0 r1.1 hk_o0 r3 hr3) hk_o0 ⟨by decide, by decide⟩ ⟨Nat.zero_le _, Nat.zero_le _⟩ (Nat.le_of_ble_eq_true rfl) dX1_greatestWaitFrom_37 ?_
      refine k_X1_75 (pc := 40) cx ⟨by decide, by decide⟩ ⟨Nat.zero_le _, Nat.zero_le _⟩ (Nat.le_of_ble_eq_true rfl) dX1_greatestWaitFrom_40 ?_
      refine f_nvi (fun v4 => ?_)
      refine f_istore2 (pc := 43) cx dX1_greatestWaitFrom_43 (by decide) rfl ?_
      refine f_iinc3 (pc := 44) cx dX1_greatestWaitFrom_44 kc_iconst_1 (by decide) rfl ?_
      refine f_goto (pc := 47) (tgt := 9) cx dX1_greatestWaitFrom_47 (by decide) ?_
      exact f_weak (LSb.s (LSb.n (LSb.s (LSb.s (LSb.n LSb.e))))) (hk9 (r3.2, v4, q.2.2 + 1))
set_option maxRecDepth 4000 in
theorem s_X1_greatestWaitFrom {p : Program} {l : Launch} {e : Env} {s : State} {m : MethodId} {args : Array Value} {below : List Frame} {meth : Method} {c : Code} {G : GT} (cx : CX p s m args c cX1_greatestWaitFrom 5 RX1 G) (hr : meth.sig.returnType = (some .int)) (hlk : meth.locks = false) (h : Hp) (o0 : Nat) (x1 : Int32) (hk_o0 : kd o0 = 1) : PF p l e (rmc 2 43) s m args below meth c 5 G 0 0 (QI below G args s) 0 [some (.ref (gad G o0)), some (.int x1), none, none, none] [] h (p_X1_greatestWaitFrom h o0 x1) := by
  unfold p_X1_greatestWaitFrom
  refine f_bipush (pc := 0) cx dX1_greatestWaitFrom_0 kc_bipush_m2 ?_
  refine f_istore2 (pc := 2) cx dX1_greatestWaitFrom_2 (by decide) rfl ?_
  refine f_iload_n (pc := 3) cx dX1_greatestWaitFrom_3 rfl rfl ?_
  refine f_iconst (pc := 4) cx dX1_greatestWaitFrom_4 kc_iconst_0 ?_
  refine k_X1_75 (pc := 5) cx ⟨by decide, by decide⟩ ⟨Nat.zero_le _, Nat.zero_le _⟩ (Nat.le_of_ble_eq_true rfl) dX1_greatestWaitFrom_5 ?_
  refine f_nvi (fun v5 => ?_)
  refine f_istore3 (pc := 8) cx dX1_greatestWaitFrom_8 (by decide) rfl ?_
  exact f_weak (LSb.s (LSb.n (LSb.s (LSb.s (LSb.n LSb.e))))) (s_X1_greatestWaitFrom_9 cx hr hlk o0 hk_o0 FU (h, (-2), v5))
set_option maxRecDepth 4000 in
theorem c_X1_greatestWaitFrom (l : Launch) (G : GT) (h : Hp) (o0 : Nat) (x1 : Int32) (hk_o0 : kd o0 = 1) : CtI l G yX1_greatestWaitFrom cX1_greatestWaitFrom 5 (some .int) 2 43 [.ref (gad G o0), .int x1] h (p_X1_greatestWaitFrom h o0 x1) := fun a ha => Ct.of (lv := [some (.ref (gad G o0)), some (.int x1), none, none, none]) (by decide) rfl (Nat.le_of_ble_eq_true rfl) rfl (fun p e s m args below meth c cx hr hlk => s_X1_greatestWaitFrom cx hr hlk h o0 x1 hk_o0 a ha)
def b_X1_middleWait_22 (o0 : Nat) (x1 : Int32) (k22 : Hp × Int32 × Int32 × Int32 → Option (Int32 × Hp)) (q : Hp × Int32 × Int32 × Int32) : Option (Int32 × Hp) :=
  if 30 ≤ q.2.2.2 then (some (q.2.1, q.1)) else (if q.2.2.1 ≤ q.2.1 then (some (q.2.1, q.1)) else (nv ((q.2.1 + q.2.2.1) >>> (1 &&& 31)) fun v1 => Option.bind (p_X1_sentWithin q.1 o0 0 v1) fun r2 => if r2.1 ≤ (x1 / 2) then (nv (v1 + 1) fun v3 => k22 (r2.2, v3, q.2.2.1, q.2.2.2 + 1)) else (k22 (r2.2, q.2.1, v1, q.2.2.2 + 1))))
def p_X1_middleWait (h : Hp) (o0 : Nat) : Option (Int32 × Hp) :=
  nv (h (o0 + 13) 1) fun v4 => if v4 = 0 then (some ((-2), h)) else (lp (b_X1_middleWait_22 o0 v4) FU (h, 0, 9999999, 0))
set_option maxRecDepth 4000 in
theorem s_X1_middleWait_22 {p : Program} {l : Launch} {e : Env} {s : State} {m : MethodId} {args : Array Value} {below : List Frame} {meth : Method} {c : Code} {G : GT} (cx : CX p s m args c cX1_middleWait 6 RX1 G) (hr : meth.sig.returnType = (some .int)) (hlk : meth.locks = false) (o0 : Nat) (x1 : Int32) (hk_o0 : kd o0 = 1) : ∀ (n : Nat) (q : Hp × Int32 × Int32 × Int32), PF p l e (rmc 2 45) s m args below meth c 6 G 0 0 (QI below G args s) 22 [some (.ref (gad G o0)), some (.int x1), some (.int q.2.1), some (.int q.2.2.1), some (.int q.2.2.2), none] [] q.1 (lp (b_X1_middleWait_22 o0 x1) n q) := by
  refine f_lp (lvf := fun (q : Hp × Int32 × Int32 × Int32) => [some (.ref (gad G o0)), some (.int x1), some (.int q.2.1), some (.int q.2.2.1), some (.int q.2.2.2), none]) (hf := fun (q : Hp × Int32 × Int32 × Int32) => q.1) (fun k22 hk22 q => ?_)
  show PF p l e (rmc 2 45) s m args below meth c 6 G 0 0 (QI below G args s) 22 [some (.ref (gad G o0)), some (.int x1), some (.int q.2.1), some (.int q.2.2.1), some (.int q.2.2.2), none] [] q.1 (b_X1_middleWait_22 o0 x1 k22 q)
  unfold b_X1_middleWait_22
  refine f_iload (pc := 22) cx dX1_middleWait_22 rfl ?_
  refine f_bipush (pc := 24) cx dX1_middleWait_24 kc_bipush_30 ?_
  refine f_icmp_ge (pc := 26) (tgt := 71) cx dX1_middleWait_26 (by decide) (fun _ => ?_) (fun _ => ?_)
  · refine f_iload_n (pc := 71) cx dX1_middleWait_71 rfl rfl ?_
    exact f_iret cx hr hlk rfl dX1_middleWait_72
  · refine f_iload_n (pc := 29) cx dX1_middleWait_29 rfl rfl ?_
    refine f_iload_n (pc := 30) cx dX1_middleWait_30 rfl rfl ?_
    refine f_icmp_ge (pc := 31) (tgt := 71) cx dX1_middleWait_31 (by decide) (fun _ => ?_) (fun _ => ?_)
    · refine f_iload_n (pc := 71) cx dX1_middleWait_71 rfl rfl ?_
      exact f_iret cx hr hlk rfl dX1_middleWait_72
    · refine f_iload_n (pc := 34) cx dX1_middleWait_34 rfl rfl ?_
      refine f_iload_n (pc := 35) cx dX1_middleWait_35 rfl rfl ?_
      refine f_iadd (pc := 36) cx dX1_middleWait_36 ?_
      refine f_iconst (pc := 37) cx dX1_middleWait_37 kc_iconst_1 ?_
      refine f_ishr (pc := 38) cx dX1_middleWait_38 ?_
      refine f_nvi (fun v1 => ?_)
      refine f_istore5 (pc := 39) cx dX1_middleWait_39 (by decide) rfl ?_
      refine f_aload_n (pc := 41) cx dX1_middleWait_41 rfl rfl ?_
      refine f_iconst (pc := 42) cx dX1_middleWait_42 kc_iconst_0 ?_
      refine f_iload (pc := 43) cx dX1_middleWait_43 rfl ?_
      refine f_bind (fun r2 hr2 => ?_)
      refine k_X1_94 (pc := 45) cx (c_X1_sentWithin l G _ o0 0 v1 hk_o0 r2 hr2) hk_o0 ⟨by decide, by decide⟩ ⟨Nat.zero_le _, Nat.zero_le _⟩ (Nat.le_of_ble_eq_true rfl) dX1_middleWait_45 ?_
      refine f_iload_n (pc := 48) cx dX1_middleWait_48 rfl rfl ?_
      refine f_iconst (pc := 49) cx dX1_middleWait_49 kc_iconst_2 ?_
      refine f_idiv (pc := 50) cx dX1_middleWait_50 (by decide) ?_
      refine f_icmp_le (pc := 51) (tgt := 60) cx dX1_middleWait_51 (by decide) (fun _ => ?_) (fun _ => ?_)
      · refine f_iload (pc := 60) cx dX1_middleWait_60 rfl ?_
        refine f_iconst (pc := 62) cx dX1_middleWait_62 kc_iconst_1 ?_
        refine f_iadd (pc := 63) cx dX1_middleWait_63 ?_
        refine f_nvi (fun v3 => ?_)
        refine f_istore2 (pc := 64) cx dX1_middleWait_64 (by decide) rfl ?_
        refine f_iinc4 (pc := 65) cx dX1_middleWait_65 kc_iconst_1 (by decide) rfl ?_
        refine f_goto (pc := 68) (tgt := 22) cx dX1_middleWait_68 (by decide) ?_
        exact f_weak (LSb.s (LSb.s (LSb.s (LSb.s (LSb.s (LSb.n LSb.e)))))) (hk22 (r2.2, v3, q.2.2.1, q.2.2.2 + 1))
      · refine f_iload (pc := 54) cx dX1_middleWait_54 rfl ?_
        refine f_istore3 (pc := 56) cx dX1_middleWait_56 (by decide) rfl ?_
        refine f_goto (pc := 57) (tgt := 65) cx dX1_middleWait_57 (by decide) ?_
        refine f_iinc4 (pc := 65) cx dX1_middleWait_65 kc_iconst_1 (by decide) rfl ?_
        refine f_goto (pc := 68) (tgt := 22) cx dX1_middleWait_68 (by decide) ?_
        exact f_weak (LSb.s (LSb.s (LSb.s (LSb.s (LSb.s (LSb.n LSb.e)))))) (hk22 (r2.2, q.2.1, v1, q.2.2.2 + 1))
set_option maxRecDepth 4000 in
theorem s_X1_middleWait {p : Program} {l : Launch} {e : Env} {s : State} {m : MethodId} {args : Array Value} {below : List Frame} {meth : Method} {c : Code} {G : GT} (cx : CX p s m args c cX1_middleWait 6 RX1 G) (hr : meth.sig.returnType = (some .int)) (hlk : meth.locks = false) (h : Hp) (o0 : Nat) (hk_o0 : kd o0 = 1) : PF p l e (rmc 2 45) s m args below meth c 6 G 0 0 (QI below G args s) 0 [some (.ref (gad G o0)), none, none, none, none, none] [] h (p_X1_middleWait h o0) := by
  unfold p_X1_middleWait
  refine f_aload_n (pc := 0) cx dX1_middleWait_0 rfl rfl ?_
  refine g_X1_48 (pc := 1) cx hk_o0 dX1_middleWait_1 ?_
  refine f_iconst (pc := 4) cx dX1_middleWait_4 kc_iconst_1 ?_
  refine f_ialdk (pc := 5) (j := 1) (n := 5) cx (kf_1_12 hk_o0) (by decide) (by decide) kl_1 dX1_middleWait_5 ?_
  refine f_nvi (fun v4 => ?_)
  refine f_istore1 (pc := 6) cx dX1_middleWait_6 (by decide) rfl ?_
  refine f_iload_n (pc := 7) cx dX1_middleWait_7 rfl rfl ?_
  refine f_if_ne (pc := 8) (tgt := 14) cx dX1_middleWait_8 (by decide) (fun _ => ?_) (fun _ => ?_)
  · refine f_bipush (pc := 11) cx dX1_middleWait_11 kc_bipush_m2 ?_
    exact f_iret cx hr hlk rfl dX1_middleWait_13
  · refine f_iconst (pc := 14) cx dX1_middleWait_14 kc_iconst_0 ?_
    refine f_istore2 (pc := 15) cx dX1_middleWait_15 (by decide) rfl ?_
    refine f_ldc (pc := 16) cx w_1186 dX1_middleWait_16 ?_
    refine f_istore3 (pc := 18) cx dX1_middleWait_18 (by decide) rfl ?_
    refine f_iconst (pc := 19) cx dX1_middleWait_19 kc_iconst_0 ?_
    refine f_istore4 (pc := 20) cx dX1_middleWait_20 (by decide) rfl ?_
    exact f_weak (LSb.s (LSb.s (LSb.s (LSb.s (LSb.s (LSb.n LSb.e)))))) (s_X1_middleWait_22 cx hr hlk o0 v4 hk_o0 FU (h, 0, 9999999, 0))
set_option maxRecDepth 4000 in
theorem c_X1_middleWait (l : Launch) (G : GT) (h : Hp) (o0 : Nat) (hk_o0 : kd o0 = 1) : CtI l G yX1_middleWait cX1_middleWait 6 (some .int) 2 45 [.ref (gad G o0)] h (p_X1_middleWait h o0) := fun a ha => Ct.of (lv := [some (.ref (gad G o0)), none, none, none, none, none]) (by decide) rfl (Nat.le_of_ble_eq_true rfl) rfl (fun p e s m args below meth c cx hr hlk => s_X1_middleWait cx hr hlk h o0 hk_o0 a ha)
