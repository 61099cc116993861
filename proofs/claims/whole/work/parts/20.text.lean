theorem kc_bipush_32 : (Int8.ofInt (32)).toInt32 = 32 := by decide
theorem kc_bipush_59 : (Int8.ofInt (59)).toInt32 = 59 := by decide
theorem dX3_isSpelled_0 : decode cX3_isSpelled 0 = .ok (.aload_n 0, 1) := by decide +kernel
theorem dX3_isSpelled_1 : decode cX3_isSpelled 1 = .ok (.getfield 22, 3) := by decide +kernel
theorem dX3_isSpelled_4 : decode cX3_isSpelled 4 = .ok (.aload_n 0, 1) := by decide +kernel
theorem dX3_isSpelled_5 : decode cX3_isSpelled 5 = .ok (.getfield 28, 3) := by decide +kernel
theorem dX3_isSpelled_8 : decode cX3_isSpelled 8 = .ok (.isub, 1) := by decide +kernel
theorem dX3_isSpelled_9 : decode cX3_isSpelled 9 = .ok (.aload_n 1, 1) := by decide +kernel
theorem dX3_isSpelled_10 : decode cX3_isSpelled 10 = .ok (.invokevirtual 127, 3) := by decide +kernel
theorem dX3_isSpelled_13 : decode cX3_isSpelled 13 = .ok (.if_icmp .eq 5, 3) := by decide +kernel
theorem dX3_isSpelled_16 : decode cX3_isSpelled 16 = .ok (.iconst 0, 1) := by decide +kernel
theorem dX3_isSpelled_17 : decode cX3_isSpelled 17 = .ok (.ireturn, 1) := by decide +kernel
theorem dX3_isSpelled_18 : decode cX3_isSpelled 18 = .ok (.iconst 0, 1) := by decide +kernel
theorem dX3_isSpelled_19 : decode cX3_isSpelled 19 = .ok (.istore_n 2, 1) := by decide +kernel
theorem dX3_isSpelled_20 : decode cX3_isSpelled 20 = .ok (.iload_n 2, 1) := by decide +kernel
theorem dX3_isSpelled_21 : decode cX3_isSpelled 21 = .ok (.aload_n 1, 1) := by decide +kernel
theorem dX3_isSpelled_22 : decode cX3_isSpelled 22 = .ok (.invokevirtual 127, 3) := by decide +kernel
theorem dX3_isSpelled_25 : decode cX3_isSpelled 25 = .ok (.if_icmp .ge 30, 3) := by decide +kernel
theorem dX3_isSpelled_28 : decode cX3_isSpelled 28 = .ok (.aload_n 0, 1) := by decide +kernel
theorem dX3_isSpelled_29 : decode cX3_isSpelled 29 = .ok (.getfield 9, 3) := by decide +kernel
theorem dX3_isSpelled_32 : decode cX3_isSpelled 32 = .ok (.aload_n 0, 1) := by decide +kernel
theorem dX3_isSpelled_33 : decode cX3_isSpelled 33 = .ok (.getfield 28, 3) := by decide +kernel
theorem dX3_isSpelled_36 : decode cX3_isSpelled 36 = .ok (.iload_n 2, 1) := by decide +kernel
theorem dX3_isSpelled_37 : decode cX3_isSpelled 37 = .ok (.iadd, 1) := by decide +kernel
theorem dX3_isSpelled_38 : decode cX3_isSpelled 38 = .ok (.iaload, 1) := by decide +kernel
theorem dX3_isSpelled_39 : decode cX3_isSpelled 39 = .ok (.aload_n 1, 1) := by decide +kernel
theorem dX3_isSpelled_40 : decode cX3_isSpelled 40 = .ok (.iload_n 2, 1) := by decide +kernel
theorem dX3_isSpelled_41 : decode cX3_isSpelled 41 = .ok (.invokevirtual 132, 3) := by decide +kernel
theorem dX3_isSpelled_44 : decode cX3_isSpelled 44 = .ok (.if_icmp .eq 5, 3) := by decide +kernel
theorem dX3_isSpelled_47 : decode cX3_isSpelled 47 = .ok (.iconst 0, 1) := by decide +kernel
theorem dX3_isSpelled_48 : decode cX3_isSpelled 48 = .ok (.ireturn, 1) := by decide +kernel
theorem dX3_isSpelled_49 : decode cX3_isSpelled 49 = .ok (.iinc 2 1, 3) := by decide +kernel
theorem dX3_isSpelled_52 : decode cX3_isSpelled 52 = .ok (.goto (-32), 3) := by decide +kernel
theorem dX3_isSpelled_55 : decode cX3_isSpelled 55 = .ok (.iconst 1, 1) := by decide +kernel
theorem dX3_isSpelled_56 : decode cX3_isSpelled 56 = .ok (.ireturn, 1) := by decide +kernel
theorem dX3_spelling_0 : decode cX3_spelling 0 = .ok (.iload_n 0, 1) := by decide +kernel
theorem dX3_spelling_1 : decode cX3_spelling 1 = .ok (.tableswitch 106 0 12 #[67, 70, 73, 76, 79, 82, 85, 88, 91, 94, 97, 100, 103], 67) := by decide +kernel
theorem dX3_spelling_68 : decode cX3_spelling 68 = .ok (.ldc 136, 2) := by decide +kernel
theorem dX3_spelling_70 : decode cX3_spelling 70 = .ok (.areturn, 1) := by decide +kernel
theorem dX3_spelling_71 : decode cX3_spelling 71 = .ok (.ldc 138, 2) := by decide +kernel
theorem dX3_spelling_73 : decode cX3_spelling 73 = .ok (.areturn, 1) := by decide +kernel
theorem dX3_spelling_74 : decode cX3_spelling 74 = .ok (.ldc 140, 2) := by decide +kernel
theorem dX3_spelling_76 : decode cX3_spelling 76 = .ok (.areturn, 1) := by decide +kernel
theorem dX3_spelling_77 : decode cX3_spelling 77 = .ok (.ldc 142, 2) := by decide +kernel
theorem dX3_spelling_79 : decode cX3_spelling 79 = .ok (.areturn, 1) := by decide +kernel
theorem dX3_spelling_80 : decode cX3_spelling 80 = .ok (.ldc 144, 2) := by decide +kernel
theorem dX3_spelling_82 : decode cX3_spelling 82 = .ok (.areturn, 1) := by decide +kernel
theorem dX3_spelling_83 : decode cX3_spelling 83 = .ok (.ldc 146, 2) := by decide +kernel
theorem dX3_spelling_85 : decode cX3_spelling 85 = .ok (.areturn, 1) := by decide +kernel
theorem dX3_spelling_86 : decode cX3_spelling 86 = .ok (.ldc 148, 2) := by decide +kernel
theorem dX3_spelling_88 : decode cX3_spelling 88 = .ok (.areturn, 1) := by decide +kernel
theorem dX3_spelling_89 : decode cX3_spelling 89 = .ok (.ldc 150, 2) := by decide +kernel
theorem dX3_spelling_91 : decode cX3_spelling 91 = .ok (.areturn, 1) := by decide +kernel
theorem dX3_spelling_92 : decode cX3_spelling 92 = .ok (.ldc 152, 2) := by decide +kernel
theorem dX3_spelling_94 : decode cX3_spelling 94 = .ok (.areturn, 1) := by decide +kernel
theorem dX3_spelling_95 : decode cX3_spelling 95 = .ok (.ldc 154, 2) := by decide +kernel
theorem dX3_spelling_97 : decode cX3_spelling 97 = .ok (.areturn, 1) := by decide +kernel
theorem dX3_spelling_98 : decode cX3_spelling 98 = .ok (.ldc 156, 2) := by decide +kernel
theorem dX3_spelling_100 : decode cX3_spelling 100 = .ok (.areturn, 1) := by decide +kernel
theorem dX3_spelling_101 : decode cX3_spelling 101 = .ok (.ldc 158, 2) := by decide +kernel
theorem dX3_spelling_103 : decode cX3_spelling 103 = .ok (.areturn, 1) := by decide +kernel
theorem dX3_spelling_104 : decode cX3_spelling 104 = .ok (.ldc 160, 2) := by decide +kernel
theorem dX3_spelling_106 : decode cX3_spelling 106 = .ok (.areturn, 1) := by decide +kernel
theorem dX3_spelling_107 : decode cX3_spelling 107 = .ok (.ldc 162, 2) := by decide +kernel
theorem dX3_spelling_109 : decode cX3_spelling 109 = .ok (.areturn, 1) := by decide +kernel
theorem dX3_scanWord_0 : decode cX3_scanWord 0 = .ok (.aload_n 0, 1) := by decide +kernel
theorem dX3_scanWord_1 : decode cX3_scanWord 1 = .ok (.getfield 22, 3) := by decide +kernel
theorem dX3_scanWord_4 : decode cX3_scanWord 4 = .ok (.aload_n 0, 1) := by decide +kernel
theorem dX3_scanWord_5 : decode cX3_scanWord 5 = .ok (.getfield 19, 3) := by decide +kernel
theorem dX3_scanWord_8 : decode cX3_scanWord 8 = .ok (.if_icmp .ge 31, 3) := by decide +kernel
theorem dX3_scanWord_11 : decode cX3_scanWord 11 = .ok (.aload_n 0, 1) := by decide +kernel
theorem dX3_scanWord_12 : decode cX3_scanWord 12 = .ok (.getfield 9, 3) := by decide +kernel
theorem dX3_scanWord_15 : decode cX3_scanWord 15 = .ok (.aload_n 0, 1) := by decide +kernel
theorem dX3_scanWord_16 : decode cX3_scanWord 16 = .ok (.getfield 22, 3) := by decide +kernel
theorem dX3_scanWord_19 : decode cX3_scanWord 19 = .ok (.iaload, 1) := by decide +kernel
theorem dX3_scanWord_20 : decode cX3_scanWord 20 = .ok (.invokestatic 112, 3) := by decide +kernel
theorem dX3_scanWord_23 : decode cX3_scanWord 23 = .ok (.ifCond .eq 16, 3) := by decide +kernel
theorem dX3_scanWord_26 : decode cX3_scanWord 26 = .ok (.aload_n 0, 1) := by decide +kernel
theorem dX3_scanWord_27 : decode cX3_scanWord 27 = .ok (.dup, 1) := by decide +kernel
theorem dX3_scanWord_28 : decode cX3_scanWord 28 = .ok (.getfield 22, 3) := by decide +kernel
theorem dX3_scanWord_31 : decode cX3_scanWord 31 = .ok (.iconst 1, 1) := by decide +kernel
theorem dX3_scanWord_32 : decode cX3_scanWord 32 = .ok (.iadd, 1) := by decide +kernel
theorem dX3_scanWord_33 : decode cX3_scanWord 33 = .ok (.putfield 22, 3) := by decide +kernel
theorem dX3_scanWord_36 : decode cX3_scanWord 36 = .ok (.goto (-36), 3) := by decide +kernel
theorem dX3_scanWord_39 : decode cX3_scanWord 39 = .ok (.aload_n 0, 1) := by decide +kernel
theorem dX3_scanWord_40 : decode cX3_scanWord 40 = .ok (.iconst 4, 1) := by decide +kernel
theorem dX3_scanWord_41 : decode cX3_scanWord 41 = .ok (.putfield 25, 3) := by decide +kernel
theorem dX3_scanWord_44 : decode cX3_scanWord 44 = .ok (.iconst 0, 1) := by decide +kernel
theorem dX3_scanWord_45 : decode cX3_scanWord 45 = .ok (.istore_n 1, 1) := by decide +kernel
theorem dX3_scanWord_46 : decode cX3_scanWord 46 = .ok (.iload_n 1, 1) := by decide +kernel
theorem dX3_scanWord_47 : decode cX3_scanWord 47 = .ok (.bipush 13, 2) := by decide +kernel
theorem dX3_scanWord_49 : decode cX3_scanWord 49 = .ok (.if_icmp .ge 38, 3) := by decide +kernel
theorem dX3_scanWord_52 : decode cX3_scanWord 52 = .ok (.aload_n 0, 1) := by decide +kernel
theorem dX3_scanWord_53 : decode cX3_scanWord 53 = .ok (.getfield 25, 3) := by decide +kernel
theorem dX3_scanWord_56 : decode cX3_scanWord 56 = .ok (.iconst 4, 1) := by decide +kernel
theorem dX3_scanWord_57 : decode cX3_scanWord 57 = .ok (.if_icmp .ne 30, 3) := by decide +kernel
theorem dX3_scanWord_60 : decode cX3_scanWord 60 = .ok (.aload_n 0, 1) := by decide +kernel
theorem dX3_scanWord_61 : decode cX3_scanWord 61 = .ok (.iload_n 1, 1) := by decide +kernel
theorem dX3_scanWord_62 : decode cX3_scanWord 62 = .ok (.invokestatic 119, 3) := by decide +kernel
theorem dX3_scanWord_65 : decode cX3_scanWord 65 = .ok (.invokevirtual 123, 3) := by decide +kernel
theorem dX3_scanWord_68 : decode cX3_scanWord 68 = .ok (.ifCond .eq 13, 3) := by decide +kernel
theorem dX3_scanWord_71 : decode cX3_scanWord 71 = .ok (.aload_n 0, 1) := by decide +kernel
theorem dX3_scanWord_72 : decode cX3_scanWord 72 = .ok (.iconst 1, 1) := by decide +kernel
theorem dX3_scanWord_73 : decode cX3_scanWord 73 = .ok (.putfield 25, 3) := by decide +kernel
theorem dX3_scanWord_76 : decode cX3_scanWord 76 = .ok (.aload_n 0, 1) := by decide +kernel
theorem dX3_scanWord_77 : decode cX3_scanWord 77 = .ok (.iload_n 1, 1) := by decide +kernel
theorem dX3_scanWord_78 : decode cX3_scanWord 78 = .ok (.putfield 31, 3) := by decide +kernel
theorem dX3_scanWord_81 : decode cX3_scanWord 81 = .ok (.iinc 1 1, 3) := by decide +kernel
theorem dX3_scanWord_84 : decode cX3_scanWord 84 = .ok (.goto (-38), 3) := by decide +kernel
theorem dX3_scanWord_87 : decode cX3_scanWord 87 = .ok (.return_, 1) := by decide +kernel
theorem dX3_nextToken_0 : decode cX3_nextToken 0 = .ok (.aload_n 0, 1) := by decide +kernel
theorem dX3_nextToken_1 : decode cX3_nextToken 1 = .ok (.getfield 22, 3) := by decide +kernel
theorem dX3_nextToken_4 : decode cX3_nextToken 4 = .ok (.aload_n 0, 1) := by decide +kernel
theorem dX3_nextToken_5 : decode cX3_nextToken 5 = .ok (.getfield 19, 3) := by decide +kernel
theorem dX3_nextToken_8 : decode cX3_nextToken 8 = .ok (.if_icmp .ge 44, 3) := by decide +kernel
theorem dX3_nextToken_11 : decode cX3_nextToken 11 = .ok (.aload_n 0, 1) := by decide +kernel
theorem dX3_nextToken_12 : decode cX3_nextToken 12 = .ok (.getfield 9, 3) := by decide +kernel
theorem dX3_nextToken_15 : decode cX3_nextToken 15 = .ok (.aload_n 0, 1) := by decide +kernel
theorem dX3_nextToken_16 : decode cX3_nextToken 16 = .ok (.getfield 22, 3) := by decide +kernel
theorem dX3_nextToken_19 : decode cX3_nextToken 19 = .ok (.iaload, 1) := by decide +kernel
theorem dX3_nextToken_20 : decode cX3_nextToken 20 = .ok (.bipush 10, 2) := by decide +kernel
theorem dX3_nextToken_22 : decode cX3_nextToken 22 = .ok (.if_icmp .eq 17, 3) := by decide +kernel
theorem dX3_nextToken_25 : decode cX3_nextToken 25 = .ok (.aload_n 0, 1) := by decide +kernel
theorem dX3_nextToken_26 : decode cX3_nextToken 26 = .ok (.getfield 9, 3) := by decide +kernel
theorem dX3_nextToken_29 : decode cX3_nextToken 29 = .ok (.aload_n 0, 1) := by decide +kernel
theorem dX3_nextToken_30 : decode cX3_nextToken 30 = .ok (.getfield 22, 3) := by decide +kernel
theorem dX3_nextToken_33 : decode cX3_nextToken 33 = .ok (.iaload, 1) := by decide +kernel
theorem dX3_nextToken_34 : decode cX3_nextToken 34 = .ok (.bipush 32, 2) := by decide +kernel
theorem dX3_nextToken_36 : decode cX3_nextToken 36 = .ok (.if_icmp .ne 16, 3) := by decide +kernel
theorem dX3_nextToken_39 : decode cX3_nextToken 39 = .ok (.aload_n 0, 1) := by decide +kernel
theorem dX3_nextToken_40 : decode cX3_nextToken 40 = .ok (.dup, 1) := by decide +kernel
theorem dX3_nextToken_41 : decode cX3_nextToken 41 = .ok (.getfield 22, 3) := by decide +kernel
theorem dX3_nextToken_44 : decode cX3_nextToken 44 = .ok (.iconst 1, 1) := by decide +kernel
theorem dX3_nextToken_45 : decode cX3_nextToken 45 = .ok (.iadd, 1) := by decide +kernel
theorem dX3_nextToken_46 : decode cX3_nextToken 46 = .ok (.putfield 22, 3) := by decide +kernel
theorem dX3_nextToken_49 : decode cX3_nextToken 49 = .ok (.goto (-49), 3) := by decide +kernel
theorem dX3_nextToken_52 : decode cX3_nextToken 52 = .ok (.aload_n 0, 1) := by decide +kernel
theorem dX3_nextToken_53 : decode cX3_nextToken 53 = .ok (.aload_n 0, 1) := by decide +kernel
theorem dX3_nextToken_54 : decode cX3_nextToken 54 = .ok (.getfield 22, 3) := by decide +kernel
theorem dX3_nextToken_57 : decode cX3_nextToken 57 = .ok (.putfield 28, 3) := by decide +kernel
theorem dX3_nextToken_60 : decode cX3_nextToken 60 = .ok (.aload_n 0, 1) := by decide +kernel
theorem dX3_nextToken_61 : decode cX3_nextToken 61 = .ok (.getfield 22, 3) := by decide +kernel
theorem dX3_nextToken_64 : decode cX3_nextToken 64 = .ok (.aload_n 0, 1) := by decide +kernel
theorem dX3_nextToken_65 : decode cX3_nextToken 65 = .ok (.getfield 19, 3) := by decide +kernel
theorem dX3_nextToken_68 : decode cX3_nextToken 68 = .ok (.if_icmp .lt 11, 3) := by decide +kernel
theorem dX3_nextToken_71 : decode cX3_nextToken 71 = .ok (.aload_n 0, 1) := by decide +kernel
theorem dX3_nextToken_72 : decode cX3_nextToken 72 = .ok (.iconst 0, 1) := by decide +kernel
theorem dX3_nextToken_73 : decode cX3_nextToken 73 = .ok (.putfield 25, 3) := by decide +kernel
theorem dX3_nextToken_76 : decode cX3_nextToken 76 = .ok (.goto 80, 3) := by decide +kernel
theorem dX3_nextToken_79 : decode cX3_nextToken 79 = .ok (.aload_n 0, 1) := by decide +kernel
theorem dX3_nextToken_80 : decode cX3_nextToken 80 = .ok (.getfield 9, 3) := by decide +kernel
theorem dX3_nextToken_83 : decode cX3_nextToken 83 = .ok (.aload_n 0, 1) := by decide +kernel
theorem dX3_nextToken_84 : decode cX3_nextToken 84 = .ok (.getfield 22, 3) := by decide +kernel
theorem dX3_nextToken_87 : decode cX3_nextToken 87 = .ok (.iaload, 1) := by decide +kernel
theorem dX3_nextToken_88 : decode cX3_nextToken 88 = .ok (.invokestatic 105, 3) := by decide +kernel
theorem dX3_nextToken_91 : decode cX3_nextToken 91 = .ok (.ifCond .eq 10, 3) := by decide +kernel
theorem dX3_nextToken_94 : decode cX3_nextToken 94 = .ok (.aload_n 0, 1) := by decide +kernel
theorem dX3_nextToken_95 : decode cX3_nextToken 95 = .ok (.invokevirtual 109, 3) := by decide +kernel
theorem dX3_nextToken_98 : decode cX3_nextToken 98 = .ok (.goto 58, 3) := by decide +kernel
theorem dX3_nextToken_101 : decode cX3_nextToken 101 = .ok (.aload_n 0, 1) := by decide +kernel
theorem dX3_nextToken_102 : decode cX3_nextToken 102 = .ok (.getfield 9, 3) := by decide +kernel
theorem dX3_nextToken_105 : decode cX3_nextToken 105 = .ok (.aload_n 0, 1) := by decide +kernel
theorem dX3_nextToken_106 : decode cX3_nextToken 106 = .ok (.getfield 22, 3) := by decide +kernel
theorem dX3_nextToken_109 : decode cX3_nextToken 109 = .ok (.iaload, 1) := by decide +kernel
theorem dX3_nextToken_110 : decode cX3_nextToken 110 = .ok (.invokestatic 112, 3) := by decide +kernel
theorem dX3_nextToken_113 : decode cX3_nextToken 113 = .ok (.ifCond .eq 10, 3) := by decide +kernel
theorem dX3_nextToken_116 : decode cX3_nextToken 116 = .ok (.aload_n 0, 1) := by decide +kernel
theorem dX3_nextToken_117 : decode cX3_nextToken 117 = .ok (.invokevirtual 115, 3) := by decide +kernel
theorem dX3_nextToken_120 : decode cX3_nextToken 120 = .ok (.goto 36, 3) := by decide +kernel
theorem dX3_nextToken_123 : decode cX3_nextToken 123 = .ok (.aload_n 0, 1) := by decide +kernel
theorem dX3_nextToken_124 : decode cX3_nextToken 124 = .ok (.aload_n 0, 1) := by decide +kernel
theorem dX3_nextToken_125 : decode cX3_nextToken 125 = .ok (.getfield 9, 3) := by decide +kernel
theorem dX3_nextToken_128 : decode cX3_nextToken 128 = .ok (.aload_n 0, 1) := by decide +kernel
theorem dX3_nextToken_129 : decode cX3_nextToken 129 = .ok (.getfield 22, 3) := by decide +kernel
theorem dX3_nextToken_132 : decode cX3_nextToken 132 = .ok (.iaload, 1) := by decide +kernel
theorem dX3_nextToken_133 : decode cX3_nextToken 133 = .ok (.bipush 59, 2) := by decide +kernel
theorem dX3_nextToken_135 : decode cX3_nextToken 135 = .ok (.if_icmp .ne 7, 3) := by decide +kernel
theorem dX3_nextToken_138 : decode cX3_nextToken 138 = .ok (.iconst 3, 1) := by decide +kernel
theorem dX3_nextToken_139 : decode cX3_nextToken 139 = .ok (.goto 4, 3) := by decide +kernel
theorem dX3_nextToken_142 : decode cX3_nextToken 142 = .ok (.iconst 4, 1) := by decide +kernel
theorem dX3_nextToken_143 : decode cX3_nextToken 143 = .ok (.putfield 25, 3) := by decide +kernel
theorem dX3_nextToken_146 : decode cX3_nextToken 146 = .ok (.aload_n 0, 1) := by decide +kernel
theorem dX3_nextToken_147 : decode cX3_nextToken 147 = .ok (.dup, 1) := by decide +kernel
theorem dX3_nextToken_148 : decode cX3_nextToken 148 = .ok (.getfield 22, 3) := by decide +kernel
theorem dX3_nextToken_151 : decode cX3_nextToken 151 = .ok (.iconst 1, 1) := by decide +kernel
theorem dX3_nextToken_152 : decode cX3_nextToken 152 = .ok (.iadd, 1) := by decide +kernel
theorem dX3_nextToken_153 : decode cX3_nextToken 153 = .ok (.putfield 22, 3) := by decide +kernel
theorem dX3_nextToken_156 : decode cX3_nextToken 156 = .ok (.return_, 1) := by decide +kernel
theorem dX3_readLine_0 : decode cX3_readLine 0 = .ok (.aload_n 0, 1) := by decide +kernel
theorem dX3_readLine_1 : decode cX3_readLine 1 = .ok (.getfield 25, 3) := by decide +kernel
theorem dX3_readLine_4 : decode cX3_readLine 4 = .ok (.iconst 1, 1) := by decide +kernel
theorem dX3_readLine_5 : decode cX3_readLine 5 = .ok (.if_icmp .eq 9, 3) := by decide +kernel
theorem dX3_readLine_8 : decode cX3_readLine 8 = .ok (.aload_n 0, 1) := by decide +kernel
theorem dX3_readLine_9 : decode cX3_readLine 9 = .ok (.iconst 1, 1) := by decide +kernel
theorem dX3_readLine_10 : decode cX3_readLine 10 = .ok (.invokevirtual 77, 3) := by decide +kernel
theorem dX3_readLine_13 : decode cX3_readLine 13 = .ok (.return_, 1) := by decide +kernel
theorem dX3_readLine_14 : decode cX3_readLine 14 = .ok (.aload_n 0, 1) := by decide +kernel
theorem dX3_readLine_15 : decode cX3_readLine 15 = .ok (.getfield 31, 3) := by decide +kernel
theorem dX3_readLine_18 : decode cX3_readLine 18 = .ok (.istore_n 1, 1) := by decide +kernel
theorem dX3_readLine_19 : decode cX3_readLine 19 = .ok (.aload_n 0, 1) := by decide +kernel
theorem dX3_readLine_20 : decode cX3_readLine 20 = .ok (.iload_n 1, 1) := by decide +kernel
theorem dX3_readLine_21 : decode cX3_readLine 21 = .ok (.invokevirtual 81, 3) := by decide +kernel
theorem dX3_readLine_24 : decode cX3_readLine 24 = .ok (.aload_n 0, 1) := by decide +kernel
theorem dX3_readLine_25 : decode cX3_readLine 25 = .ok (.iload_n 1, 1) := by decide +kernel
theorem dX3_readLine_26 : decode cX3_readLine 26 = .ok (.invokevirtual 84, 3) := by decide +kernel
theorem dX3_readLine_29 : decode cX3_readLine 29 = .ok (.iload_n 1, 1) := by decide +kernel
theorem dX3_readLine_30 : decode cX3_readLine 30 = .ok (.invokestatic 87, 3) := by decide +kernel
theorem dX3_readLine_33 : decode cX3_readLine 33 = .ok (.istore_n 2, 1) := by decide +kernel
theorem dX3_readLine_34 : decode cX3_readLine 34 = .ok (.iconst 0, 1) := by decide +kernel
theorem dX3_readLine_35 : decode cX3_readLine 35 = .ok (.istore_n 3, 1) := by decide +kernel
theorem dX3_readLine_36 : decode cX3_readLine 36 = .ok (.iload_n 3, 1) := by decide +kernel
theorem dX3_readLine_37 : decode cX3_readLine 37 = .ok (.iload_n 2, 1) := by decide +kernel
theorem dX3_readLine_38 : decode cX3_readLine 38 = .ok (.if_icmp .ge 31, 3) := by decide +kernel
theorem dX3_readLine_41 : decode cX3_readLine 41 = .ok (.aload_n 0, 1) := by decide +kernel
theorem dX3_readLine_42 : decode cX3_readLine 42 = .ok (.getfield 43, 3) := by decide +kernel
theorem dX3_readLine_45 : decode cX3_readLine 45 = .ok (.ifCond .ne 24, 3) := by decide +kernel
theorem dX3_readLine_48 : decode cX3_readLine 48 = .ok (.aload_n 0, 1) := by decide +kernel
theorem dX3_readLine_49 : decode cX3_readLine 49 = .ok (.invokevirtual 71, 3) := by decide +kernel
theorem dX3_readLine_52 : decode cX3_readLine 52 = .ok (.aload_n 0, 1) := by decide +kernel
theorem dX3_readLine_53 : decode cX3_readLine 53 = .ok (.getstatic 91, 3) := by decide +kernel
theorem dX3_readLine_56 : decode cX3_readLine 56 = .ok (.iload_n 1, 1) := by decide +kernel
theorem dX3_readLine_57 : decode cX3_readLine 57 = .ok (.iaload, 1) := by decide +kernel
theorem dX3_readLine_58 : decode cX3_readLine 58 = .ok (.iload_n 3, 1) := by decide +kernel
theorem dX3_readLine_59 : decode cX3_readLine 59 = .ok (.iadd, 1) := by decide +kernel
theorem dX3_readLine_60 : decode cX3_readLine 60 = .ok (.invokevirtual 94, 3) := by decide +kernel
theorem dX3_readLine_63 : decode cX3_readLine 63 = .ok (.iinc 3 1, 3) := by decide +kernel
theorem dX3_readLine_66 : decode cX3_readLine 66 = .ok (.goto (-30), 3) := by decide +kernel
theorem dX3_readLine_69 : decode cX3_readLine 69 = .ok (.aload_n 0, 1) := by decide +kernel
theorem dX3_readLine_70 : decode cX3_readLine 70 = .ok (.getfield 43, 3) := by decide +kernel
theorem dX3_readLine_73 : decode cX3_readLine 73 = .ok (.ifCond .eq 4, 3) := by decide +kernel
theorem dX3_readLine_76 : decode cX3_readLine 76 = .ok (.return_, 1) := by decide +kernel
theorem dX3_readLine_77 : decode cX3_readLine 77 = .ok (.aload_n 0, 1) := by decide +kernel
theorem dX3_readLine_78 : decode cX3_readLine 78 = .ok (.invokevirtual 71, 3) := by decide +kernel
theorem dX3_readLine_81 : decode cX3_readLine 81 = .ok (.aload_n 0, 1) := by decide +kernel
theorem dX3_readLine_82 : decode cX3_readLine 82 = .ok (.getfield 25, 3) := by decide +kernel
theorem dX3_readLine_85 : decode cX3_readLine 85 = .ok (.iconst 3, 1) := by decide +kernel
theorem dX3_readLine_86 : decode cX3_readLine 86 = .ok (.if_icmp .eq 9, 3) := by decide +kernel
theorem dX3_readLine_89 : decode cX3_readLine 89 = .ok (.aload_n 0, 1) := by decide +kernel
theorem dX3_readLine_90 : decode cX3_readLine 90 = .ok (.iconst 1, 1) := by decide +kernel
theorem dX3_readLine_91 : decode cX3_readLine 91 = .ok (.invokevirtual 77, 3) := by decide +kernel
theorem dX3_readLine_94 : decode cX3_readLine 94 = .ok (.return_, 1) := by decide +kernel
theorem dX3_readLine_95 : decode cX3_readLine 95 = .ok (.aload_n 0, 1) := by decide +kernel
theorem dX3_readLine_96 : decode cX3_readLine 96 = .ok (.dup, 1) := by decide +kernel
theorem dX3_readLine_97 : decode cX3_readLine 97 = .ok (.getfield 40, 3) := by decide +kernel
theorem dX3_readLine_100 : decode cX3_readLine 100 = .ok (.iconst 1, 1) := by decide +kernel
theorem dX3_readLine_101 : decode cX3_readLine 101 = .ok (.iadd, 1) := by decide +kernel
theorem dX3_readLine_102 : decode cX3_readLine 102 = .ok (.putfield 40, 3) := by decide +kernel
theorem dX3_readLine_105 : decode cX3_readLine 105 = .ok (.aload_n 0, 1) := by decide +kernel
theorem dX3_readLine_106 : decode cX3_readLine 106 = .ok (.invokevirtual 71, 3) := by decide +kernel
theorem dX3_readLine_109 : decode cX3_readLine 109 = .ok (.return_, 1) := by decide +kernel
theorem dX3_read_0 : decode cX3_read 0 = .ok (.aload_n 0, 1) := by decide +kernel
theorem dX3_read_1 : decode cX3_read 1 = .ok (.iload_n 1, 1) := by decide +kernel
theorem dX3_read_2 : decode cX3_read 2 = .ok (.sipush 900, 3) := by decide +kernel
theorem dX3_read_5 : decode cX3_read 5 = .ok (.invokestatic 65, 3) := by decide +kernel
theorem dX3_read_8 : decode cX3_read 8 = .ok (.putfield 19, 3) := by decide +kernel
theorem dX3_read_11 : decode cX3_read 11 = .ok (.aload_n 0, 1) := by decide +kernel
theorem dX3_read_12 : decode cX3_read 12 = .ok (.iconst 0, 1) := by decide +kernel
theorem dX3_read_13 : decode cX3_read 13 = .ok (.putfield 22, 3) := by decide +kernel
theorem dX3_read_16 : decode cX3_read 16 = .ok (.aload_n 0, 1) := by decide +kernel
theorem dX3_read_17 : decode cX3_read 17 = .ok (.iconst 0, 1) := by decide +kernel
theorem dX3_read_18 : decode cX3_read 18 = .ok (.putfield 37, 3) := by decide +kernel
theorem dX3_read_21 : decode cX3_read 21 = .ok (.aload_n 0, 1) := by decide +kernel
theorem dX3_read_22 : decode cX3_read 22 = .ok (.iconst 0, 1) := by decide +kernel
theorem dX3_read_23 : decode cX3_read 23 = .ok (.putfield 40, 3) := by decide +kernel
theorem dX3_read_26 : decode cX3_read 26 = .ok (.aload_n 0, 1) := by decide +kernel
theorem dX3_read_27 : decode cX3_read 27 = .ok (.iconst 0, 1) := by decide +kernel
theorem dX3_read_28 : decode cX3_read 28 = .ok (.putfield 43, 3) := by decide +kernel
theorem dX3_read_31 : decode cX3_read 31 = .ok (.aload_n 0, 1) := by decide +kernel
theorem dX3_read_32 : decode cX3_read 32 = .ok (.iconst (-1), 1) := by decide +kernel
theorem dX3_read_33 : decode cX3_read 33 = .ok (.putfield 46, 3) := by decide +kernel
theorem dX3_read_36 : decode cX3_read 36 = .ok (.aload_n 0, 1) := by decide +kernel
theorem dX3_read_37 : decode cX3_read 37 = .ok (.iconst 0, 1) := by decide +kernel
theorem dX3_read_38 : decode cX3_read 38 = .ok (.putfield 49, 3) := by decide +kernel
theorem dX3_read_41 : decode cX3_read 41 = .ok (.aload_n 0, 1) := by decide +kernel
theorem dX3_read_42 : decode cX3_read 42 = .ok (.iconst 0, 1) := by decide +kernel
theorem dX3_read_43 : decode cX3_read 43 = .ok (.putfield 52, 3) := by decide +kernel
theorem dX3_read_46 : decode cX3_read 46 = .ok (.aload_n 0, 1) := by decide +kernel
theorem dX3_read_47 : decode cX3_read 47 = .ok (.iconst 0, 1) := by decide +kernel
theorem dX3_read_48 : decode cX3_read 48 = .ok (.putfield 55, 3) := by decide +kernel
theorem dX3_read_51 : decode cX3_read 51 = .ok (.aload_n 0, 1) := by decide +kernel
theorem dX3_read_52 : decode cX3_read 52 = .ok (.iconst 0, 1) := by decide +kernel
theorem dX3_read_53 : decode cX3_read 53 = .ok (.putfield 61, 3) := by decide +kernel
theorem dX3_read_56 : decode cX3_read 56 = .ok (.aload_n 0, 1) := by decide +kernel
theorem dX3_read_57 : decode cX3_read 57 = .ok (.invokevirtual 71, 3) := by decide +kernel
theorem dX3_read_60 : decode cX3_read 60 = .ok (.iconst 0, 1) := by decide +kernel
theorem dX3_read_61 : decode cX3_read 61 = .ok (.istore_n 2, 1) := by decide +kernel
theorem dX3_read_62 : decode cX3_read 62 = .ok (.iload_n 2, 1) := by decide +kernel
theorem dX3_read_63 : decode cX3_read 63 = .ok (.aload_n 0, 1) := by decide +kernel
theorem dX3_read_64 : decode cX3_read 64 = .ok (.getfield 19, 3) := by decide +kernel
theorem dX3_read_67 : decode cX3_read 67 = .ok (.if_icmp .gt 27, 3) := by decide +kernel
theorem dX3_read_70 : decode cX3_read 70 = .ok (.aload_n 0, 1) := by decide +kernel
theorem dX3_read_71 : decode cX3_read 71 = .ok (.getfield 25, 3) := by decide +kernel
theorem dX3_read_74 : decode cX3_read 74 = .ok (.ifCond .eq 20, 3) := by decide +kernel
theorem dX3_read_77 : decode cX3_read 77 = .ok (.aload_n 0, 1) := by decide +kernel
theorem dX3_read_78 : decode cX3_read 78 = .ok (.getfield 43, 3) := by decide +kernel
theorem dX3_read_81 : decode cX3_read 81 = .ok (.ifCond .ne 13, 3) := by decide +kernel
theorem dX3_read_84 : decode cX3_read 84 = .ok (.aload_n 0, 1) := by decide +kernel
theorem dX3_read_85 : decode cX3_read 85 = .ok (.invokevirtual 74, 3) := by decide +kernel
theorem dX3_read_88 : decode cX3_read 88 = .ok (.iinc 2 1, 3) := by decide +kernel
theorem dX3_read_91 : decode cX3_read 91 = .ok (.goto (-29), 3) := by decide +kernel
theorem dX3_read_94 : decode cX3_read 94 = .ok (.return_, 1) := by decide +kernel
theorem dX9_text_0 : decode cX9_text 0 = .ok (.iload_n 1, 1) := by decide +kernel
theorem dX9_text_1 : decode cX9_text 1 = .ok (.ifCond .lt 14, 3) := by decide +kernel
theorem dX9_text_4 : decode cX9_text 4 = .ok (.iload_n 1, 1) := by decide +kernel
theorem dX9_text_5 : decode cX9_text 5 = .ok (.aload_n 0, 1) := by decide +kernel
theorem dX9_text_6 : decode cX9_text 6 = .ok (.getfield 10, 3) := by decide +kernel
theorem dX9_text_9 : decode cX9_text 9 = .ok (.getfield 30, 3) := by decide +kernel
theorem dX9_text_12 : decode cX9_text 12 = .ok (.if_icmp .le 6, 3) := by decide +kernel
theorem dX9_text_15 : decode cX9_text 15 = .ok (.bipush (-2), 2) := by decide +kernel
theorem dX9_text_17 : decode cX9_text 17 = .ok (.ireturn, 1) := by decide +kernel
theorem dX9_text_18 : decode cX9_text 18 = .ok (.aload_n 0, 1) := by decide +kernel
theorem dX9_text_19 : decode cX9_text 19 = .ok (.getfield 10, 3) := by decide +kernel
theorem dX9_text_22 : decode cX9_text 22 = .ok (.iload_n 1, 1) := by decide +kernel
theorem dX9_text_23 : decode cX9_text 23 = .ok (.invokevirtual 38, 3) := by decide +kernel
theorem dX9_text_26 : decode cX9_text 26 = .ok (.aload_n 0, 1) := by decide +kernel
theorem dX9_text_27 : decode cX9_text 27 = .ok (.getfield 10, 3) := by decide +kernel
theorem dX9_text_30 : decode cX9_text 30 = .ok (.iconst 0, 1) := by decide +kernel
theorem dX9_text_31 : decode cX9_text 31 = .ok (.putfield 30, 3) := by decide +kernel
theorem dX9_text_34 : decode cX9_text 34 = .ok (.aload_n 0, 1) := by decide +kernel
theorem dX9_text_35 : decode cX9_text 35 = .ok (.getfield 10, 3) := by decide +kernel
theorem dX9_text_38 : decode cX9_text 38 = .ok (.getfield 41, 3) := by decide +kernel
theorem dX9_text_41 : decode cX9_text 41 = .ok (.ifCond .eq 5, 3) := by decide +kernel
theorem dX9_text_44 : decode cX9_text 44 = .ok (.iconst (-1), 1) := by decide +kernel
theorem dX9_text_45 : decode cX9_text 45 = .ok (.ireturn, 1) := by decide +kernel
theorem dX9_text_46 : decode cX9_text 46 = .ok (.aload_n 0, 1) := by decide +kernel
theorem dX9_text_47 : decode cX9_text 47 = .ok (.getfield 19, 3) := by decide +kernel
theorem dX9_text_50 : decode cX9_text 50 = .ok (.invokevirtual 44, 3) := by decide +kernel
theorem dX9_text_53 : decode cX9_text 53 = .ok (.aload_n 0, 1) := by decide +kernel
theorem dX9_text_54 : decode cX9_text 54 = .ok (.invokevirtual 47, 3) := by decide +kernel
theorem dX9_text_57 : decode cX9_text 57 = .ok (.aload_n 0, 1) := by decide +kernel
theorem dX9_text_58 : decode cX9_text 58 = .ok (.getfield 10, 3) := by decide +kernel
theorem dX9_text_61 : decode cX9_text 61 = .ok (.getfield 50, 3) := by decide +kernel
theorem dX9_text_64 : decode cX9_text 64 = .ok (.ireturn, 1) := by decide +kernel
def b_X3_isSpelled_20 (o0 : Nat) (o1 : Nat) (k20 : Hp × Int32 → Option (Int32 × Hp)) (q : Hp × Int32) : Option (Int32 × Hp) :=
  if (slen o1) ≤ q.2 then (some (1, q.1)) else (if ib ((q.1 o0 5) + q.2) 900 then (if ib q.2 (sle o1) then (if (q.1 (o0 + 1) (Int32.toNatClampNeg ((q.1 o0 5) + q.2))) = (sch o1 q.2) then (k20 (q.1, q.2 + 1)) else (some (0, q.1))) else none) else none)
def p_X3_isSpelled (h : Hp) (o0 : Nat) (o1 : Nat) : Option (Int32 × Hp) :=
  if ((h o0 3) - (h o0 5)) = (slen o1) then (lp (b_X3_isSpelled_20 o0 o1) FU (h, 0)) else (some (0, h))
set_option maxRecDepth 4000 in
theorem s_X3_isSpelled_20 {p : Program} {l : Launch} {e : Env} {s : State} {m : MethodId} {args : Array Value} {below : List Frame} {meth : Method} {c : Code} {G : GT} (cx : CX p s m args c cX3_isSpelled 3 RX3 G) (hr : meth.sig.returnType = (some .boolean)) (hlk : meth.locks = false) (o0 : Nat) (o1 : Nat) (hk_o0 : kd o0 = 3) (hk_o1 : o1 < 17) : ∀ (n : Nat) (q : Hp × Int32), PF p l e (rmc 4 85) s m args below meth c 3 G 0 0 (QI below G args s) 20 [some (.ref (gad G o0)), some (.ref (gsa G (100 + o1))), some (.int q.2)] [] q.1 (lp (b_X3_isSpelled_20 o0 o1) n q) := by
  refine f_lp (lvf := fun (q : Hp × Int32) => [some (.ref (gad G o0)), some (.ref (gsa G (100 + o1))), some (.int q.2)]) (hf := fun (q : Hp × Int32) => q.1) (fun k20 hk20 q => ?_)
  show PF p l e (rmc 4 85) s m args below meth c 3 G 0 0 (QI below G args s) 20 [some (.ref (gad G o0)), some (.ref (gsa G (100 + o1))), some (.int q.2)] [] q.1 (b_X3_isSpelled_20 o0 o1 k20 q)
  unfold b_X3_isSpelled_20
  refine f_iload_n (pc := 20) cx dX3_isSpelled_20 rfl rfl ?_
  refine f_aload_n (pc := 21) cx dX3_isSpelled_21 rfl rfl ?_
  refine k_X3_127 (pc := 22) cx hk_o1 ⟨by decide, by decide⟩ ⟨Nat.zero_le _, Nat.zero_le _⟩ (Nat.le_of_ble_eq_true rfl) dX3_isSpelled_22 ?_
  refine f_icmp_ge (pc := 25) (tgt := 55) cx dX3_isSpelled_25 (by decide) (fun _ => ?_) (fun _ => ?_)
  · refine f_iconst (pc := 55) cx dX3_isSpelled_55 kc_iconst_1 ?_
    exact f_iret cx hr hlk (bb_n bb_1).1 dX3_isSpelled_56
  · refine f_aload_n (pc := 28) cx dX3_isSpelled_28 rfl rfl ?_
    refine g_X3_9 (pc := 29) cx hk_o0 dX3_isSpelled_29 ?_
    refine f_aload_n (pc := 32) cx dX3_isSpelled_32 rfl rfl ?_
    refine g_X3_28 (pc := 33) cx hk_o0 dX3_isSpelled_33 ?_
    refine f_iload_n (pc := 36) cx dX3_isSpelled_36 rfl rfl ?_
    refine f_iadd (pc := 37) cx dX3_isSpelled_37 ?_
    refine f_need (fun c1 => ?_)
    refine f_iald (pc := 38) (n := 900) cx (kf_3_0 hk_o0) (by decide) c1 dX3_isSpelled_38 ?_
    refine f_aload_n (pc := 39) cx dX3_isSpelled_39 rfl rfl ?_
    refine f_iload_n (pc := 40) cx dX3_isSpelled_40 rfl rfl ?_
    refine f_need (fun c2 => ?_)
    refine k_X3_132 (pc := 41) cx hk_o1 c2 ⟨by decide, by decide⟩ ⟨Nat.zero_le _, Nat.zero_le _⟩ (Nat.le_of_ble_eq_true rfl) dX3_isSpelled_41 ?_
    refine f_icmp_eq (pc := 44) (tgt := 49) cx dX3_isSpelled_44 (by decide) (fun _ => ?_) (fun _ => ?_)
    · refine f_iinc2 (pc := 49) cx dX3_isSpelled_49 kc_iconst_1 (by decide) rfl ?_
      refine f_goto (pc := 52) (tgt := 20) cx dX3_isSpelled_52 (by decide) ?_
      exact f_weak (LSb.s (LSb.s (LSb.s LSb.e))) (hk20 (q.1, q.2 + 1))
    · refine f_iconst (pc := 47) cx dX3_isSpelled_47 kc_iconst_0 ?_
      exact f_iret cx hr hlk (bb_n bb_0).1 dX3_isSpelled_48
set_option maxRecDepth 4000 in
theorem s_X3_isSpelled {p : Program} {l : Launch} {e : Env} {s : State} {m : MethodId} {args : Array Value} {below : List Frame} {meth : Method} {c : Code} {G : GT} (cx : CX p s m args c cX3_isSpelled 3 RX3 G) (hr : meth.sig.returnType = (some .boolean)) (hlk : meth.locks = false) (h : Hp) (o0 : Nat) (o1 : Nat) (hk_o0 : kd o0 = 3) (hk_o1 : o1 < 17) : PF p l e (rmc 4 85) s m args below meth c 3 G 0 0 (QI below G args s) 0 [some (.ref (gad G o0)), some (.ref (gsa G (100 + o1))), none] [] h (p_X3_isSpelled h o0 o1) := by
  unfold p_X3_isSpelled
  refine f_aload_n (pc := 0) cx dX3_isSpelled_0 rfl rfl ?_
  refine g_X3_22 (pc := 1) cx hk_o0 dX3_isSpelled_1 ?_
  refine f_aload_n (pc := 4) cx dX3_isSpelled_4 rfl rfl ?_
  refine g_X3_28 (pc := 5) cx hk_o0 dX3_isSpelled_5 ?_
  refine f_isub (pc := 8) cx dX3_isSpelled_8 ?_
  refine f_aload_n (pc := 9) cx dX3_isSpelled_9 rfl rfl ?_
  refine k_X3_127 (pc := 10) cx hk_o1 ⟨by decide, by decide⟩ ⟨Nat.zero_le _, Nat.zero_le _⟩ (Nat.le_of_ble_eq_true rfl) dX3_isSpelled_10 ?_
  refine f_icmp_eq (pc := 13) (tgt := 18) cx dX3_isSpelled_13 (by decide) (fun _ => ?_) (fun _ => ?_)
  · refine f_iconst (pc := 18) cx dX3_isSpelled_18 kc_iconst_0 ?_
    refine f_istore2 (pc := 19) cx dX3_isSpelled_19 (by decide) rfl ?_
    exact f_weak (LSb.s (LSb.s (LSb.s LSb.e))) (s_X3_isSpelled_20 cx hr hlk o0 o1 hk_o0 hk_o1 FU (h, 0))
  · refine f_iconst (pc := 16) cx dX3_isSpelled_16 kc_iconst_0 ?_
    exact f_iret cx hr hlk (bb_n bb_0).1 dX3_isSpelled_17
set_option maxRecDepth 4000 in
theorem c_X3_isSpelled (l : Launch) (G : GT) (h : Hp) (o0 : Nat) (o1 : Nat) (hk_o0 : kd o0 = 3) (hk_o1 : o1 < 17) : CtI l G yX3_isSpelled cX3_isSpelled 3 (some .boolean) 4 85 [.ref (gad G o0), .ref (gsa G (100 + o1))] h (p_X3_isSpelled h o0 o1) := fun a ha => Ct.of (lv := [some (.ref (gad G o0)), some (.ref (gsa G (100 + o1))), none]) (by decide) rfl (Nat.le_of_ble_eq_true rfl) rfl (fun p e s m args below meth c cx hr hlk => s_X3_isSpelled cx hr hlk h o0 o1 hk_o0 hk_o1 a ha)
def p_X3_spelling (h : Hp) (x0 : Int32) : Option (Nat × Hp) :=
  if x0 = 0 then (some (0, h)) else if x0 = 1 then (some (1, h)) else if x0 = 2 then (some (2, h)) else if x0 = 3 then (some (3, h)) else if x0 = 4 then (some (4, h)) else if x0 = 5 then (some (5, h)) else if x0 = 6 then (some (6, h)) else if x0 = 7 then (some (7, h)) else if x0 = 8 then (some (8, h)) else if x0 = 9 then (some (9, h)) else if x0 = 10 then (some (10, h)) else if x0 = 11 then (some (11, h)) else if x0 = 12 then (some (12, h)) else (some (13, h))
set_option maxRecDepth 4000 in
theorem s_X3_spelling {p : Program} {l : Launch} {e : Env} {s : State} {m : MethodId} {args : Array Value} {below : List Frame} {meth : Method} {c : Code} {G : GT} (cx : CX p s m args c cX3_spelling 1 RX3 G) (hr : meth.sig.returnType = (some (.object "java/lang/String"))) (hlk : meth.locks = false) (h : Hp) (x0 : Int32) : PF p l e (rmc 0 0) s m args below meth c 1 G 0 0 (QS below G args s) 0 [some (.int x0)] [] h (p_X3_spelling h x0) := by
  unfold p_X3_spelling
  refine f_iload_n (pc := 0) cx dX3_spelling_0 rfl rfl ?_
  refine f_case (?_) (fun n1 => ?_)
  · refine f_tin (pc := 1) (tgt := 68) cx dX3_spelling_1 (by decide) (by decide) rfl (by decide) ?_
    refine f_ldcS (pc := 68) (j := 0) cx (by decide) rfl rfl dX3_spelling_68 ?_
    exact f_aret cx hr hlk dX3_spelling_70
  refine f_case (?_) (fun n2 => ?_)
  · refine f_tin (pc := 1) (tgt := 71) cx dX3_spelling_1 (by decide) (by decide) rfl (by decide) ?_
    refine f_ldcS (pc := 71) (j := 1) cx (by decide) rfl rfl dX3_spelling_71 ?_
    exact f_aret cx hr hlk dX3_spelling_73
  refine f_case (?_) (fun n3 => ?_)
  · refine f_tin (pc := 1) (tgt := 74) cx dX3_spelling_1 (by decide) (by decide) rfl (by decide) ?_
    refine f_ldcS (pc := 74) (j := 2) cx (by decide) rfl rfl dX3_spelling_74 ?_
    exact f_aret cx hr hlk dX3_spelling_76
  refine f_case (?_) (fun n4 => ?_)
  · refine f_tin (pc := 1) (tgt := 77) cx dX3_spelling_1 (by decide) (by decide) rfl (by decide) ?_
    refine f_ldcS (pc := 77) (j := 3) cx (by decide) rfl rfl dX3_spelling_77 ?_
    exact f_aret cx hr hlk dX3_spelling_79
  refine f_case (?_) (fun n5 => ?_)
  · refine f_tin (pc := 1) (tgt := 80) cx dX3_spelling_1 (by decide) (by decide) rfl (by decide) ?_
    refine f_ldcS (pc := 80) (j := 4) cx (by decide) rfl rfl dX3_spelling_80 ?_
    exact f_aret cx hr hlk dX3_spelling_82
  refine f_case (?_) (fun n6 => ?_)
  · refine f_tin (pc := 1) (tgt := 83) cx dX3_spelling_1 (by decide) (by decide) rfl (by decide) ?_
    refine f_ldcS (pc := 83) (j := 5) cx (by decide) rfl rfl dX3_spelling_83 ?_
    exact f_aret cx hr hlk dX3_spelling_85
  refine f_case (?_) (fun n7 => ?_)
  · refine f_tin (pc := 1) (tgt := 86) cx dX3_spelling_1 (by decide) (by decide) rfl (by decide) ?_
    refine f_ldcS (pc := 86) (j := 6) cx (by decide) rfl rfl dX3_spelling_86 ?_
    exact f_aret cx hr hlk dX3_spelling_88
  refine f_case (?_) (fun n8 => ?_)
  · refine f_tin (pc := 1) (tgt := 89) cx dX3_spelling_1 (by decide) (by decide) rfl (by decide) ?_
    refine f_ldcS (pc := 89) (j := 7) cx (by decide) rfl rfl dX3_spelling_89 ?_
    exact f_aret cx hr hlk dX3_spelling_91
  refine f_case (?_) (fun n9 => ?_)
  · refine f_tin (pc := 1) (tgt := 92) cx dX3_spelling_1 (by decide) (by decide) rfl (by decide) ?_
    refine f_ldcS (pc := 92) (j := 8) cx (by decide) rfl rfl dX3_spelling_92 ?_
    exact f_aret cx hr hlk dX3_spelling_94
  refine f_case (?_) (fun n10 => ?_)
  · refine f_tin (pc := 1) (tgt := 95) cx dX3_spelling_1 (by decide) (by decide) rfl (by decide) ?_
    refine f_ldcS (pc := 95) (j := 9) cx (by decide) rfl rfl dX3_spelling_95 ?_
    exact f_aret cx hr hlk dX3_spelling_97
  refine f_case (?_) (fun n11 => ?_)
  · refine f_tin (pc := 1) (tgt := 98) cx dX3_spelling_1 (by decide) (by decide) rfl (by decide) ?_
    refine f_ldcS (pc := 98) (j := 10) cx (by decide) rfl rfl dX3_spelling_98 ?_
    exact f_aret cx hr hlk dX3_spelling_100
  refine f_case (?_) (fun n12 => ?_)
  · refine f_tin (pc := 1) (tgt := 101) cx dX3_spelling_1 (by decide) (by decide) rfl (by decide) ?_
    refine f_ldcS (pc := 101) (j := 11) cx (by decide) rfl rfl dX3_spelling_101 ?_
    exact f_aret cx hr hlk dX3_spelling_103
  refine f_case (?_) (fun n13 => ?_)
  · refine f_tin (pc := 1) (tgt := 104) cx dX3_spelling_1 (by decide) (by decide) rfl (by decide) ?_
    refine f_ldcS (pc := 104) (j := 12) cx (by decide) rfl rfl dX3_spelling_104 ?_
    exact f_aret cx hr hlk dX3_spelling_106
  refine f_tout (pc := 1) (tgt := 107) (N := 13) cx dX3_spelling_1 (by decide) (by decide) (lt_s (lt_s (lt_s (lt_s (lt_s (lt_s (lt_s (lt_s (lt_s (lt_s (lt_s (lt_s (lt_s lt_0 n1) n2) n3) n4) n5) n6) n7) n8) n9) n10) n11) n12) n13) (by decide) ?_
  refine f_ldcS (pc := 107) (j := 13) cx (by decide) rfl rfl dX3_spelling_107 ?_
  exact f_aret cx hr hlk dX3_spelling_109
set_option maxRecDepth 4000 in
theorem c_X3_spelling (l : Launch) (G : GT) (h : Hp) (x0 : Int32) : CtS l G yX3_spelling cX3_spelling 1 (some (.object "java/lang/String")) 0 0 [.int x0] h (p_X3_spelling h x0) := fun a ha => Ct.of (lv := [some (.int x0)]) (by decide) rfl (Nat.le_of_ble_eq_true rfl) rfl (fun p e s m args below meth c cx hr hlk => s_X3_spelling cx hr hlk h x0 a ha)
def b_X3_scanWord_46 (o0 : Nat) (k46 : Hp × Int32 → Option Hp) (q : Hp × Int32) : Option Hp :=
  if 13 ≤ q.2 then (some q.1) else (if (q.1 o0 4) = 4 then (Option.bind (p_X3_spelling q.1 q.2) fun r1 => if r1.1 < 17 then (Option.bind (p_X3_isSpelled r1.2 o0 r1.1) fun r3 => if r3.1 = 0 then (k46 (r3.2, q.2 + 1)) else (nv (hp r3.2 o0 4 1) fun h4 => nv (hp h4 o0 6 q.2) fun h5 => k46 (h5, q.2 + 1))) else none) else (some q.1))
def b_X3_scanWord_0 (o0 : Nat) (k0 : Hp → Option Hp) (q : Hp) : Option Hp :=
  if (q o0 2) ≤ (q o0 3) then (nv (hp q o0 4 4) fun h6 => lp (b_X3_scanWord_46 o0) FU (h6, 0)) else (if ib (q o0 3) 900 then (Option.bind (p_X3_isLetter q (q (o0 + 1) (Int32.toNatClampNeg (q o0 3)))) fun r8 => if r8.1 = 0 then (nv (hp r8.2 o0 4 4) fun h9 => lp (b_X3_scanWord_46 o0) FU (h9, 0)) else (nv (hp r8.2 o0 3 ((r8.2 o0 3) + 1)) fun h10 => k0 h10)) else none)
def p_X3_scanWord (h : Hp) (o0 : Nat) : Option Hp :=
  lp (b_X3_scanWord_0 o0) FU h
set_option maxRecDepth 4000 in
theorem s_X3_scanWord_46 {p : Program} {l : Launch} {e : Env} {s : State} {m : MethodId} {args : Array Value} {below : List Frame} {meth : Method} {c : Code} {G : GT} (cx : CX p s m args c cX3_scanWord 2 RX3 G) (hr : meth.sig.returnType = none) (hlk : meth.locks = false) (o0 : Nat) (hk_o0 : kd o0 = 3) : ∀ (n : Nat) (q : Hp × Int32), PF p l e (rmc 5 107) s m args below meth c 2 G 0 0 (QV below G args s) 46 [some (.ref (gad G o0)), some (.int q.2)] [] q.1 (lp (b_X3_scanWord_46 o0) n q) := by
  refine f_lp (lvf := fun (q : Hp × Int32) => [some (.ref (gad G o0)), some (.int q.2)]) (hf := fun (q : Hp × Int32) => q.1) (fun k46 hk46 q => ?_)
  show PF p l e (rmc 5 107) s m args below meth c 2 G 0 0 (QV below G args s) 46 [some (.ref (gad G o0)), some (.int q.2)] [] q.1 (b_X3_scanWord_46 o0 k46 q)
  unfold b_X3_scanWord_46
  refine f_iload_n (pc := 46) cx dX3_scanWord_46 rfl rfl ?_
  refine f_bipush (pc := 47) cx dX3_scanWord_47 kc_bipush_13 ?_
  refine f_icmp_ge (pc := 49) (tgt := 87) cx dX3_scanWord_49 (by decide) (fun _ => ?_) (fun _ => ?_)
  · exact f_vret cx hr hlk dX3_scanWord_87
  · refine f_aload_n (pc := 52) cx dX3_scanWord_52 rfl rfl ?_
    refine g_X3_25 (pc := 53) cx hk_o0 dX3_scanWord_53 ?_
    refine f_iconst (pc := 56) cx dX3_scanWord_56 kc_iconst_4 ?_
    refine f_icmp_ne (pc := 57) (tgt := 87) cx dX3_scanWord_57 (by decide) (fun _ => ?_) (fun _ => ?_)
    · refine f_aload_n (pc := 60) cx dX3_scanWord_60 rfl rfl ?_
      refine f_iload_n (pc := 61) cx dX3_scanWord_61 rfl rfl ?_
      refine f_bind (fun r1 hr1 => ?_)
      refine k_X3_119 (pc := 62) cx (c_X3_spelling l G _ q.2 r1 hr1) ⟨by decide, by decide⟩ ⟨Nat.zero_le _, Nat.zero_le _⟩ (Nat.le_of_ble_eq_true rfl) dX3_scanWord_62 ?_
      refine f_need (fun c2 => ?_)
      refine f_bind (fun r3 hr3 => ?_)
      refine k_X3_123 (pc := 65) cx (c_X3_isSpelled l G _ o0 r1.1 hk_o0 c2 r3 hr3) hk_o0 ⟨by decide, by decide⟩ ⟨Nat.zero_le _, Nat.zero_le _⟩ (Nat.le_of_ble_eq_true rfl) dX3_scanWord_65 ?_
      refine f_if_eq (pc := 68) (tgt := 81) cx dX3_scanWord_68 (by decide) (fun _ => ?_) (fun _ => ?_)
      · refine f_iinc1 (pc := 81) cx dX3_scanWord_81 kc_iconst_1 (by decide) rfl ?_
        refine f_goto (pc := 84) (tgt := 46) cx dX3_scanWord_84 (by decide) ?_
        exact f_weak (LSb.s (LSb.s LSb.e)) (hk46 (r3.2, q.2 + 1))
      · refine f_aload_n (pc := 71) cx dX3_scanWord_71 rfl rfl ?_
        refine f_iconst (pc := 72) cx dX3_scanWord_72 kc_iconst_1 ?_
        refine u_X3_25 (pc := 73) cx hk_o0 dX3_scanWord_73 ?_
        refine f_nvh (fun h4 => ?_)
        refine f_aload_n (pc := 76) cx dX3_scanWord_76 rfl rfl ?_
        refine f_iload_n (pc := 77) cx dX3_scanWord_77 rfl rfl ?_
        refine u_X3_31 (pc := 78) cx hk_o0 dX3_scanWord_78 ?_
        refine f_nvh (fun h5 => ?_)
        refine f_iinc1 (pc := 81) cx dX3_scanWord_81 kc_iconst_1 (by decide) rfl ?_
        refine f_goto (pc := 84) (tgt := 46) cx dX3_scanWord_84 (by decide) ?_
        exact f_weak (LSb.s (LSb.s LSb.e)) (hk46 (h5, q.2 + 1))
    · exact f_vret cx hr hlk dX3_scanWord_87
set_option maxRecDepth 4000 in
theorem s_X3_scanWord_0 {p : Program} {l : Launch} {e : Env} {s : State} {m : MethodId} {args : Array Value} {below : List Frame} {meth : Method} {c : Code} {G : GT} (cx : CX p s m args c cX3_scanWord 2 RX3 G) (hr : meth.sig.returnType = none) (hlk : meth.locks = false) (o0 : Nat) (hk_o0 : kd o0 = 3) : ∀ (n : Nat) (q : Hp), PF p l e (rmc 5 107) s m args below meth c 2 G 0 0 (QV below G args s) 0 [some (.ref (gad G o0)), none] [] q (lp (b_X3_scanWord_0 o0) n q) := by
  refine f_lp (lvf := fun (q : Hp) => [some (.ref (gad G o0)), none]) (hf := fun (q : Hp) => q) (fun k0 hk0 q => ?_)
  show PF p l e (rmc 5 107) s m args below meth c 2 G 0 0 (QV below G args s) 0 [some (.ref (gad G o0)), none] [] q (b_X3_scanWord_0 o0 k0 q)
  unfold b_X3_scanWord_0
  refine f_aload_n (pc := 0) cx dX3_scanWord_0 rfl rfl ?_
  refine g_X3_22 (pc := 1) cx hk_o0 dX3_scanWord_1 ?_
  refine f_aload_n (pc := 4) cx dX3_scanWord_4 rfl rfl ?_
  refine g_X3_19 (pc := 5) cx hk_o0 dX3_scanWord_5 ?_
  refine f_icmp_ge (pc := 8) (tgt := 39) cx dX3_scanWord_8 (by decide) (fun _ => ?_) (fun _ => ?_)
  · refine f_aload_n (pc := 39) cx dX3_scanWord_39 rfl rfl ?_
    refine f_iconst (pc := 40) cx dX3_scanWord_40 kc_iconst_4 ?_
    refine u_X3_25 (pc := 41) cx hk_o0 dX3_scanWord_41 ?_
    refine f_nvh (fun h6 => ?_)
    refine f_iconst (pc := 44) cx dX3_scanWord_44 kc_iconst_0 ?_
    refine f_istore1 (pc := 45) cx dX3_scanWord_45 (by decide) rfl ?_
    exact f_weak (LSb.s (LSb.s LSb.e)) (s_X3_scanWord_46 cx hr hlk o0 hk_o0 FU (h6, 0))
  · refine f_aload_n (pc := 11) cx dX3_scanWord_11 rfl rfl ?_
    refine g_X3_9 (pc := 12) cx hk_o0 dX3_scanWord_12 ?_
    refine f_aload_n (pc := 15) cx dX3_scanWord_15 rfl rfl ?_
    refine g_X3_22 (pc := 16) cx hk_o0 dX3_scanWord_16 ?_
    refine f_need (fun c7 => ?_)
    refine f_iald (pc := 19) (n := 900) cx (kf_3_0 hk_o0) (by decide) c7 dX3_scanWord_19 ?_
    refine f_bind (fun r8 hr8 => ?_)
    refine k_X3_112 (pc := 20) cx (c_X3_isLetter l G _ (q (o0 + 1) (Int32.toNatClampNeg (q o0 3))) r8 hr8) ⟨by decide, by decide⟩ ⟨Nat.zero_le _, Nat.zero_le _⟩ (Nat.le_of_ble_eq_true rfl) dX3_scanWord_20 ?_
    refine f_if_eq (pc := 23) (tgt := 39) cx dX3_scanWord_23 (by decide) (fun _ => ?_) (fun _ => ?_)
    · refine f_aload_n (pc := 39) cx dX3_scanWord_39 rfl rfl ?_
      refine f_iconst (pc := 40) cx dX3_scanWord_40 kc_iconst_4 ?_
      refine u_X3_25 (pc := 41) cx hk_o0 dX3_scanWord_41 ?_
      refine f_nvh (fun h9 => ?_)
      refine f_iconst (pc := 44) cx dX3_scanWord_44 kc_iconst_0 ?_
      refine f_istore1 (pc := 45) cx dX3_scanWord_45 (by decide) rfl ?_
      exact f_weak (LSb.s (LSb.s LSb.e)) (s_X3_scanWord_46 cx hr hlk o0 hk_o0 FU (h9, 0))
    · refine f_aload_n (pc := 26) cx dX3_scanWord_26 rfl rfl ?_
      refine f_dup (pc := 27) cx dX3_scanWord_27 rfl ?_
      refine g_X3_22 (pc := 28) cx hk_o0 dX3_scanWord_28 ?_
      refine f_iconst (pc := 31) cx dX3_scanWord_31 kc_iconst_1 ?_
      refine f_iadd (pc := 32) cx dX3_scanWord_32 ?_
      refine u_X3_22 (pc := 33) cx hk_o0 dX3_scanWord_33 ?_
      refine f_nvh (fun h10 => ?_)
      refine f_goto (pc := 36) (tgt := 0) cx dX3_scanWord_36 (by decide) ?_
      exact f_weak (LSb.s (LSb.n LSb.e)) (hk0 h10)
set_option maxRecDepth 4000 in
theorem s_X3_scanWord {p : Program} {l : Launch} {e : Env} {s : State} {m : MethodId} {args : Array Value} {below : List Frame} {meth : Method} {c : Code} {G : GT} (cx : CX p s m args c cX3_scanWord 2 RX3 G) (hr : meth.sig.returnType = none) (hlk : meth.locks = false) (h : Hp) (o0 : Nat) (hk_o0 : kd o0 = 3) : PF p l e (rmc 5 107) s m args below meth c 2 G 0 0 (QV below G args s) 0 [some (.ref (gad G o0)), none] [] h (p_X3_scanWord h o0) := by
  unfold p_X3_scanWord
  exact f_weak (LSb.s (LSb.n LSb.e)) (s_X3_scanWord_0 cx hr hlk o0 hk_o0 FU h)
set_option maxRecDepth 4000 in
theorem c_X3_scanWord (l : Launch) (G : GT) (h : Hp) (o0 : Nat) (hk_o0 : kd o0 = 3) : CtV l G yX3_scanWord cX3_scanWord 2 none 5 107 [.ref (gad G o0)] h (p_X3_scanWord h o0) := fun a ha => Ct.of (lv := [some (.ref (gad G o0)), none]) (by decide) rfl (Nat.le_of_ble_eq_true rfl) rfl (fun p e s m args below meth c cx hr hlk => s_X3_scanWord cx hr hlk h o0 hk_o0 a ha)
def q_X3_nextToken_52 (h : Hp) (o0 : Nat) : Option Hp :=
  nv (hp h o0 5 (h o0 3)) fun h1 => if (h1 o0 3) < (h1 o0 2) then (if ib (h1 o0 3) 900 then (Option.bind (p_X3_isDigit h1 (h1 (o0 + 1) (Int32.toNatClampNeg (h1 o0 3)))) fun r3 => if r3.1 = 0 then (if ib (r3.2 o0 3) 900 then (Option.bind (p_X3_isLetter r3.2 (r3.2 (o0 + 1) (Int32.toNatClampNeg (r3.2 o0 3)))) fun r5 => if r5.1 = 0 then (if ib (r5.2 o0 3) 900 then (if (r5.2 (o0 + 1) (Int32.toNatClampNeg (r5.2 o0 3))) = 59 then (nv (hp r5.2 o0 4 3) fun h7 => nv (hp h7 o0 3 ((h7 o0 3) + 1)) fun h8 => some h8) else (nv (hp r5.2 o0 4 4) fun h9 => nv (hp h9 o0 3 ((h9 o0 3) + 1)) fun h10 => some h10)) else none) else (Option.bind (p_X3_scanWord r5.2 o0) fun r11 => some r11)) else none) else (Option.bind (p_X3_scanNumber r3.2 o0) fun r12 => some r12)) else none) else (nv (hp h1 o0 4 0) fun h13 => some h13)
def b_X3_nextToken_0 (o0 : Nat) (k0 : Hp → Option Hp) (q : Hp) : Option Hp :=
  if (q o0 2) ≤ (q o0 3) then (q_X3_nextToken_52 q o0) else (if ib (q o0 3) 900 then (if (q (o0 + 1) (Int32.toNatClampNeg (q o0 3))) = 10 then (nv (hp q o0 3 ((q o0 3) + 1)) fun h15 => k0 h15) else (if ib (q o0 3) 900 then (if (q (o0 + 1) (Int32.toNatClampNeg (q o0 3))) = 32 then (nv (hp q o0 3 ((q o0 3) + 1)) fun h17 => k0 h17) else (q_X3_nextToken_52 q o0)) else none)) else none)
def p_X3_nextToken (h : Hp) (o0 : Nat) : Option Hp :=
  lp (b_X3_nextToken_0 o0) FU h
set_option maxRecDepth 4000 in
theorem s_X3_nextToken_52 {p : Program} {l : Launch} {e : Env} {s : State} {m : MethodId} {args : Array Value} {below : List Frame} {meth : Method} {c : Code} {G : GT} (cx : CX p s m args c cX3_nextToken 1 RX3 G) (hr : meth.sig.returnType = none) (hlk : meth.locks = false) (h : Hp) (o0 : Nat) (hk_o0 : kd o0 = 3) : PF p l e (rmc 6 128) s m args below meth c 1 G 0 0 (QV below G args s) 52 [some (.ref (gad G o0))] [] h (q_X3_nextToken_52 h o0) := by
  unfold q_X3_nextToken_52
  refine f_aload_n (pc := 52) cx dX3_nextToken_52 rfl rfl ?_
  refine f_aload_n (pc := 53) cx dX3_nextToken_53 rfl rfl ?_
  refine g_X3_22 (pc := 54) cx hk_o0 dX3_nextToken_54 ?_
  refine u_X3_28 (pc := 57) cx hk_o0 dX3_nextToken_57 ?_
  refine f_nvh (fun h1 => ?_)
  refine f_aload_n (pc := 60) cx dX3_nextToken_60 rfl rfl ?_
  refine g_X3_22 (pc := 61) cx hk_o0 dX3_nextToken_61 ?_
  refine f_aload_n (pc := 64) cx dX3_nextToken_64 rfl rfl ?_
  refine g_X3_19 (pc := 65) cx hk_o0 dX3_nextToken_65 ?_
  refine f_icmp_lt (pc := 68) (tgt := 79) cx dX3_nextToken_68 (by decide) (fun _ => ?_) (fun _ => ?_)
  · refine f_aload_n (pc := 79) cx dX3_nextToken_79 rfl rfl ?_
    refine g_X3_9 (pc := 80) cx hk_o0 dX3_nextToken_80 ?_
    refine f_aload_n (pc := 83) cx dX3_nextToken_83 rfl rfl ?_
    refine g_X3_22 (pc := 84) cx hk_o0 dX3_nextToken_84 ?_
    refine f_need (fun c2 => ?_)
    refine f_iald (pc := 87) (n := 900) cx (kf_3_0 hk_o0) (by decide) c2 dX3_nextToken_87 ?_
    refine f_bind (fun r3 hr3 => ?_)
    refine k_X3_105 (pc := 88) cx (c_X3_isDigit l G _ (h1 (o0 + 1) (Int32.toNatClampNeg (h1 o0 3))) r3 hr3) ⟨by decide, by decide⟩ ⟨Nat.zero_le _, Nat.zero_le _⟩ (Nat.le_of_ble_eq_true rfl) dX3_nextToken_88 ?_
    refine f_if_eq (pc := 91) (tgt := 101) cx dX3_nextToken_91 (by decide) (fun _ => ?_) (fun _ => ?_)
    · refine f_aload_n (pc := 101) cx dX3_nextToken_101 rfl rfl ?_
      refine g_X3_9 (pc := 102) cx hk_o0 dX3_nextToken_102 ?_
      refine f_aload_n (pc := 105) cx dX3_nextToken_105 rfl rfl ?_
      refine g_X3_22 (pc := 106) cx hk_o0 dX3_nextToken_106 ?_
      refine f_need (fun c4 => ?_)
      refine f_iald (pc := 109) (n := 900) cx (kf_3_0 hk_o0) (by decide) c4 dX3_nextToken_109 ?_
      refine f_bind (fun r5 hr5 => ?_)
      refine k_X3_112 (pc := 110) cx (c_X3_isLetter l G _ (r3.2 (o0 + 1) (Int32.toNatClampNeg (r3.2 o0 3))) r5 hr5) ⟨by decide, by decide⟩ ⟨Nat.zero_le _, Nat.zero_le _⟩ (Nat.le_of_ble_eq_true rfl) dX3_nextToken_110 ?_
      refine f_if_eq (pc := 113) (tgt := 123) cx dX3_nextToken_113 (by decide) (fun _ => ?_) (fun _ => ?_)
      · refine f_aload_n (pc := 123) cx dX3_nextToken_123 rfl rfl ?_
        refine f_aload_n (pc := 124) cx dX3_nextToken_124 rfl rfl ?_
        refine g_X3_9 (pc := 125) cx hk_o0 dX3_nextToken_125 ?_
        refine f_aload_n (pc := 128) cx dX3_nextToken_128 rfl rfl ?_
        refine g_X3_22 (pc := 129) cx hk_o0 dX3_nextToken_129 ?_
        refine f_need (fun c6 => ?_)
        refine f_iald (pc := 132) (n := 900) cx (kf_3_0 hk_o0) (by decide) c6 dX3_nextToken_132 ?_
        refine f_bipush (pc := 133) cx dX3_nextToken_133 kc_bipush_59 ?_
        refine f_icmp_ne (pc := 135) (tgt := 142) cx dX3_nextToken_135 (by decide) (fun _ => ?_) (fun _ => ?_)
        · refine f_iconst (pc := 138) cx dX3_nextToken_138 kc_iconst_3 ?_
          refine f_goto (pc := 139) (tgt := 143) cx dX3_nextToken_139 (by decide) ?_
          refine u_X3_25 (pc := 143) cx hk_o0 dX3_nextToken_143 ?_
          refine f_nvh (fun h7 => ?_)
          refine f_aload_n (pc := 146) cx dX3_nextToken_146 rfl rfl ?_
          refine f_dup (pc := 147) cx dX3_nextToken_147 rfl ?_
          refine g_X3_22 (pc := 148) cx hk_o0 dX3_nextToken_148 ?_
          refine f_iconst (pc := 151) cx dX3_nextToken_151 kc_iconst_1 ?_
          refine f_iadd (pc := 152) cx dX3_nextToken_152 ?_
          refine u_X3_22 (pc := 153) cx hk_o0 dX3_nextToken_153 ?_
          refine f_nvh (fun h8 => ?_)
          exact f_vret cx hr hlk dX3_nextToken_156
        · refine f_iconst (pc := 142) cx dX3_nextToken_142 kc_iconst_4 ?_
          refine u_X3_25 (pc := 143) cx hk_o0 dX3_nextToken_143 ?_
          refine f_nvh (fun h9 => ?_)
          refine f_aload_n (pc := 146) cx dX3_nextToken_146 rfl rfl ?_
          refine f_dup (pc := 147) cx dX3_nextToken_147 rfl ?_
          refine g_X3_22 (pc := 148) cx hk_o0 dX3_nextToken_148 ?_
          refine f_iconst (pc := 151) cx dX3_nextToken_151 kc_iconst_1 ?_
          refine f_iadd (pc := 152) cx dX3_nextToken_152 ?_
          refine u_X3_22 (pc := 153) cx hk_o0 dX3_nextToken_153 ?_
          refine f_nvh (fun h10 => ?_)
          exact f_vret cx hr hlk dX3_nextToken_156
      · refine f_aload_n (pc := 116) cx dX3_nextToken_116 rfl rfl ?_
        refine f_bind (fun r11 hr11 => ?_)
        refine k_X3_115 (pc := 117) cx (c_X3_scanWord l G _ o0 hk_o0 r11 hr11) hk_o0 ⟨by decide, by decide⟩ ⟨Nat.zero_le _, Nat.zero_le _⟩ (Nat.le_of_ble_eq_true rfl) dX3_nextToken_117 ?_
        refine f_goto (pc := 120) (tgt := 156) cx dX3_nextToken_120 (by decide) ?_
        exact f_vret cx hr hlk dX3_nextToken_156
    · refine f_aload_n (pc := 94) cx dX3_nextToken_94 rfl rfl ?_
      refine f_bind (fun r12 hr12 => ?_)
      refine k_X3_109 (pc := 95) cx (c_X3_scanNumber l G _ o0 hk_o0 r12 hr12) hk_o0 ⟨by decide, by decide⟩ ⟨Nat.zero_le _, Nat.zero_le _⟩ (Nat.le_of_ble_eq_true rfl) dX3_nextToken_95 ?_
      refine f_goto (pc := 98) (tgt := 156) cx dX3_nextToken_98 (by decide) ?_
      exact f_vret cx hr hlk dX3_nextToken_156
  · refine f_aload_n (pc := 71) cx dX3_nextToken_71 rfl rfl ?_
    refine f_iconst (pc := 72) cx dX3_nextToken_72 kc_iconst_0 ?_
    refine u_X3_25 (pc := 73) cx hk_o0 dX3_nextToken_73 ?_
    refine f_nvh (fun h13 => ?_)
    refine f_goto (pc := 76) (tgt := 156) cx dX3_nextToken_76 (by decide) ?_
    exact f_vret cx hr hlk dX3_nextToken_156
set_option maxRecDepth 4000 in
theorem s_X3_nextToken_0 {p : Program} {l : Launch} {e : Env} {s : State} {m : MethodId} {args : Array Value} {below : List Frame} {meth : Method} {c : Code} {G : GT} (cx : CX p s m args c cX3_nextToken 1 RX3 G) (hr : meth.sig.returnType = none) (hlk : meth.locks = false) (o0 : Nat) (hk_o0 : kd o0 = 3) : ∀ (n : Nat) (q : Hp), PF p l e (rmc 6 128) s m args below meth c 1 G 0 0 (QV below G args s) 0 [some (.ref (gad G o0))] [] q (lp (b_X3_nextToken_0 o0) n q) := by
  refine f_lp (lvf := fun (q : Hp) => [some (.ref (gad G o0))]) (hf := fun (q : Hp) => q) (fun k0 hk0 q => ?_)
  show PF p l e (rmc 6 128) s m args below meth c 1 G 0 0 (QV below G args s) 0 [some (.ref (gad G o0))] [] q (b_X3_nextToken_0 o0 k0 q)
  unfold b_X3_nextToken_0
  refine f_aload_n (pc := 0) cx dX3_nextToken_0 rfl rfl ?_
  refine g_X3_22 (pc := 1) cx hk_o0 dX3_nextToken_1 ?_
  refine f_aload_n (pc := 4) cx dX3_nextToken_4 rfl rfl ?_
  refine g_X3_19 (pc := 5) cx hk_o0 dX3_nextToken_5 ?_
  refine f_icmp_ge (pc := 8) (tgt := 52) cx dX3_nextToken_8 (by decide) (fun _ => ?_) (fun _ => ?_)
  · exact f_weak (LSb.s LSb.e) (s_X3_nextToken_52 cx hr hlk _ o0 hk_o0)
  · refine f_aload_n (pc := 11) cx dX3_nextToken_11 rfl rfl ?_
    refine g_X3_9 (pc := 12) cx hk_o0 dX3_nextToken_12 ?_
    refine f_aload_n (pc := 15) cx dX3_nextToken_15 rfl rfl ?_
    refine g_X3_22 (pc := 16) cx hk_o0 dX3_nextToken_16 ?_
    refine f_need (fun c14 => ?_)
    refine f_iald (pc := 19) (n := 900) cx (kf_3_0 hk_o0) (by decide) c14 dX3_nextToken_19 ?_
    refine f_bipush (pc := 20) cx dX3_nextToken_20 kc_bipush_10 ?_
    refine f_icmp_eq (pc := 22) (tgt := 39) cx dX3_nextToken_22 (by decide) (fun _ => ?_) (fun _ => ?_)
    · refine f_aload_n (pc := 39) cx dX3_nextToken_39 rfl rfl ?_
      refine f_dup (pc := 40) cx dX3_nextToken_40 rfl ?_
      refine g_X3_22 (pc := 41) cx hk_o0 dX3_nextToken_41 ?_
      refine f_iconst (pc := 44) cx dX3_nextToken_44 kc_iconst_1 ?_
      refine f_iadd (pc := 45) cx dX3_nextToken_45 ?_
      refine u_X3_22 (pc := 46) cx hk_o0 dX3_nextToken_46 ?_
      refine f_nvh (fun h15 => ?_)
      refine f_goto (pc := 49) (tgt := 0) cx dX3_nextToken_49 (by decide) ?_
      exact f_weak (LSb.s LSb.e) (hk0 h15)
    · refine f_aload_n (pc := 25) cx dX3_nextToken_25 rfl rfl ?_
      refine g_X3_9 (pc := 26) cx hk_o0 dX3_nextToken_26 ?_
      refine f_aload_n (pc := 29) cx dX3_nextToken_29 rfl rfl ?_
      refine g_X3_22 (pc := 30) cx hk_o0 dX3_nextToken_30 ?_
      refine f_need (fun c16 => ?_)
      refine f_iald (pc := 33) (n := 900) cx (kf_3_0 hk_o0) (by decide) c16 dX3_nextToken_33 ?_
      refine f_bipush (pc := 34) cx dX3_nextToken_34 kc_bipush_32 ?_
      refine f_icmp_ne (pc := 36) (tgt := 52) cx dX3_nextToken_36 (by decide) (fun _ => ?_) (fun _ => ?_)
      · refine f_aload_n (pc := 39) cx dX3_nextToken_39 rfl rfl ?_
        refine f_dup (pc := 40) cx dX3_nextToken_40 rfl ?_
        refine g_X3_22 (pc := 41) cx hk_o0 dX3_nextToken_41 ?_
        refine f_iconst (pc := 44) cx dX3_nextToken_44 kc_iconst_1 ?_
        refine f_iadd (pc := 45) cx dX3_nextToken_45 ?_
        refine u_X3_22 (pc := 46) cx hk_o0 dX3_nextToken_46 ?_
        refine f_nvh (fun h17 => ?_)
        refine f_goto (pc := 49) (tgt := 0) cx dX3_nextToken_49 (by decide) ?_
        exact f_weak (LSb.s LSb.e) (hk0 h17)
      · exact f_weak (LSb.s LSb.e) (s_X3_nextToken_52 cx hr hlk _ o0 hk_o0)
set_option maxRecDepth 4000 in
theorem s_X3_nextToken {p : Program} {l : Launch} {e : Env} {s : State} {m : MethodId} {args : Array Value} {below : List Frame} {meth : Method} {c : Code} {G : GT} (cx : CX p s m args c cX3_nextToken 1 RX3 G) (hr : meth.sig.returnType = none) (hlk : meth.locks = false) (h : Hp) (o0 : Nat) (hk_o0 : kd o0 = 3) : PF p l e (rmc 6 128) s m args below meth c 1 G 0 0 (QV below G args s) 0 [some (.ref (gad G o0))] [] h (p_X3_nextToken h o0) := by
  unfold p_X3_nextToken
  exact f_weak (LSb.s LSb.e) (s_X3_nextToken_0 cx hr hlk o0 hk_o0 FU h)
set_option maxRecDepth 4000 in
theorem c_X3_nextToken (l : Launch) (G : GT) (h : Hp) (o0 : Nat) (hk_o0 : kd o0 = 3) : CtV l G yX3_nextToken cX3_nextToken 1 none 6 128 [.ref (gad G o0)] h (p_X3_nextToken h o0) := fun a ha => Ct.of (lv := [some (.ref (gad G o0))]) (by decide) rfl (Nat.le_of_ble_eq_true rfl) rfl (fun p e s m args below meth c cx hr hlk => s_X3_nextToken cx hr hlk h o0 hk_o0 a ha)
def q_X3_readLine_69 (h : Hp) (o0 : Nat) : Option Hp :=
  if (h o0 10) = 0 then (Option.bind (p_X3_nextToken h o0) fun r1 => if (r1 o0 4) = 3 then (nv (hp r1 o0 9 ((r1 o0 9) + 1)) fun h2 => Option.bind (p_X3_nextToken h2 o0) fun r3 => some r3) else (Option.bind (p_X3_refuse r1 o0 1) fun r4 => some r4)) else (some h)
def b_X3_readLine_36 (o0 : Nat) (x1 : Int32) (x2 : Int32) (k36 : Hp × Int32 → Option Hp) (q : Hp × Int32) : Option Hp :=
  if x2 ≤ q.2 then (q_X3_readLine_69 q.1 o0) else (if (q.1 o0 10) = 0 then (Option.bind (p_X3_nextToken q.1 o0) fun r5 => if ib x1 14 then (Option.bind (p_X3_readNumber r5 o0 ((tbv 0 (Int32.toNatClampNeg x1)) + q.2)) fun r7 => k36 (r7, q.2 + 1)) else none) else (q_X3_readLine_69 q.1 o0))
def p_X3_readLine (h : Hp) (o0 : Nat) : Option Hp :=
  if (h o0 4) = 1 then (nv (h o0 6) fun v8 => Option.bind (p_X3_checkWord h o0 v8) fun r9 => Option.bind (p_X3_put r9 o0 v8) fun r10 => Option.bind (p_X9_numbersOf r10 v8) fun r11 => lp (b_X3_readLine_36 o0 v8 r11.1) FU (r11.2, 0)) else (Option.bind (p_X3_refuse h o0 1) fun r12 => some r12)
set_option maxRecDepth 4000 in
theorem s_X3_readLine_69 {p : Program} {l : Launch} {e : Env} {s : State} {m : MethodId} {args : Array Value} {below : List Frame} {meth : Method} {c : Code} {G : GT} (cx : CX p s m args c cX3_readLine 4 RX3 G) (hr : meth.sig.returnType = none) (hlk : meth.locks = false) (h : Hp) (o0 : Nat) (hk_o0 : kd o0 = 3) : PF p l e (rmc 7 148) s m args below meth c 4 G 0 0 (QV below G args s) 69 [some (.ref (gad G o0)), none, none, none] [] h (q_X3_readLine_69 h o0) := by
  unfold q_X3_readLine_69
  refine f_aload_n (pc := 69) cx dX3_readLine_69 rfl rfl ?_
  refine g_X3_43 (pc := 70) cx hk_o0 dX3_readLine_70 ?_
  refine f_if_eq (pc := 73) (tgt := 77) cx dX3_readLine_73 (by decide) (fun _ => ?_) (fun _ => ?_)
  · refine f_aload_n (pc := 77) cx dX3_readLine_77 rfl rfl ?_
    refine f_bind (fun r1 hr1 => ?_)
    refine k_X3_71 (pc := 78) cx (c_X3_nextToken l G _ o0 hk_o0 r1 hr1) hk_o0 ⟨by decide, by decide⟩ ⟨Nat.zero_le _, Nat.zero_le _⟩ (Nat.le_of_ble_eq_true rfl) dX3_readLine_78 ?_
    refine f_aload_n (pc := 81) cx dX3_readLine_81 rfl rfl ?_
    refine g_X3_25 (pc := 82) cx hk_o0 dX3_readLine_82 ?_
    refine f_iconst (pc := 85) cx dX3_readLine_85 kc_iconst_3 ?_
    refine f_icmp_eq (pc := 86) (tgt := 95) cx dX3_readLine_86 (by decide) (fun _ => ?_) (fun _ => ?_)
    · refine f_aload_n (pc := 95) cx dX3_readLine_95 rfl rfl ?_
      refine f_dup (pc := 96) cx dX3_readLine_96 rfl ?_
      refine g_X3_40 (pc := 97) cx hk_o0 dX3_readLine_97 ?_
      refine f_iconst (pc := 100) cx dX3_readLine_100 kc_iconst_1 ?_
      refine f_iadd (pc := 101) cx dX3_readLine_101 ?_
      refine u_X3_40 (pc := 102) cx hk_o0 dX3_readLine_102 ?_
      refine f_nvh (fun h2 => ?_)
      refine f_aload_n (pc := 105) cx dX3_readLine_105 rfl rfl ?_
      refine f_bind (fun r3 hr3 => ?_)
      refine k_X3_71 (pc := 106) cx (c_X3_nextToken l G _ o0 hk_o0 r3 hr3) hk_o0 ⟨by decide, by decide⟩ ⟨Nat.zero_le _, Nat.zero_le _⟩ (Nat.le_of_ble_eq_true rfl) dX3_readLine_106 ?_
      exact f_vret cx hr hlk dX3_readLine_109
    · refine f_aload_n (pc := 89) cx dX3_readLine_89 rfl rfl ?_
      refine f_iconst (pc := 90) cx dX3_readLine_90 kc_iconst_1 ?_
      refine f_bind (fun r4 hr4 => ?_)
      refine k_X3_77 (pc := 91) cx (c_X3_refuse l G _ o0 1 hk_o0 r4 hr4) hk_o0 ⟨by decide, by decide⟩ ⟨Nat.zero_le _, Nat.zero_le _⟩ (Nat.le_of_ble_eq_true rfl) dX3_readLine_91 ?_
      exact f_vret cx hr hlk dX3_readLine_94
  · exact f_vret cx hr hlk dX3_readLine_76
set_option maxRecDepth 4000 in
theorem s_X3_readLine_36 {p : Program} {l : Launch} {e : Env} {s : State} {m : MethodId} {args : Array Value} {below : List Frame} {meth : Method} {c : Code} {G : GT} (cx : CX p s m args c cX3_readLine 4 RX3 G) (hr : meth.sig.returnType = none) (hlk : meth.locks = false) (o0 : Nat) (x1 : Int32) (x2 : Int32) (hk_o0 : kd o0 = 3) : ∀ (n : Nat) (q : Hp × Int32), PF p l e (rmc 7 148) s m args below meth c 4 G 0 0 (QV below G args s) 36 [some (.ref (gad G o0)), some (.int x1), some (.int x2), some (.int q.2)] [] q.1 (lp (b_X3_readLine_36 o0 x1 x2) n q) := by
  refine f_lp (lvf := fun (q : Hp × Int32) => [some (.ref (gad G o0)), some (.int x1), some (.int x2), some (.int q.2)]) (hf := fun (q : Hp × Int32) => q.1) (fun k36 hk36 q => ?_)
  show PF p l e (rmc 7 148) s m args below meth c 4 G 0 0 (QV below G args s) 36 [some (.ref (gad G o0)), some (.int x1), some (.int x2), some (.int q.2)] [] q.1 (b_X3_readLine_36 o0 x1 x2 k36 q)
  unfold b_X3_readLine_36
  refine f_iload_n (pc := 36) cx dX3_readLine_36 rfl rfl ?_
  refine f_iload_n (pc := 37) cx dX3_readLine_37 rfl rfl ?_
  refine f_icmp_ge (pc := 38) (tgt := 69) cx dX3_readLine_38 (by decide) (fun _ => ?_) (fun _ => ?_)
  · exact f_weak (LSb.s (LSb.n (LSb.n (LSb.n LSb.e)))) (s_X3_readLine_69 cx hr hlk _ o0 hk_o0)
  · refine f_aload_n (pc := 41) cx dX3_readLine_41 rfl rfl ?_
    refine g_X3_43 (pc := 42) cx hk_o0 dX3_readLine_42 ?_
    refine f_if_ne (pc := 45) (tgt := 69) cx dX3_readLine_45 (by decide) (fun _ => ?_) (fun _ => ?_)
    · refine f_aload_n (pc := 48) cx dX3_readLine_48 rfl rfl ?_
      refine f_bind (fun r5 hr5 => ?_)
      refine k_X3_71 (pc := 49) cx (c_X3_nextToken l G _ o0 hk_o0 r5 hr5) hk_o0 ⟨by decide, by decide⟩ ⟨Nat.zero_le _, Nat.zero_le _⟩ (Nat.le_of_ble_eq_true rfl) dX3_readLine_49 ?_
      refine f_aload_n (pc := 52) cx dX3_readLine_52 rfl rfl ?_
      refine g_X3_91 (pc := 53) cx dX3_readLine_53 ?_
      refine f_iload_n (pc := 56) cx dX3_readLine_56 rfl rfl ?_
      refine f_need (fun c6 => ?_)
      refine f_tald (pc := 57) (j := 0) cx (by decide) c6 dX3_readLine_57 ?_
      refine f_iload_n (pc := 58) cx dX3_readLine_58 rfl rfl ?_
      refine f_iadd (pc := 59) cx dX3_readLine_59 ?_
      refine f_bind (fun r7 hr7 => ?_)
      refine k_X3_94 (pc := 60) cx (c_X3_readNumber l G _ o0 ((tbv 0 (Int32.toNatClampNeg x1)) + q.2) hk_o0 r7 hr7) hk_o0 ⟨by decide, by decide⟩ ⟨Nat.zero_le _, Nat.zero_le _⟩ (Nat.le_of_ble_eq_true rfl) dX3_readLine_60 ?_
      refine f_iinc3 (pc := 63) cx dX3_readLine_63 kc_iconst_1 (by decide) rfl ?_
      refine f_goto (pc := 66) (tgt := 36) cx dX3_readLine_66 (by decide) ?_
      exact f_weak (LSb.s (LSb.s (LSb.s (LSb.s LSb.e)))) (hk36 (r7, q.2 + 1))
    · exact f_weak (LSb.s (LSb.n (LSb.n (LSb.n LSb.e)))) (s_X3_readLine_69 cx hr hlk _ o0 hk_o0)
set_option maxRecDepth 4000 in
theorem s_X3_readLine {p : Program} {l : Launch} {e : Env} {s : State} {m : MethodId} {args : Array Value} {below : List Frame} {meth : Method} {c : Code} {G : GT} (cx : CX p s m args c cX3_readLine 4 RX3 G) (hr : meth.sig.returnType = none) (hlk : meth.locks = false) (h : Hp) (o0 : Nat) (hk_o0 : kd o0 = 3) : PF p l e (rmc 7 148) s m args below meth c 4 G 0 0 (QV below G args s) 0 [some (.ref (gad G o0)), none, none, none] [] h (p_X3_readLine h o0) := by
  unfold p_X3_readLine
  refine f_aload_n (pc := 0) cx dX3_readLine_0 rfl rfl ?_
  refine g_X3_25 (pc := 1) cx hk_o0 dX3_readLine_1 ?_
  refine f_iconst (pc := 4) cx dX3_readLine_4 kc_iconst_1 ?_
  refine f_icmp_eq (pc := 5) (tgt := 14) cx dX3_readLine_5 (by decide) (fun _ => ?_) (fun _ => ?_)
  · refine f_aload_n (pc := 14) cx dX3_readLine_14 rfl rfl ?_
    refine g_X3_31 (pc := 15) cx hk_o0 dX3_readLine_15 ?_
    refine f_nvi (fun v8 => ?_)
    refine f_istore1 (pc := 18) cx dX3_readLine_18 (by decide) rfl ?_
    refine f_aload_n (pc := 19) cx dX3_readLine_19 rfl rfl ?_
    refine f_iload_n (pc := 20) cx dX3_readLine_20 rfl rfl ?_
    refine f_bind (fun r9 hr9 => ?_)
    refine k_X3_81 (pc := 21) cx (c_X3_checkWord l G _ o0 v8 hk_o0 r9 hr9) hk_o0 ⟨by decide, by decide⟩ ⟨Nat.zero_le _, Nat.zero_le _⟩ (Nat.le_of_ble_eq_true rfl) dX3_readLine_21 ?_
    refine f_aload_n (pc := 24) cx dX3_readLine_24 rfl rfl ?_
    refine f_iload_n (pc := 25) cx dX3_readLine_25 rfl rfl ?_
    refine f_bind (fun r10 hr10 => ?_)
    refine k_X3_84 (pc := 26) cx (c_X3_put l G _ o0 v8 hk_o0 r10 hr10) hk_o0 ⟨by decide, by decide⟩ ⟨Nat.zero_le _, Nat.zero_le _⟩ (Nat.le_of_ble_eq_true rfl) dX3_readLine_26 ?_
    refine f_iload_n (pc := 29) cx dX3_readLine_29 rfl rfl ?_
    refine f_bind (fun r11 hr11 => ?_)
    refine k_X3_87 (pc := 30) cx (c_X9_numbersOf l G _ v8 r11 hr11) ⟨by decide, by decide⟩ ⟨Nat.zero_le _, Nat.zero_le _⟩ (Nat.le_of_ble_eq_true rfl) dX3_readLine_30 ?_
    refine f_istore2 (pc := 33) cx dX3_readLine_33 (by decide) rfl ?_
    refine f_iconst (pc := 34) cx dX3_readLine_34 kc_iconst_0 ?_
    refine f_istore3 (pc := 35) cx dX3_readLine_35 (by decide) rfl ?_
    exact f_weak (LSb.s (LSb.s (LSb.s (LSb.s LSb.e)))) (s_X3_readLine_36 cx hr hlk o0 v8 r11.1 hk_o0 FU (r11.2, 0))
  · refine f_aload_n (pc := 8) cx dX3_readLine_8 rfl rfl ?_
    refine f_iconst (pc := 9) cx dX3_readLine_9 kc_iconst_1 ?_
    refine f_bind (fun r12 hr12 => ?_)
    refine k_X3_77 (pc := 10) cx (c_X3_refuse l G _ o0 1 hk_o0 r12 hr12) hk_o0 ⟨by decide, by decide⟩ ⟨Nat.zero_le _, Nat.zero_le _⟩ (Nat.le_of_ble_eq_true rfl) dX3_readLine_10 ?_
    exact f_vret cx hr hlk dX3_readLine_13
set_option maxRecDepth 4000 in
theorem c_X3_readLine (l : Launch) (G : GT) (h : Hp) (o0 : Nat) (hk_o0 : kd o0 = 3) : CtV l G yX3_readLine cX3_readLine 4 none 7 148 [.ref (gad G o0)] h (p_X3_readLine h o0) := fun a ha => Ct.of (lv := [some (.ref (gad G o0)), none, none, none]) (by decide) rfl (Nat.le_of_ble_eq_true rfl) rfl (fun p e s m args below meth c cx hr hlk => s_X3_readLine cx hr hlk h o0 hk_o0 a ha)
def b_X3_read_62 (o0 : Nat) (k62 : Hp × Int32 → Option Hp) (q : Hp × Int32) : Option Hp :=
  if (q.1 o0 2) < q.2 then (some q.1) else (if (q.1 o0 4) = 0 then (some q.1) else (if (q.1 o0 10) = 0 then (Option.bind (p_X3_readLine q.1 o0) fun r1 => k62 (r1, q.2 + 1)) else (some q.1)))
def p_X3_read (h : Hp) (o0 : Nat) (x1 : Int32) : Option Hp :=
  nv (hp h o0 2 (if 900 < x1 then 900 else x1)) fun h2 => nv (hp h2 o0 3 0) fun h3 => nv (hp h3 o0 8 0) fun h4 => nv (hp h4 o0 9 0) fun h5 => nv (hp h5 o0 10 0) fun h6 => nv (hp h6 o0 11 (-1)) fun h7 => nv (hp h7 o0 12 0) fun h8 => nv (hp h8 o0 13 0) fun h9 => nv (hp h9 o0 14 0) fun h10 => nv (hp h10 o0 16 0) fun h11 => Option.bind (p_X3_nextToken h11 o0) fun r12 => lp (b_X3_read_62 o0) FU (r12, 0)
set_option maxRecDepth 4000 in
theorem s_X3_read_62 {p : Program} {l : Launch} {e : Env} {s : State} {m : MethodId} {args : Array Value} {below : List Frame} {meth : Method} {c : Code} {G : GT} (cx : CX p s m args c cX3_read 3 RX3 G) (hr : meth.sig.returnType = none) (hlk : meth.locks = false) (o0 : Nat) (hk_o0 : kd o0 = 3) : ∀ (n : Nat) (q : Hp × Int32), PF p l e (rmc 8 171) s m args below meth c 3 G 0 0 (QV below G args s) 62 [some (.ref (gad G o0)), none, some (.int q.2)] [] q.1 (lp (b_X3_read_62 o0) n q) := by
  refine f_lp (lvf := fun (q : Hp × Int32) => [some (.ref (gad G o0)), none, some (.int q.2)]) (hf := fun (q : Hp × Int32) => q.1) (fun k62 hk62 q => ?_)
  show PF p l e (rmc 8 171) s m args below meth c 3 G 0 0 (QV below G args s) 62 [some (.ref (gad G o0)), none, some (.int q.2)] [] q.1 (b_X3_read_62 o0 k62 q)
  unfold b_X3_read_62
  refine f_iload_n (pc := 62) cx dX3_read_62 rfl rfl ?_
  refine f_aload_n (pc := 63) cx dX3_read_63 rfl rfl ?_
  refine g_X3_19 (pc := 64) cx hk_o0 dX3_read_64 ?_
  refine f_icmp_gt (pc := 67) (tgt := 94) cx dX3_read_67 (by decide) (fun _ => ?_) (fun _ => ?_)
  · exact f_vret cx hr hlk dX3_read_94
  · refine f_aload_n (pc := 70) cx dX3_read_70 rfl rfl ?_
    refine g_X3_25 (pc := 71) cx hk_o0 dX3_read_71 ?_
    refine f_if_eq (pc := 74) (tgt := 94) cx dX3_read_74 (by decide) (fun _ => ?_) (fun _ => ?_)
    · exact f_vret cx hr hlk dX3_read_94
    · refine f_aload_n (pc := 77) cx dX3_read_77 rfl rfl ?_
      refine g_X3_43 (pc := 78) cx hk_o0 dX3_read_78 ?_
      refine f_if_ne (pc := 81) (tgt := 94) cx dX3_read_81 (by decide) (fun _ => ?_) (fun _ => ?_)
      · refine f_aload_n (pc := 84) cx dX3_read_84 rfl rfl ?_
        refine f_bind (fun r1 hr1 => ?_)
        refine k_X3_74 (pc := 85) cx (c_X3_readLine l G _ o0 hk_o0 r1 hr1) hk_o0 ⟨by decide, by decide⟩ ⟨Nat.zero_le _, Nat.zero_le _⟩ (Nat.le_of_ble_eq_true rfl) dX3_read_85 ?_
        refine f_iinc2 (pc := 88) cx dX3_read_88 kc_iconst_1 (by decide) rfl ?_
        refine f_goto (pc := 91) (tgt := 62) cx dX3_read_91 (by decide) ?_
        exact f_weak (LSb.s (LSb.n (LSb.s LSb.e))) (hk62 (r1, q.2 + 1))
      · exact f_vret cx hr hlk dX3_read_94
set_option maxRecDepth 4000 in
theorem s_X3_read {p : Program} {l : Launch} {e : Env} {s : State} {m : MethodId} {args : Array Value} {below : List Frame} {meth : Method} {c : Code} {G : GT} (cx : CX p s m args c cX3_read 3 RX3 G) (hr : meth.sig.returnType = none) (hlk : meth.locks = false) (h : Hp) (o0 : Nat) (x1 : Int32) (hk_o0 : kd o0 = 3) : PF p l e (rmc 8 171) s m args below meth c 3 G 0 0 (QV below G args s) 0 [some (.ref (gad G o0)), some (.int x1), none] [] h (p_X3_read h o0 x1) := by
  unfold p_X3_read
  refine f_aload_n (pc := 0) cx dX3_read_0 rfl rfl ?_
  refine f_iload_n (pc := 1) cx dX3_read_1 rfl rfl ?_
  refine f_sipush (pc := 2) cx dX3_read_2 kc_sipush_900 ?_
  refine k_X3_65 (pc := 5) cx ⟨by decide, by decide⟩ ⟨Nat.zero_le _, Nat.zero_le _⟩ (Nat.le_of_ble_eq_true rfl) dX3_read_5 ?_
  refine u_X3_19 (pc := 8) cx hk_o0 dX3_read_8 ?_
  refine f_nvh (fun h2 => ?_)
  refine f_aload_n (pc := 11) cx dX3_read_11 rfl rfl ?_
  refine f_iconst (pc := 12) cx dX3_read_12 kc_iconst_0 ?_
  refine u_X3_22 (pc := 13) cx hk_o0 dX3_read_13 ?_
  refine f_nvh (fun h3 => ?_)
  refine f_aload_n (pc := 16) cx dX3_read_16 rfl rfl ?_
  refine f_iconst (pc := 17) cx dX3_read_17 kc_iconst_0 ?_
  refine u_X3_37 (pc := 18) cx hk_o0 dX3_read_18 ?_
  refine f_nvh (fun h4 => ?_)
  refine f_aload_n (pc := 21) cx dX3_read_21 rfl rfl ?_
  refine f_iconst (pc := 22) cx dX3_read_22 kc_iconst_0 ?_
  refine u_X3_40 (pc := 23) cx hk_o0 dX3_read_23 ?_
  refine f_nvh (fun h5 => ?_)
  refine f_aload_n (pc := 26) cx dX3_read_26 rfl rfl ?_
  refine f_iconst (pc := 27) cx dX3_read_27 kc_iconst_0 ?_
  refine u_X3_43 (pc := 28) cx hk_o0 dX3_read_28 ?_
  refine f_nvh (fun h6 => ?_)
  refine f_aload_n (pc := 31) cx dX3_read_31 rfl rfl ?_
  refine f_iconst (pc := 32) cx dX3_read_32 kc_iconst_m1 ?_
  refine u_X3_46 (pc := 33) cx hk_o0 dX3_read_33 ?_
  refine f_nvh (fun h7 => ?_)
  refine f_aload_n (pc := 36) cx dX3_read_36 rfl rfl ?_
  refine f_iconst (pc := 37) cx dX3_read_37 kc_iconst_0 ?_
  refine u_X3_49 (pc := 38) cx hk_o0 dX3_read_38 ?_
  refine f_nvh (fun h8 => ?_)
  refine f_aload_n (pc := 41) cx dX3_read_41 rfl rfl ?_
  refine f_iconst (pc := 42) cx dX3_read_42 kc_iconst_0 ?_
  refine u_X3_52 (pc := 43) cx hk_o0 dX3_read_43 ?_
  refine f_nvh (fun h9 => ?_)
  refine f_aload_n (pc := 46) cx dX3_read_46 rfl rfl ?_
  refine f_iconst (pc := 47) cx dX3_read_47 kc_iconst_0 ?_
  refine u_X3_55 (pc := 48) cx hk_o0 dX3_read_48 ?_
  refine f_nvh (fun h10 => ?_)
  refine f_aload_n (pc := 51) cx dX3_read_51 rfl rfl ?_
  refine f_iconst (pc := 52) cx dX3_read_52 kc_iconst_0 ?_
  refine u_X3_61 (pc := 53) cx hk_o0 bb_0 dX3_read_53 ?_
  refine f_nvh (fun h11 => ?_)
  refine f_aload_n (pc := 56) cx dX3_read_56 rfl rfl ?_
  refine f_bind (fun r12 hr12 => ?_)
  refine k_X3_71 (pc := 57) cx (c_X3_nextToken l G _ o0 hk_o0 r12 hr12) hk_o0 ⟨by decide, by decide⟩ ⟨Nat.zero_le _, Nat.zero_le _⟩ (Nat.le_of_ble_eq_true rfl) dX3_read_57 ?_
  refine f_iconst (pc := 60) cx dX3_read_60 kc_iconst_0 ?_
  refine f_istore2 (pc := 61) cx dX3_read_61 (by decide) rfl ?_
  exact f_weak (LSb.s (LSb.n (LSb.s LSb.e))) (s_X3_read_62 cx hr hlk o0 hk_o0 FU (r12, 0))
set_option maxRecDepth 4000 in
theorem c_X3_read (l : Launch) (G : GT) (h : Hp) (o0 : Nat) (x1 : Int32) (hk_o0 : kd o0 = 3) : CtV l G yX3_read cX3_read 3 none 8 171 [.ref (gad G o0), .int x1] h (p_X3_read h o0 x1) := fun a ha => Ct.of (lv := [some (.ref (gad G o0)), some (.int x1), none]) (by decide) rfl (Nat.le_of_ble_eq_true rfl) rfl (fun p e s m args below meth c cx hr hlk => s_X3_read cx hr hlk h o0 x1 hk_o0 a ha)
def p_X9_text (h : Hp) (o0 : Nat) (x1 : Int32) : Option (Int32 × Hp) :=
  if x1 < 0 then (some ((-2), h)) else (if x1 ≤ (h (o0 + 1) 1) then (Option.bind (p_X3_read h (o0 + 1) x1) fun r1 => nv (hp r1 (o0 + 1) 1 0) fun h2 => if (h2 (o0 + 1) 10) = 0 then (Option.bind (p_X8_clear h2 (o0 + 10)) fun r3 => Option.bind (p_X9_perform r3 o0) fun r4 => some (r4 (o0 + 1) 9, r4)) else (some ((-1), h2))) else (some ((-2), h)))
set_option maxRecDepth 4000 in
theorem s_X9_text {p : Program} {l : Launch} {e : Env} {s : State} {m : MethodId} {args : Array Value} {below : List Frame} {meth : Method} {c : Code} {G : GT} (cx : CX p s m args c cX9_text 2 RX9 G) (hr : meth.sig.returnType = (some .int)) (hlk : meth.locks = false) (h : Hp) (o0 : Nat) (x1 : Int32) (hk_o0 : kd o0 = 8) : PF p l e (rmc 9 193) s m args below meth c 2 G 0 0 (QI below G args s) 0 [some (.ref (gad G o0)), some (.int x1)] [] h (p_X9_text h o0 x1) := by
  unfold p_X9_text
  refine f_iload_n (pc := 0) cx dX9_text_0 rfl rfl ?_
  refine f_if_lt (pc := 1) (tgt := 15) cx dX9_text_1 (by decide) (fun _ => ?_) (fun _ => ?_)
  · refine f_bipush (pc := 15) cx dX9_text_15 kc_bipush_m2 ?_
    exact f_iret cx hr hlk rfl dX9_text_17
  · refine f_iload_n (pc := 4) cx dX9_text_4 rfl rfl ?_
    refine f_aload_n (pc := 5) cx dX9_text_5 rfl rfl ?_
    refine g_X9_10 (pc := 6) cx hk_o0 dX9_text_6 ?_
    refine g_X9_30 (pc := 9) cx (kf_8_0 hk_o0) dX9_text_9 ?_
    refine f_icmp_le (pc := 12) (tgt := 18) cx dX9_text_12 (by decide) (fun _ => ?_) (fun _ => ?_)
    · refine f_aload_n (pc := 18) cx dX9_text_18 rfl rfl ?_
      refine g_X9_10 (pc := 19) cx hk_o0 dX9_text_19 ?_
      refine f_iload_n (pc := 22) cx dX9_text_22 rfl rfl ?_
      refine f_bind (fun r1 hr1 => ?_)
      refine k_X9_38 (pc := 23) cx (c_X3_read l G _ (o0 + 1) x1 (kf_8_0 hk_o0) r1 hr1) (kf_8_0 hk_o0) ⟨by decide, by decide⟩ ⟨Nat.zero_le _, Nat.zero_le _⟩ (Nat.le_of_ble_eq_true rfl) dX9_text_23 ?_
      refine f_aload_n (pc := 26) cx dX9_text_26 rfl rfl ?_
      refine g_X9_10 (pc := 27) cx hk_o0 dX9_text_27 ?_
      refine f_iconst (pc := 30) cx dX9_text_30 kc_iconst_0 ?_
      refine u_X9_30 (pc := 31) cx (kf_8_0 hk_o0) dX9_text_31 ?_
      refine f_nvh (fun h2 => ?_)
      refine f_aload_n (pc := 34) cx dX9_text_34 rfl rfl ?_
      refine g_X9_10 (pc := 35) cx hk_o0 dX9_text_35 ?_
      refine g_X9_41 (pc := 38) cx (kf_8_0 hk_o0) dX9_text_38 ?_
      refine f_if_eq (pc := 41) (tgt := 46) cx dX9_text_41 (by decide) (fun _ => ?_) (fun _ => ?_)
      · refine f_aload_n (pc := 46) cx dX9_text_46 rfl rfl ?_
        refine g_X9_19 (pc := 47) cx hk_o0 dX9_text_47 ?_
        refine f_bind (fun r3 hr3 => ?_)
        refine k_X9_44 (pc := 50) cx (c_X8_clear l G _ (o0 + 10) (kf_8_1 hk_o0) r3 hr3) (kf_8_1 hk_o0) ⟨by decide, by decide⟩ ⟨Nat.zero_le _, Nat.zero_le _⟩ (Nat.le_of_ble_eq_true rfl) dX9_text_50 ?_
        refine f_aload_n (pc := 53) cx dX9_text_53 rfl rfl ?_
        refine f_bind (fun r4 hr4 => ?_)
        refine k_X9_47 (pc := 54) cx (c_X9_perform l G _ o0 hk_o0 r4 hr4) hk_o0 ⟨by decide, by decide⟩ ⟨Nat.zero_le _, Nat.zero_le _⟩ (Nat.le_of_ble_eq_true rfl) dX9_text_54 ?_
        refine f_aload_n (pc := 57) cx dX9_text_57 rfl rfl ?_
        refine g_X9_10 (pc := 58) cx hk_o0 dX9_text_58 ?_
        refine g_X9_50 (pc := 61) cx (kf_8_0 hk_o0) dX9_text_61 ?_
        exact f_iret cx hr hlk rfl dX9_text_64
      · refine f_iconst (pc := 44) cx dX9_text_44 kc_iconst_m1 ?_
        exact f_iret cx hr hlk rfl dX9_text_45
    · refine f_bipush (pc := 15) cx dX9_text_15 kc_bipush_m2 ?_
      exact f_iret cx hr hlk rfl dX9_text_17
set_option maxRecDepth 4000 in
theorem c_X9_text (l : Launch) (G : GT) (h : Hp) (o0 : Nat) (x1 : Int32) (hk_o0 : kd o0 = 8) : CtI l G yX9_text cX9_text 2 (some .int) 9 193 [.ref (gad G o0), .int x1] h (p_X9_text h o0 x1) := fun a ha => Ct.of (lv := [some (.ref (gad G o0)), some (.int x1)]) (by decide) rfl (Nat.le_of_ble_eq_true rfl) rfl (fun p e s m args below meth c cx hr hlk => s_X9_text cx hr hlk h o0 x1 hk_o0 a ha)
