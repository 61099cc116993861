theorem kc_bipush_8 : (Int8.ofInt (8)).toInt32 = 8 := by decide
theorem kc_bipush_9 : (Int8.ofInt (9)).toInt32 = 9 := by decide
theorem kc_bipush_10 : (Int8.ofInt (10)).toInt32 = 10 := by decide
theorem kc_bipush_24 : (Int8.ofInt (24)).toInt32 = 24 := by decide
theorem kc_bipush_48 : (Int8.ofInt (48)).toInt32 = 48 := by decide
theorem kc_bipush_57 : (Int8.ofInt (57)).toInt32 = 57 := by decide
theorem kc_bipush_97 : (Int8.ofInt (97)).toInt32 = 97 := by decide
theorem kc_bipush_122 : (Int8.ofInt (122)).toInt32 = 122 := by decide
theorem kc_iconst_m8 : Int32.ofInt (-8) = (-8) := by decide
theorem kc_sipush_255 : (Int16.ofInt (255)).toInt32 = 255 := by decide
theorem kc_sipush_900 : (Int16.ofInt (900)).toInt32 = 900 := by decide
theorem dX3_append_0 : decode cX3_append 0 = .ok (.bipush 24, 2) := by decide +kernel
theorem dX3_append_2 : decode cX3_append 2 = .ok (.istore_n 2, 1) := by decide +kernel
theorem dX3_append_3 : decode cX3_append 3 = .ok (.iload_n 2, 1) := by decide +kernel
theorem dX3_append_4 : decode cX3_append 4 = .ok (.ifCond .lt 45, 3) := by decide +kernel
theorem dX3_append_7 : decode cX3_append 7 = .ok (.aload_n 0, 1) := by decide +kernel
theorem dX3_append_8 : decode cX3_append 8 = .ok (.getfield 15, 3) := by decide +kernel
theorem dX3_append_11 : decode cX3_append 11 = .ok (.sipush 900, 3) := by decide +kernel
theorem dX3_append_14 : decode cX3_append 14 = .ok (.if_icmp .ge 35, 3) := by decide +kernel
theorem dX3_append_17 : decode cX3_append 17 = .ok (.aload_n 0, 1) := by decide +kernel
theorem dX3_append_18 : decode cX3_append 18 = .ok (.getfield 9, 3) := by decide +kernel
theorem dX3_append_21 : decode cX3_append 21 = .ok (.aload_n 0, 1) := by decide +kernel
theorem dX3_append_22 : decode cX3_append 22 = .ok (.getfield 15, 3) := by decide +kernel
theorem dX3_append_25 : decode cX3_append 25 = .ok (.iload_n 1, 1) := by decide +kernel
theorem dX3_append_26 : decode cX3_append 26 = .ok (.iload_n 2, 1) := by decide +kernel
theorem dX3_append_27 : decode cX3_append 27 = .ok (.iushr, 1) := by decide +kernel
theorem dX3_append_28 : decode cX3_append 28 = .ok (.sipush 255, 3) := by decide +kernel
theorem dX3_append_31 : decode cX3_append 31 = .ok (.iand, 1) := by decide +kernel
theorem dX3_append_32 : decode cX3_append 32 = .ok (.iastore, 1) := by decide +kernel
theorem dX3_append_33 : decode cX3_append 33 = .ok (.aload_n 0, 1) := by decide +kernel
theorem dX3_append_34 : decode cX3_append 34 = .ok (.dup, 1) := by decide +kernel
theorem dX3_append_35 : decode cX3_append 35 = .ok (.getfield 15, 3) := by decide +kernel
theorem dX3_append_38 : decode cX3_append 38 = .ok (.iconst 1, 1) := by decide +kernel
theorem dX3_append_39 : decode cX3_append 39 = .ok (.iadd, 1) := by decide +kernel
theorem dX3_append_40 : decode cX3_append 40 = .ok (.putfield 15, 3) := by decide +kernel
theorem dX3_append_43 : decode cX3_append 43 = .ok (.iinc 2 (-8), 3) := by decide +kernel
theorem dX3_append_46 : decode cX3_append 46 = .ok (.goto (-43), 3) := by decide +kernel
theorem dX3_append_49 : decode cX3_append 49 = .ok (.return_, 1) := by decide +kernel
theorem dX3_orderAt_0 : decode cX3_orderAt 0 = .ok (.iload_n 1, 1) := by decide +kernel
theorem dX3_orderAt_1 : decode cX3_orderAt 1 = .ok (.ifCond .lt 27, 3) := by decide +kernel
theorem dX3_orderAt_4 : decode cX3_orderAt 4 = .ok (.iload_n 1, 1) := by decide +kernel
theorem dX3_orderAt_5 : decode cX3_orderAt 5 = .ok (.aload_n 0, 1) := by decide +kernel
theorem dX3_orderAt_6 : decode cX3_orderAt 6 = .ok (.getfield 37, 3) := by decide +kernel
theorem dX3_orderAt_9 : decode cX3_orderAt 9 = .ok (.if_icmp .ge 19, 3) := by decide +kernel
theorem dX3_orderAt_12 : decode cX3_orderAt 12 = .ok (.iload_n 1, 1) := by decide +kernel
theorem dX3_orderAt_13 : decode cX3_orderAt 13 = .ok (.sipush 900, 3) := by decide +kernel
theorem dX3_orderAt_16 : decode cX3_orderAt 16 = .ok (.if_icmp .ge 12, 3) := by decide +kernel
theorem dX3_orderAt_19 : decode cX3_orderAt 19 = .ok (.aload_n 0, 1) := by decide +kernel
theorem dX3_orderAt_20 : decode cX3_orderAt 20 = .ok (.getfield 34, 3) := by decide +kernel
theorem dX3_orderAt_23 : decode cX3_orderAt 23 = .ok (.iload_n 1, 1) := by decide +kernel
theorem dX3_orderAt_24 : decode cX3_orderAt 24 = .ok (.iaload, 1) := by decide +kernel
theorem dX3_orderAt_25 : decode cX3_orderAt 25 = .ok (.goto 4, 3) := by decide +kernel
theorem dX3_orderAt_28 : decode cX3_orderAt 28 = .ok (.iconst (-1), 1) := by decide +kernel
theorem dX3_orderAt_29 : decode cX3_orderAt 29 = .ok (.ireturn, 1) := by decide +kernel
theorem dX3_isToldKey_0 : decode cX3_isToldKey 0 = .ok (.aload_n 0, 1) := by decide +kernel
theorem dX3_isToldKey_1 : decode cX3_isToldKey 1 = .ok (.getfield 55, 3) := by decide +kernel
theorem dX3_isToldKey_4 : decode cX3_isToldKey 4 = .ok (.iconst 4, 1) := by decide +kernel
theorem dX3_isToldKey_5 : decode cX3_isToldKey 5 = .ok (.invokestatic 65, 3) := by decide +kernel
theorem dX3_isToldKey_8 : decode cX3_isToldKey 8 = .ok (.iconst 1, 1) := by decide +kernel
theorem dX3_isToldKey_9 : decode cX3_isToldKey 9 = .ok (.isub, 1) := by decide +kernel
theorem dX3_isToldKey_10 : decode cX3_isToldKey 10 = .ok (.istore_n 1, 1) := by decide +kernel
theorem dX3_isToldKey_11 : decode cX3_isToldKey 11 = .ok (.iconst 0, 1) := by decide +kernel
theorem dX3_isToldKey_12 : decode cX3_isToldKey 12 = .ok (.istore_n 2, 1) := by decide +kernel
theorem dX3_isToldKey_13 : decode cX3_isToldKey 13 = .ok (.iload_n 2, 1) := by decide +kernel
theorem dX3_isToldKey_14 : decode cX3_isToldKey 14 = .ok (.iload_n 1, 1) := by decide +kernel
theorem dX3_isToldKey_15 : decode cX3_isToldKey 15 = .ok (.if_icmp .ge 24, 3) := by decide +kernel
theorem dX3_isToldKey_18 : decode cX3_isToldKey 18 = .ok (.aload_n 0, 1) := by decide +kernel
theorem dX3_isToldKey_19 : decode cX3_isToldKey 19 = .ok (.getfield 58, 3) := by decide +kernel
theorem dX3_isToldKey_22 : decode cX3_isToldKey 22 = .ok (.iload_n 2, 1) := by decide +kernel
theorem dX3_isToldKey_23 : decode cX3_isToldKey 23 = .ok (.iaload, 1) := by decide +kernel
theorem dX3_isToldKey_24 : decode cX3_isToldKey 24 = .ok (.aload_n 0, 1) := by decide +kernel
theorem dX3_isToldKey_25 : decode cX3_isToldKey 25 = .ok (.getfield 31, 3) := by decide +kernel
theorem dX3_isToldKey_28 : decode cX3_isToldKey 28 = .ok (.if_icmp .ne 5, 3) := by decide +kernel
theorem dX3_isToldKey_31 : decode cX3_isToldKey 31 = .ok (.iconst 1, 1) := by decide +kernel
theorem dX3_isToldKey_32 : decode cX3_isToldKey 32 = .ok (.ireturn, 1) := by decide +kernel
theorem dX3_isToldKey_33 : decode cX3_isToldKey 33 = .ok (.iinc 2 1, 3) := by decide +kernel
theorem dX3_isToldKey_36 : decode cX3_isToldKey 36 = .ok (.goto (-23), 3) := by decide +kernel
theorem dX3_isToldKey_39 : decode cX3_isToldKey 39 = .ok (.iload_n 1, 1) := by decide +kernel
theorem dX3_isToldKey_40 : decode cX3_isToldKey 40 = .ok (.ifCond .lt 13, 3) := by decide +kernel
theorem dX3_isToldKey_43 : decode cX3_isToldKey 43 = .ok (.aload_n 0, 1) := by decide +kernel
theorem dX3_isToldKey_44 : decode cX3_isToldKey 44 = .ok (.getfield 58, 3) := by decide +kernel
theorem dX3_isToldKey_47 : decode cX3_isToldKey 47 = .ok (.iload_n 1, 1) := by decide +kernel
theorem dX3_isToldKey_48 : decode cX3_isToldKey 48 = .ok (.aload_n 0, 1) := by decide +kernel
theorem dX3_isToldKey_49 : decode cX3_isToldKey 49 = .ok (.getfield 31, 3) := by decide +kernel
theorem dX3_isToldKey_52 : decode cX3_isToldKey 52 = .ok (.iastore, 1) := by decide +kernel
theorem dX3_isToldKey_53 : decode cX3_isToldKey 53 = .ok (.iconst 0, 1) := by decide +kernel
theorem dX3_isToldKey_54 : decode cX3_isToldKey 54 = .ok (.ireturn, 1) := by decide +kernel
theorem dX3_put_0 : decode cX3_put 0 = .ok (.aload_n 0, 1) := by decide +kernel
theorem dX3_put_1 : decode cX3_put 1 = .ok (.getfield 37, 3) := by decide +kernel
theorem dX3_put_4 : decode cX3_put 4 = .ok (.sipush 900, 3) := by decide +kernel
theorem dX3_put_7 : decode cX3_put 7 = .ok (.if_icmp .ge 23, 3) := by decide +kernel
theorem dX3_put_10 : decode cX3_put 10 = .ok (.aload_n 0, 1) := by decide +kernel
theorem dX3_put_11 : decode cX3_put 11 = .ok (.getfield 34, 3) := by decide +kernel
theorem dX3_put_14 : decode cX3_put 14 = .ok (.aload_n 0, 1) := by decide +kernel
theorem dX3_put_15 : decode cX3_put 15 = .ok (.getfield 37, 3) := by decide +kernel
theorem dX3_put_18 : decode cX3_put 18 = .ok (.iload_n 1, 1) := by decide +kernel
theorem dX3_put_19 : decode cX3_put 19 = .ok (.iastore, 1) := by decide +kernel
theorem dX3_put_20 : decode cX3_put 20 = .ok (.aload_n 0, 1) := by decide +kernel
theorem dX3_put_21 : decode cX3_put 21 = .ok (.dup, 1) := by decide +kernel
theorem dX3_put_22 : decode cX3_put 22 = .ok (.getfield 37, 3) := by decide +kernel
theorem dX3_put_25 : decode cX3_put 25 = .ok (.iconst 1, 1) := by decide +kernel
theorem dX3_put_26 : decode cX3_put 26 = .ok (.iadd, 1) := by decide +kernel
theorem dX3_put_27 : decode cX3_put 27 = .ok (.putfield 37, 3) := by decide +kernel
theorem dX3_put_30 : decode cX3_put 30 = .ok (.return_, 1) := by decide +kernel
theorem dX3_refuse_0 : decode cX3_refuse 0 = .ok (.aload_n 0, 1) := by decide +kernel
theorem dX3_refuse_1 : decode cX3_refuse 1 = .ok (.getfield 43, 3) := by decide +kernel
theorem dX3_refuse_4 : decode cX3_refuse 4 = .ok (.ifCond .ne 16, 3) := by decide +kernel
theorem dX3_refuse_7 : decode cX3_refuse 7 = .ok (.aload_n 0, 1) := by decide +kernel
theorem dX3_refuse_8 : decode cX3_refuse 8 = .ok (.iload_n 1, 1) := by decide +kernel
theorem dX3_refuse_9 : decode cX3_refuse 9 = .ok (.putfield 43, 3) := by decide +kernel
theorem dX3_refuse_12 : decode cX3_refuse 12 = .ok (.aload_n 0, 1) := by decide +kernel
theorem dX3_refuse_13 : decode cX3_refuse 13 = .ok (.aload_n 0, 1) := by decide +kernel
theorem dX3_refuse_14 : decode cX3_refuse 14 = .ok (.getfield 28, 3) := by decide +kernel
theorem dX3_refuse_17 : decode cX3_refuse 17 = .ok (.putfield 46, 3) := by decide +kernel
theorem dX3_refuse_20 : decode cX3_refuse 20 = .ok (.return_, 1) := by decide +kernel
theorem dX3_isDigit_0 : decode cX3_isDigit 0 = .ok (.iload_n 0, 1) := by decide +kernel
theorem dX3_isDigit_1 : decode cX3_isDigit 1 = .ok (.bipush 48, 2) := by decide +kernel
theorem dX3_isDigit_3 : decode cX3_isDigit 3 = .ok (.if_icmp .lt 13, 3) := by decide +kernel
theorem dX3_isDigit_6 : decode cX3_isDigit 6 = .ok (.iload_n 0, 1) := by decide +kernel
theorem dX3_isDigit_7 : decode cX3_isDigit 7 = .ok (.bipush 57, 2) := by decide +kernel
theorem dX3_isDigit_9 : decode cX3_isDigit 9 = .ok (.if_icmp .gt 7, 3) := by decide +kernel
theorem dX3_isDigit_12 : decode cX3_isDigit 12 = .ok (.iconst 1, 1) := by decide +kernel
theorem dX3_isDigit_13 : decode cX3_isDigit 13 = .ok (.goto 4, 3) := by decide +kernel
theorem dX3_isDigit_16 : decode cX3_isDigit 16 = .ok (.iconst 0, 1) := by decide +kernel
theorem dX3_isDigit_17 : decode cX3_isDigit 17 = .ok (.ireturn, 1) := by decide +kernel
theorem dX3_isLetter_0 : decode cX3_isLetter 0 = .ok (.iload_n 0, 1) := by decide +kernel
theorem dX3_isLetter_1 : decode cX3_isLetter 1 = .ok (.bipush 97, 2) := by decide +kernel
theorem dX3_isLetter_3 : decode cX3_isLetter 3 = .ok (.if_icmp .lt 13, 3) := by decide +kernel
theorem dX3_isLetter_6 : decode cX3_isLetter 6 = .ok (.iload_n 0, 1) := by decide +kernel
theorem dX3_isLetter_7 : decode cX3_isLetter 7 = .ok (.bipush 122, 2) := by decide +kernel
theorem dX3_isLetter_9 : decode cX3_isLetter 9 = .ok (.if_icmp .gt 7, 3) := by decide +kernel
theorem dX3_isLetter_12 : decode cX3_isLetter 12 = .ok (.iconst 1, 1) := by decide +kernel
theorem dX3_isLetter_13 : decode cX3_isLetter 13 = .ok (.goto 4, 3) := by decide +kernel
theorem dX3_isLetter_16 : decode cX3_isLetter 16 = .ok (.iconst 0, 1) := by decide +kernel
theorem dX3_isLetter_17 : decode cX3_isLetter 17 = .ok (.ireturn, 1) := by decide +kernel
theorem dX3_checkWord_0 : decode cX3_checkWord 0 = .ok (.iload_n 1, 1) := by decide +kernel
theorem dX3_checkWord_1 : decode cX3_checkWord 1 = .ok (.bipush 8, 2) := by decide +kernel
theorem dX3_checkWord_3 : decode cX3_checkWord 3 = .ok (.if_icmp .le 11, 3) := by decide +kernel
theorem dX3_checkWord_6 : decode cX3_checkWord 6 = .ok (.aload_n 0, 1) := by decide +kernel
theorem dX3_checkWord_7 : decode cX3_checkWord 7 = .ok (.iconst 1, 1) := by decide +kernel
theorem dX3_checkWord_8 : decode cX3_checkWord 8 = .ok (.putfield 61, 3) := by decide +kernel
theorem dX3_checkWord_11 : decode cX3_checkWord 11 = .ok (.goto 16, 3) := by decide +kernel
theorem dX3_checkWord_14 : decode cX3_checkWord 14 = .ok (.aload_n 0, 1) := by decide +kernel
theorem dX3_checkWord_15 : decode cX3_checkWord 15 = .ok (.getfield 61, 3) := by decide +kernel
theorem dX3_checkWord_18 : decode cX3_checkWord 18 = .ok (.ifCond .eq 9, 3) := by decide +kernel
theorem dX3_checkWord_21 : decode cX3_checkWord 21 = .ok (.aload_n 0, 1) := by decide +kernel
theorem dX3_checkWord_22 : decode cX3_checkWord 22 = .ok (.iconst 1, 1) := by decide +kernel
theorem dX3_checkWord_23 : decode cX3_checkWord 23 = .ok (.invokevirtual 77, 3) := by decide +kernel
theorem dX3_checkWord_26 : decode cX3_checkWord 26 = .ok (.return_, 1) := by decide +kernel
theorem dX3_checkWord_27 : decode cX3_checkWord 27 = .ok (.iload_n 1, 1) := by decide +kernel
theorem dX3_checkWord_28 : decode cX3_checkWord 28 = .ok (.bipush 8, 2) := by decide +kernel
theorem dX3_checkWord_30 : decode cX3_checkWord 30 = .ok (.if_icmp .ne 13, 3) := by decide +kernel
theorem dX3_checkWord_33 : decode cX3_checkWord 33 = .ok (.aload_n 0, 1) := by decide +kernel
theorem dX3_checkWord_34 : decode cX3_checkWord 34 = .ok (.dup, 1) := by decide +kernel
theorem dX3_checkWord_35 : decode cX3_checkWord 35 = .ok (.getfield 55, 3) := by decide +kernel
theorem dX3_checkWord_38 : decode cX3_checkWord 38 = .ok (.iconst 1, 1) := by decide +kernel
theorem dX3_checkWord_39 : decode cX3_checkWord 39 = .ok (.iadd, 1) := by decide +kernel
theorem dX3_checkWord_40 : decode cX3_checkWord 40 = .ok (.putfield 55, 3) := by decide +kernel
theorem dX3_checkWord_43 : decode cX3_checkWord 43 = .ok (.iload_n 1, 1) := by decide +kernel
theorem dX3_checkWord_44 : decode cX3_checkWord 44 = .ok (.bipush 9, 2) := by decide +kernel
theorem dX3_checkWord_46 : decode cX3_checkWord 46 = .ok (.if_icmp .ne 13, 3) := by decide +kernel
theorem dX3_checkWord_49 : decode cX3_checkWord 49 = .ok (.aload_n 0, 1) := by decide +kernel
theorem dX3_checkWord_50 : decode cX3_checkWord 50 = .ok (.dup, 1) := by decide +kernel
theorem dX3_checkWord_51 : decode cX3_checkWord 51 = .ok (.getfield 52, 3) := by decide +kernel
theorem dX3_checkWord_54 : decode cX3_checkWord 54 = .ok (.iconst 1, 1) := by decide +kernel
theorem dX3_checkWord_55 : decode cX3_checkWord 55 = .ok (.iadd, 1) := by decide +kernel
theorem dX3_checkWord_56 : decode cX3_checkWord 56 = .ok (.putfield 52, 3) := by decide +kernel
theorem dX3_checkWord_59 : decode cX3_checkWord 59 = .ok (.aload_n 0, 1) := by decide +kernel
theorem dX3_checkWord_60 : decode cX3_checkWord 60 = .ok (.getfield 55, 3) := by decide +kernel
theorem dX3_checkWord_63 : decode cX3_checkWord 63 = .ok (.iconst 4, 1) := by decide +kernel
theorem dX3_checkWord_64 : decode cX3_checkWord 64 = .ok (.if_icmp .gt 13, 3) := by decide +kernel
theorem dX3_checkWord_67 : decode cX3_checkWord 67 = .ok (.aload_n 0, 1) := by decide +kernel
theorem dX3_checkWord_68 : decode cX3_checkWord 68 = .ok (.getfield 52, 3) := by decide +kernel
theorem dX3_checkWord_71 : decode cX3_checkWord 71 = .ok (.sipush 200, 3) := by decide +kernel
theorem dX3_checkWord_74 : decode cX3_checkWord 74 = .ok (.if_icmp .le 8, 3) := by decide +kernel
theorem dX3_checkWord_77 : decode cX3_checkWord 77 = .ok (.aload_n 0, 1) := by decide +kernel
theorem dX3_checkWord_78 : decode cX3_checkWord 78 = .ok (.iconst 2, 1) := by decide +kernel
theorem dX3_checkWord_79 : decode cX3_checkWord 79 = .ok (.invokevirtual 77, 3) := by decide +kernel
theorem dX3_checkWord_82 : decode cX3_checkWord 82 = .ok (.iload_n 1, 1) := by decide +kernel
theorem dX3_checkWord_83 : decode cX3_checkWord 83 = .ok (.bipush 8, 2) := by decide +kernel
theorem dX3_checkWord_85 : decode cX3_checkWord 85 = .ok (.if_icmp .ge 32, 3) := by decide +kernel
theorem dX3_checkWord_88 : decode cX3_checkWord 88 = .ok (.aload_n 0, 1) := by decide +kernel
theorem dX3_checkWord_89 : decode cX3_checkWord 89 = .ok (.getfield 49, 3) := by decide +kernel
theorem dX3_checkWord_92 : decode cX3_checkWord 92 = .ok (.iload_n 1, 1) := by decide +kernel
theorem dX3_checkWord_93 : decode cX3_checkWord 93 = .ok (.ishr, 1) := by decide +kernel
theorem dX3_checkWord_94 : decode cX3_checkWord 94 = .ok (.iconst 1, 1) := by decide +kernel
theorem dX3_checkWord_95 : decode cX3_checkWord 95 = .ok (.iand, 1) := by decide +kernel
theorem dX3_checkWord_96 : decode cX3_checkWord 96 = .ok (.iconst 1, 1) := by decide +kernel
theorem dX3_checkWord_97 : decode cX3_checkWord 97 = .ok (.if_icmp .ne 8, 3) := by decide +kernel
theorem dX3_checkWord_100 : decode cX3_checkWord 100 = .ok (.aload_n 0, 1) := by decide +kernel
theorem dX3_checkWord_101 : decode cX3_checkWord 101 = .ok (.iconst 3, 1) := by decide +kernel
theorem dX3_checkWord_102 : decode cX3_checkWord 102 = .ok (.invokevirtual 77, 3) := by decide +kernel
theorem dX3_checkWord_105 : decode cX3_checkWord 105 = .ok (.aload_n 0, 1) := by decide +kernel
theorem dX3_checkWord_106 : decode cX3_checkWord 106 = .ok (.dup, 1) := by decide +kernel
theorem dX3_checkWord_107 : decode cX3_checkWord 107 = .ok (.getfield 49, 3) := by decide +kernel
theorem dX3_checkWord_110 : decode cX3_checkWord 110 = .ok (.iconst 1, 1) := by decide +kernel
theorem dX3_checkWord_111 : decode cX3_checkWord 111 = .ok (.iload_n 1, 1) := by decide +kernel
theorem dX3_checkWord_112 : decode cX3_checkWord 112 = .ok (.ishl, 1) := by decide +kernel
theorem dX3_checkWord_113 : decode cX3_checkWord 113 = .ok (.ior, 1) := by decide +kernel
theorem dX3_checkWord_114 : decode cX3_checkWord 114 = .ok (.putfield 49, 3) := by decide +kernel
theorem dX3_checkWord_117 : decode cX3_checkWord 117 = .ok (.return_, 1) := by decide +kernel
theorem dX3_readNumber_0 : decode cX3_readNumber 0 = .ok (.aload_n 0, 1) := by decide +kernel
theorem dX3_readNumber_1 : decode cX3_readNumber 1 = .ok (.getfield 25, 3) := by decide +kernel
theorem dX3_readNumber_4 : decode cX3_readNumber 4 = .ok (.iconst 2, 1) := by decide +kernel
theorem dX3_readNumber_5 : decode cX3_readNumber 5 = .ok (.if_icmp .eq 11, 3) := by decide +kernel
theorem dX3_readNumber_8 : decode cX3_readNumber 8 = .ok (.aload_n 0, 1) := by decide +kernel
theorem dX3_readNumber_9 : decode cX3_readNumber 9 = .ok (.iconst 1, 1) := by decide +kernel
theorem dX3_readNumber_10 : decode cX3_readNumber 10 = .ok (.invokevirtual 77, 3) := by decide +kernel
theorem dX3_readNumber_13 : decode cX3_readNumber 13 = .ok (.goto 40, 3) := by decide +kernel
theorem dX3_readNumber_16 : decode cX3_readNumber 16 = .ok (.iload_n 1, 1) := by decide +kernel
theorem dX3_readNumber_17 : decode cX3_readNumber 17 = .ok (.aload_n 0, 1) := by decide +kernel
theorem dX3_readNumber_18 : decode cX3_readNumber 18 = .ok (.getfield 31, 3) := by decide +kernel
theorem dX3_readNumber_21 : decode cX3_readNumber 21 = .ok (.invokestatic 97, 3) := by decide +kernel
theorem dX3_readNumber_24 : decode cX3_readNumber 24 = .ok (.ifCond .ne 11, 3) := by decide +kernel
theorem dX3_readNumber_27 : decode cX3_readNumber 27 = .ok (.aload_n 0, 1) := by decide +kernel
theorem dX3_readNumber_28 : decode cX3_readNumber 28 = .ok (.iconst 2, 1) := by decide +kernel
theorem dX3_readNumber_29 : decode cX3_readNumber 29 = .ok (.invokevirtual 77, 3) := by decide +kernel
theorem dX3_readNumber_32 : decode cX3_readNumber 32 = .ok (.goto 21, 3) := by decide +kernel
theorem dX3_readNumber_35 : decode cX3_readNumber 35 = .ok (.iload_n 1, 1) := by decide +kernel
theorem dX3_readNumber_36 : decode cX3_readNumber 36 = .ok (.bipush 8, 2) := by decide +kernel
theorem dX3_readNumber_38 : decode cX3_readNumber 38 = .ok (.if_icmp .ne 15, 3) := by decide +kernel
theorem dX3_readNumber_41 : decode cX3_readNumber 41 = .ok (.aload_n 0, 1) := by decide +kernel
theorem dX3_readNumber_42 : decode cX3_readNumber 42 = .ok (.invokevirtual 101, 3) := by decide +kernel
theorem dX3_readNumber_45 : decode cX3_readNumber 45 = .ok (.ifCond .eq 8, 3) := by decide +kernel
theorem dX3_readNumber_48 : decode cX3_readNumber 48 = .ok (.aload_n 0, 1) := by decide +kernel
theorem dX3_readNumber_49 : decode cX3_readNumber 49 = .ok (.iconst 3, 1) := by decide +kernel
theorem dX3_readNumber_50 : decode cX3_readNumber 50 = .ok (.invokevirtual 77, 3) := by decide +kernel
theorem dX3_readNumber_53 : decode cX3_readNumber 53 = .ok (.aload_n 0, 1) := by decide +kernel
theorem dX3_readNumber_54 : decode cX3_readNumber 54 = .ok (.aload_n 0, 1) := by decide +kernel
theorem dX3_readNumber_55 : decode cX3_readNumber 55 = .ok (.getfield 31, 3) := by decide +kernel
theorem dX3_readNumber_58 : decode cX3_readNumber 58 = .ok (.invokevirtual 84, 3) := by decide +kernel
theorem dX3_readNumber_61 : decode cX3_readNumber 61 = .ok (.return_, 1) := by decide +kernel
theorem dX3_scanNumber_0 : decode cX3_scanNumber 0 = .ok (.aload_n 0, 1) := by decide +kernel
theorem dX3_scanNumber_1 : decode cX3_scanNumber 1 = .ok (.iconst 2, 1) := by decide +kernel
theorem dX3_scanNumber_2 : decode cX3_scanNumber 2 = .ok (.putfield 25, 3) := by decide +kernel
theorem dX3_scanNumber_5 : decode cX3_scanNumber 5 = .ok (.aload_n 0, 1) := by decide +kernel
theorem dX3_scanNumber_6 : decode cX3_scanNumber 6 = .ok (.iconst 0, 1) := by decide +kernel
theorem dX3_scanNumber_7 : decode cX3_scanNumber 7 = .ok (.putfield 31, 3) := by decide +kernel
theorem dX3_scanNumber_10 : decode cX3_scanNumber 10 = .ok (.aload_n 0, 1) := by decide +kernel
theorem dX3_scanNumber_11 : decode cX3_scanNumber 11 = .ok (.getfield 22, 3) := by decide +kernel
theorem dX3_scanNumber_14 : decode cX3_scanNumber 14 = .ok (.aload_n 0, 1) := by decide +kernel
theorem dX3_scanNumber_15 : decode cX3_scanNumber 15 = .ok (.getfield 19, 3) := by decide +kernel
theorem dX3_scanNumber_18 : decode cX3_scanNumber 18 = .ok (.if_icmp .ge 60, 3) := by decide +kernel
theorem dX3_scanNumber_21 : decode cX3_scanNumber 21 = .ok (.aload_n 0, 1) := by decide +kernel
theorem dX3_scanNumber_22 : decode cX3_scanNumber 22 = .ok (.getfield 9, 3) := by decide +kernel
theorem dX3_scanNumber_25 : decode cX3_scanNumber 25 = .ok (.aload_n 0, 1) := by decide +kernel
theorem dX3_scanNumber_26 : decode cX3_scanNumber 26 = .ok (.getfield 22, 3) := by decide +kernel
theorem dX3_scanNumber_29 : decode cX3_scanNumber 29 = .ok (.iaload, 1) := by decide +kernel
theorem dX3_scanNumber_30 : decode cX3_scanNumber 30 = .ok (.invokestatic 105, 3) := by decide +kernel
theorem dX3_scanNumber_33 : decode cX3_scanNumber 33 = .ok (.ifCond .eq 45, 3) := by decide +kernel
theorem dX3_scanNumber_36 : decode cX3_scanNumber 36 = .ok (.aload_n 0, 1) := by decide +kernel
theorem dX3_scanNumber_37 : decode cX3_scanNumber 37 = .ok (.aload_n 0, 1) := by decide +kernel
theorem dX3_scanNumber_38 : decode cX3_scanNumber 38 = .ok (.getfield 31, 3) := by decide +kernel
theorem dX3_scanNumber_41 : decode cX3_scanNumber 41 = .ok (.bipush 10, 2) := by decide +kernel
theorem dX3_scanNumber_43 : decode cX3_scanNumber 43 = .ok (.imul, 1) := by decide +kernel
theorem dX3_scanNumber_44 : decode cX3_scanNumber 44 = .ok (.aload_n 0, 1) := by decide +kernel
theorem dX3_scanNumber_45 : decode cX3_scanNumber 45 = .ok (.getfield 9, 3) := by decide +kernel
theorem dX3_scanNumber_48 : decode cX3_scanNumber 48 = .ok (.aload_n 0, 1) := by decide +kernel
theorem dX3_scanNumber_49 : decode cX3_scanNumber 49 = .ok (.getfield 22, 3) := by decide +kernel
theorem dX3_scanNumber_52 : decode cX3_scanNumber 52 = .ok (.iaload, 1) := by decide +kernel
theorem dX3_scanNumber_53 : decode cX3_scanNumber 53 = .ok (.iadd, 1) := by decide +kernel
theorem dX3_scanNumber_54 : decode cX3_scanNumber 54 = .ok (.bipush 48, 2) := by decide +kernel
theorem dX3_scanNumber_56 : decode cX3_scanNumber 56 = .ok (.isub, 1) := by decide +kernel
theorem dX3_scanNumber_57 : decode cX3_scanNumber 57 = .ok (.ldc 118, 2) := by decide +kernel
theorem dX3_scanNumber_59 : decode cX3_scanNumber 59 = .ok (.invokestatic 65, 3) := by decide +kernel
theorem dX3_scanNumber_62 : decode cX3_scanNumber 62 = .ok (.putfield 31, 3) := by decide +kernel
theorem dX3_scanNumber_65 : decode cX3_scanNumber 65 = .ok (.aload_n 0, 1) := by decide +kernel
theorem dX3_scanNumber_66 : decode cX3_scanNumber 66 = .ok (.dup, 1) := by decide +kernel
theorem dX3_scanNumber_67 : decode cX3_scanNumber 67 = .ok (.getfield 22, 3) := by decide +kernel
theorem dX3_scanNumber_70 : decode cX3_scanNumber 70 = .ok (.iconst 1, 1) := by decide +kernel
theorem dX3_scanNumber_71 : decode cX3_scanNumber 71 = .ok (.iadd, 1) := by decide +kernel
theorem dX3_scanNumber_72 : decode cX3_scanNumber 72 = .ok (.putfield 22, 3) := by decide +kernel
theorem dX3_scanNumber_75 : decode cX3_scanNumber 75 = .ok (.goto (-65), 3) := by decide +kernel
theorem dX3_scanNumber_78 : decode cX3_scanNumber 78 = .ok (.return_, 1) := by decide +kernel
def b_X3_append_3 (o0 : Nat) (x1 : Int32) (k3 : Hp × Int32 → Option Hp) (q : Hp × Int32) : Option Hp :=
  if q.2 < 0 then (some q.1) else (if 900 ≤ (q.1 o0 1) then (some q.1) else (if ib (q.1 o0 1) 900 then (nv (hp q.1 (o0 + 1) (Int32.toNatClampNeg (q.1 o0 1)) ((((x1 : Int32).toUInt32 >>> ((q.2 : Int32).toUInt32 &&& Int32.toUInt32 31)).toInt32) &&& 255)) fun h2 => nv (hp h2 o0 1 ((h2 o0 1) + 1)) fun h3 => k3 (h3, q.2 + (-8))) else none))
def p_X3_append (h : Hp) (o0 : Nat) (x1 : Int32) : Option Hp :=
  lp (b_X3_append_3 o0 x1) FU (h, 24)
set_option maxRecDepth 4000 in
theorem s_X3_append_3 {p : Program} {l : Launch} {e : Env} {s : State} {m : MethodId} {args : Array Value} {below : List Frame} {meth : Method} {c : Code} {G : GT} (cx : CX p s m args c cX3_append 3 RX3 G) (hr : meth.sig.returnType = none) (hlk : meth.locks = false) (o0 : Nat) (x1 : Int32) (hk_o0 : kd o0 = 3) : ∀ (n : Nat) (q : Hp × Int32), PF p l e (rmc 0 0) s m args below meth c 3 G 0 0 (QV below G args s) 3 [some (.ref (gad G o0)), some (.int x1), some (.int q.2)] [] q.1 (lp (b_X3_append_3 o0 x1) n q) := by
  refine f_lp (lvf := fun (q : Hp × Int32) => [some (.ref (gad G o0)), some (.int x1), some (.int q.2)]) (hf := fun (q : Hp × Int32) => q.1) (fun k3 hk3 q => ?_)
  show PF p l e (rmc 0 0) s m args below meth c 3 G 0 0 (QV below G args s) 3 [some (.ref (gad G o0)), some (.int x1), some (.int q.2)] [] q.1 (b_X3_append_3 o0 x1 k3 q)
  unfold b_X3_append_3
  refine f_iload_n (pc := 3) cx dX3_append_3 rfl rfl ?_
  refine f_if_lt (pc := 4) (tgt := 49) cx dX3_append_4 (by decide) (fun _ => ?_) (fun _ => ?_)
  · exact f_vret cx hr hlk dX3_append_49
  · refine f_aload_n (pc := 7) cx dX3_append_7 rfl rfl ?_
    refine g_X3_15 (pc := 8) cx hk_o0 dX3_append_8 ?_
    refine f_sipush (pc := 11) cx dX3_append_11 kc_sipush_900 ?_
    refine f_icmp_ge (pc := 14) (tgt := 49) cx dX3_append_14 (by decide) (fun _ => ?_) (fun _ => ?_)
    · exact f_vret cx hr hlk dX3_append_49
    · refine f_aload_n (pc := 17) cx dX3_append_17 rfl rfl ?_
      refine g_X3_9 (pc := 18) cx hk_o0 dX3_append_18 ?_
      refine f_aload_n (pc := 21) cx dX3_append_21 rfl rfl ?_
      refine g_X3_15 (pc := 22) cx hk_o0 dX3_append_22 ?_
      refine f_iload_n (pc := 25) cx dX3_append_25 rfl rfl ?_
      refine f_iload_n (pc := 26) cx dX3_append_26 rfl rfl ?_
      refine f_iushr (pc := 27) cx dX3_append_27 ?_
      refine f_sipush (pc := 28) cx dX3_append_28 kc_sipush_255 ?_
      refine f_iand (pc := 31) cx dX3_append_31 ?_
      refine f_need (fun c1 => ?_)
      refine f_iast (pc := 32) (n := 900) cx (kf_3_0 hk_o0) (by decide) c1 dX3_append_32 ?_
      refine f_nvh (fun h2 => ?_)
      refine f_aload_n (pc := 33) cx dX3_append_33 rfl rfl ?_
      refine f_dup (pc := 34) cx dX3_append_34 rfl ?_
      refine g_X3_15 (pc := 35) cx hk_o0 dX3_append_35 ?_
      refine f_iconst (pc := 38) cx dX3_append_38 kc_iconst_1 ?_
      refine f_iadd (pc := 39) cx dX3_append_39 ?_
      refine u_X3_15 (pc := 40) cx hk_o0 dX3_append_40 ?_
      refine f_nvh (fun h3 => ?_)
      refine f_iinc2 (pc := 43) cx dX3_append_43 kc_iconst_m8 (by decide) rfl ?_
      refine f_goto (pc := 46) (tgt := 3) cx dX3_append_46 (by decide) ?_
      exact f_weak (LSb.s (LSb.s (LSb.s LSb.e))) (hk3 (h3, q.2 + (-8)))
set_option maxRecDepth 4000 in
theorem s_X3_append {p : Program} {l : Launch} {e : Env} {s : State} {m : MethodId} {args : Array Value} {below : List Frame} {meth : Method} {c : Code} {G : GT} (cx : CX p s m args c cX3_append 3 RX3 G) (hr : meth.sig.returnType = none) (hlk : meth.locks = false) (h : Hp) (o0 : Nat) (x1 : Int32) (hk_o0 : kd o0 = 3) : PF p l e (rmc 0 0) s m args below meth c 3 G 0 0 (QV below G args s) 0 [some (.ref (gad G o0)), some (.int x1), none] [] h (p_X3_append h o0 x1) := by
  unfold p_X3_append
  refine f_bipush (pc := 0) cx dX3_append_0 kc_bipush_24 ?_
  refine f_istore2 (pc := 2) cx dX3_append_2 (by decide) rfl ?_
  exact f_weak (LSb.s (LSb.s (LSb.s LSb.e))) (s_X3_append_3 cx hr hlk o0 x1 hk_o0 FU (h, 24))
set_option maxRecDepth 4000 in
theorem c_X3_append (l : Launch) (G : GT) (h : Hp) (o0 : Nat) (x1 : Int32) (hk_o0 : kd o0 = 3) : CtV l G yX3_append cX3_append 3 none 0 0 [.ref (gad G o0), .int x1] h (p_X3_append h o0 x1) := fun a ha => Ct.of (lv := [some (.ref (gad G o0)), some (.int x1), none]) (by decide) rfl (Nat.le_of_ble_eq_true rfl) rfl (fun p e s m args below meth c cx hr hlk => s_X3_append cx hr hlk h o0 x1 hk_o0 a ha)
def p_X3_orderAt (h : Hp) (o0 : Nat) (x1 : Int32) : Option (Int32 × Hp) :=
  if x1 < 0 then (some ((-1), h)) else (if (h o0 8) ≤ x1 then (some ((-1), h)) else (if 900 ≤ x1 then (some ((-1), h)) else (if ib x1 900 then (some (h (o0 + 2) (Int32.toNatClampNeg x1), h)) else none)))
set_option maxRecDepth 4000 in
theorem s_X3_orderAt {p : Program} {l : Launch} {e : Env} {s : State} {m : MethodId} {args : Array Value} {below : List Frame} {meth : Method} {c : Code} {G : GT} (cx : CX p s m args c cX3_orderAt 2 RX3 G) (hr : meth.sig.returnType = (some .int)) (hlk : meth.locks = false) (h : Hp) (o0 : Nat) (x1 : Int32) (hk_o0 : kd o0 = 3) : PF p l e (rmc 0 0) s m args below meth c 2 G 0 0 (QI below G args s) 0 [some (.ref (gad G o0)), some (.int x1)] [] h (p_X3_orderAt h o0 x1) := by
  unfold p_X3_orderAt
  refine f_iload_n (pc := 0) cx dX3_orderAt_0 rfl rfl ?_
  refine f_if_lt (pc := 1) (tgt := 28) cx dX3_orderAt_1 (by decide) (fun _ => ?_) (fun _ => ?_)
  · refine f_iconst (pc := 28) cx dX3_orderAt_28 kc_iconst_m1 ?_
    exact f_iret cx hr hlk rfl dX3_orderAt_29
  · refine f_iload_n (pc := 4) cx dX3_orderAt_4 rfl rfl ?_
    refine f_aload_n (pc := 5) cx dX3_orderAt_5 rfl rfl ?_
    refine g_X3_37 (pc := 6) cx hk_o0 dX3_orderAt_6 ?_
    refine f_icmp_ge (pc := 9) (tgt := 28) cx dX3_orderAt_9 (by decide) (fun _ => ?_) (fun _ => ?_)
    · refine f_iconst (pc := 28) cx dX3_orderAt_28 kc_iconst_m1 ?_
      exact f_iret cx hr hlk rfl dX3_orderAt_29
    · refine f_iload_n (pc := 12) cx dX3_orderAt_12 rfl rfl ?_
      refine f_sipush (pc := 13) cx dX3_orderAt_13 kc_sipush_900 ?_
      refine f_icmp_ge (pc := 16) (tgt := 28) cx dX3_orderAt_16 (by decide) (fun _ => ?_) (fun _ => ?_)
      · refine f_iconst (pc := 28) cx dX3_orderAt_28 kc_iconst_m1 ?_
        exact f_iret cx hr hlk rfl dX3_orderAt_29
      · refine f_aload_n (pc := 19) cx dX3_orderAt_19 rfl rfl ?_
        refine g_X3_34 (pc := 20) cx hk_o0 dX3_orderAt_20 ?_
        refine f_iload_n (pc := 23) cx dX3_orderAt_23 rfl rfl ?_
        refine f_need (fun c1 => ?_)
        refine f_iald (pc := 24) (n := 900) cx (kf_3_7 hk_o0) (by decide) c1 dX3_orderAt_24 ?_
        refine f_goto (pc := 25) (tgt := 29) cx dX3_orderAt_25 (by decide) ?_
        exact f_iret cx hr hlk rfl dX3_orderAt_29
set_option maxRecDepth 4000 in
theorem c_X3_orderAt (l : Launch) (G : GT) (h : Hp) (o0 : Nat) (x1 : Int32) (hk_o0 : kd o0 = 3) : CtI l G yX3_orderAt cX3_orderAt 2 (some .int) 0 0 [.ref (gad G o0), .int x1] h (p_X3_orderAt h o0 x1) := fun a ha => Ct.of (lv := [some (.ref (gad G o0)), some (.int x1)]) (by decide) rfl (Nat.le_of_ble_eq_true rfl) rfl (fun p e s m args below meth c cx hr hlk => s_X3_orderAt cx hr hlk h o0 x1 hk_o0 a ha)
def b_X3_isToldKey_13 (o0 : Nat) (x1 : Int32) (k13 : Hp × Int32 → Option (Int32 × Hp)) (q : Hp × Int32) : Option (Int32 × Hp) :=
  if x1 ≤ q.2 then (if x1 < 0 then (some (0, q.1)) else (if ib x1 4 then (nv (hp q.1 (o0 + 3) (Int32.toNatClampNeg x1) (q.1 o0 6)) fun h2 => some (0, h2)) else none)) else (if ib q.2 4 then (if (q.1 (o0 + 3) (Int32.toNatClampNeg q.2)) = (q.1 o0 6) then (some (1, q.1)) else (k13 (q.1, q.2 + 1))) else none)
def p_X3_isToldKey (h : Hp) (o0 : Nat) : Option (Int32 × Hp) :=
  nv ((if 4 < (h o0 14) then 4 else (h o0 14)) - 1) fun v4 => lp (b_X3_isToldKey_13 o0 v4) FU (h, 0)
set_option maxRecDepth 4000 in
theorem s_X3_isToldKey_13 {p : Program} {l : Launch} {e : Env} {s : State} {m : MethodId} {args : Array Value} {below : List Frame} {meth : Method} {c : Code} {G : GT} (cx : CX p s m args c cX3_isToldKey 3 RX3 G) (hr : meth.sig.returnType = (some .boolean)) (hlk : meth.locks = false) (o0 : Nat) (x1 : Int32) (hk_o0 : kd o0 = 3) : ∀ (n : Nat) (q : Hp × Int32), PF p l e (rmc 1 27) s m args below meth c 3 G 0 0 (QI below G args s) 13 [some (.ref (gad G o0)), some (.int x1), some (.int q.2)] [] q.1 (lp (b_X3_isToldKey_13 o0 x1) n q) := by
  refine f_lp (lvf := fun (q : Hp × Int32) => [some (.ref (gad G o0)), some (.int x1), some (.int q.2)]) (hf := fun (q : Hp × Int32) => q.1) (fun k13 hk13 q => ?_)
  show PF p l e (rmc 1 27) s m args below meth c 3 G 0 0 (QI below G args s) 13 [some (.ref (gad G o0)), some (.int x1), some (.int q.2)] [] q.1 (b_X3_isToldKey_13 o0 x1 k13 q)
  unfold b_X3_isToldKey_13
  refine f_iload_n (pc := 13) cx dX3_isToldKey_13 rfl rfl ?_
  refine f_iload_n (pc := 14) cx dX3_isToldKey_14 rfl rfl ?_
  refine f_icmp_ge (pc := 15) (tgt := 39) cx dX3_isToldKey_15 (by decide) (fun _ => ?_) (fun _ => ?_)
  · refine f_iload_n (pc := 39) cx dX3_isToldKey_39 rfl rfl ?_
    refine f_if_lt (pc := 40) (tgt := 53) cx dX3_isToldKey_40 (by decide) (fun _ => ?_) (fun _ => ?_)
    · refine f_iconst (pc := 53) cx dX3_isToldKey_53 kc_iconst_0 ?_
      exact f_iret cx hr hlk (bb_n bb_0).1 dX3_isToldKey_54
    · refine f_aload_n (pc := 43) cx dX3_isToldKey_43 rfl rfl ?_
      refine g_X3_58 (pc := 44) cx hk_o0 dX3_isToldKey_44 ?_
      refine f_iload_n (pc := 47) cx dX3_isToldKey_47 rfl rfl ?_
      refine f_aload_n (pc := 48) cx dX3_isToldKey_48 rfl rfl ?_
      refine g_X3_31 (pc := 49) cx hk_o0 dX3_isToldKey_49 ?_
      refine f_need (fun c1 => ?_)
      refine f_iast (pc := 52) (n := 4) cx (kf_3_15 hk_o0) (by decide) c1 dX3_isToldKey_52 ?_
      refine f_nvh (fun h2 => ?_)
      refine f_iconst (pc := 53) cx dX3_isToldKey_53 kc_iconst_0 ?_
      exact f_iret cx hr hlk (bb_n bb_0).1 dX3_isToldKey_54
  · refine f_aload_n (pc := 18) cx dX3_isToldKey_18 rfl rfl ?_
    refine g_X3_58 (pc := 19) cx hk_o0 dX3_isToldKey_19 ?_
    refine f_iload_n (pc := 22) cx dX3_isToldKey_22 rfl rfl ?_
    refine f_need (fun c3 => ?_)
    refine f_iald (pc := 23) (n := 4) cx (kf_3_15 hk_o0) (by decide) c3 dX3_isToldKey_23 ?_
    refine f_aload_n (pc := 24) cx dX3_isToldKey_24 rfl rfl ?_
    refine g_X3_31 (pc := 25) cx hk_o0 dX3_isToldKey_25 ?_
    refine f_icmp_ne (pc := 28) (tgt := 33) cx dX3_isToldKey_28 (by decide) (fun _ => ?_) (fun _ => ?_)
    · refine f_iconst (pc := 31) cx dX3_isToldKey_31 kc_iconst_1 ?_
      exact f_iret cx hr hlk (bb_n bb_1).1 dX3_isToldKey_32
    · refine f_iinc2 (pc := 33) cx dX3_isToldKey_33 kc_iconst_1 (by decide) rfl ?_
      refine f_goto (pc := 36) (tgt := 13) cx dX3_isToldKey_36 (by decide) ?_
      exact f_weak (LSb.s (LSb.s (LSb.s LSb.e))) (hk13 (q.1, q.2 + 1))
set_option maxRecDepth 4000 in
theorem s_X3_isToldKey {p : Program} {l : Launch} {e : Env} {s : State} {m : MethodId} {args : Array Value} {below : List Frame} {meth : Method} {c : Code} {G : GT} (cx : CX p s m args c cX3_isToldKey 3 RX3 G) (hr : meth.sig.returnType = (some .boolean)) (hlk : meth.locks = false) (h : Hp) (o0 : Nat) (hk_o0 : kd o0 = 3) : PF p l e (rmc 1 27) s m args below meth c 3 G 0 0 (QI below G args s) 0 [some (.ref (gad G o0)), none, none] [] h (p_X3_isToldKey h o0) := by
  unfold p_X3_isToldKey
  refine f_aload_n (pc := 0) cx dX3_isToldKey_0 rfl rfl ?_
  refine g_X3_55 (pc := 1) cx hk_o0 dX3_isToldKey_1 ?_
  refine f_iconst (pc := 4) cx dX3_isToldKey_4 kc_iconst_4 ?_
  refine k_X3_65 (pc := 5) cx ⟨by decide, by decide⟩ ⟨Nat.zero_le _, Nat.zero_le _⟩ (Nat.le_of_ble_eq_true rfl) dX3_isToldKey_5 ?_
  refine f_iconst (pc := 8) cx dX3_isToldKey_8 kc_iconst_1 ?_
  refine f_isub (pc := 9) cx dX3_isToldKey_9 ?_
  refine f_nvi (fun v4 => ?_)
  refine f_istore1 (pc := 10) cx dX3_isToldKey_10 (by decide) rfl ?_
  refine f_iconst (pc := 11) cx dX3_isToldKey_11 kc_iconst_0 ?_
  refine f_istore2 (pc := 12) cx dX3_isToldKey_12 (by decide) rfl ?_
  exact f_weak (LSb.s (LSb.s (LSb.s LSb.e))) (s_X3_isToldKey_13 cx hr hlk o0 v4 hk_o0 FU (h, 0))
set_option maxRecDepth 4000 in
theorem c_X3_isToldKey (l : Launch) (G : GT) (h : Hp) (o0 : Nat) (hk_o0 : kd o0 = 3) : CtI l G yX3_isToldKey cX3_isToldKey 3 (some .boolean) 1 27 [.ref (gad G o0)] h (p_X3_isToldKey h o0) := fun a ha => Ct.of (lv := [some (.ref (gad G o0)), none, none]) (by decide) rfl (Nat.le_of_ble_eq_true rfl) rfl (fun p e s m args below meth c cx hr hlk => s_X3_isToldKey cx hr hlk h o0 hk_o0 a ha)
def p_X3_put (h : Hp) (o0 : Nat) (x1 : Int32) : Option Hp :=
  if 900 ≤ (h o0 8) then (some h) else (if ib (h o0 8) 900 then (nv (hp h (o0 + 2) (Int32.toNatClampNeg (h o0 8)) x1) fun h2 => nv (hp h2 o0 8 ((h2 o0 8) + 1)) fun h3 => some h3) else none)
set_option maxRecDepth 4000 in
theorem s_X3_put {p : Program} {l : Launch} {e : Env} {s : State} {m : MethodId} {args : Array Value} {below : List Frame} {meth : Method} {c : Code} {G : GT} (cx : CX p s m args c cX3_put 2 RX3 G) (hr : meth.sig.returnType = none) (hlk : meth.locks = false) (h : Hp) (o0 : Nat) (x1 : Int32) (hk_o0 : kd o0 = 3) : PF p l e (rmc 0 0) s m args below meth c 2 G 0 0 (QV below G args s) 0 [some (.ref (gad G o0)), some (.int x1)] [] h (p_X3_put h o0 x1) := by
  unfold p_X3_put
  refine f_aload_n (pc := 0) cx dX3_put_0 rfl rfl ?_
  refine g_X3_37 (pc := 1) cx hk_o0 dX3_put_1 ?_
  refine f_sipush (pc := 4) cx dX3_put_4 kc_sipush_900 ?_
  refine f_icmp_ge (pc := 7) (tgt := 30) cx dX3_put_7 (by decide) (fun _ => ?_) (fun _ => ?_)
  · exact f_vret cx hr hlk dX3_put_30
  · refine f_aload_n (pc := 10) cx dX3_put_10 rfl rfl ?_
    refine g_X3_34 (pc := 11) cx hk_o0 dX3_put_11 ?_
    refine f_aload_n (pc := 14) cx dX3_put_14 rfl rfl ?_
    refine g_X3_37 (pc := 15) cx hk_o0 dX3_put_15 ?_
    refine f_iload_n (pc := 18) cx dX3_put_18 rfl rfl ?_
    refine f_need (fun c1 => ?_)
    refine f_iast (pc := 19) (n := 900) cx (kf_3_7 hk_o0) (by decide) c1 dX3_put_19 ?_
    refine f_nvh (fun h2 => ?_)
    refine f_aload_n (pc := 20) cx dX3_put_20 rfl rfl ?_
    refine f_dup (pc := 21) cx dX3_put_21 rfl ?_
    refine g_X3_37 (pc := 22) cx hk_o0 dX3_put_22 ?_
    refine f_iconst (pc := 25) cx dX3_put_25 kc_iconst_1 ?_
    refine f_iadd (pc := 26) cx dX3_put_26 ?_
    refine u_X3_37 (pc := 27) cx hk_o0 dX3_put_27 ?_
    refine f_nvh (fun h3 => ?_)
    exact f_vret cx hr hlk dX3_put_30
set_option maxRecDepth 4000 in
theorem c_X3_put (l : Launch) (G : GT) (h : Hp) (o0 : Nat) (x1 : Int32) (hk_o0 : kd o0 = 3) : CtV l G yX3_put cX3_put 2 none 0 0 [.ref (gad G o0), .int x1] h (p_X3_put h o0 x1) := fun a ha => Ct.of (lv := [some (.ref (gad G o0)), some (.int x1)]) (by decide) rfl (Nat.le_of_ble_eq_true rfl) rfl (fun p e s m args below meth c cx hr hlk => s_X3_put cx hr hlk h o0 x1 hk_o0 a ha)
def p_X3_refuse (h : Hp) (o0 : Nat) (x1 : Int32) : Option Hp :=
  if (h o0 10) = 0 then (nv (hp h o0 10 x1) fun h1 => nv (hp h1 o0 11 (h1 o0 5)) fun h2 => some h2) else (some h)
set_option maxRecDepth 4000 in
theorem s_X3_refuse {p : Program} {l : Launch} {e : Env} {s : State} {m : MethodId} {args : Array Value} {below : List Frame} {meth : Method} {c : Code} {G : GT} (cx : CX p s m args c cX3_refuse 2 RX3 G) (hr : meth.sig.returnType = none) (hlk : meth.locks = false) (h : Hp) (o0 : Nat) (x1 : Int32) (hk_o0 : kd o0 = 3) : PF p l e (rmc 0 0) s m args below meth c 2 G 0 0 (QV below G args s) 0 [some (.ref (gad G o0)), some (.int x1)] [] h (p_X3_refuse h o0 x1) := by
  unfold p_X3_refuse
  refine f_aload_n (pc := 0) cx dX3_refuse_0 rfl rfl ?_
  refine g_X3_43 (pc := 1) cx hk_o0 dX3_refuse_1 ?_
  refine f_if_ne (pc := 4) (tgt := 20) cx dX3_refuse_4 (by decide) (fun _ => ?_) (fun _ => ?_)
  · refine f_aload_n (pc := 7) cx dX3_refuse_7 rfl rfl ?_
    refine f_iload_n (pc := 8) cx dX3_refuse_8 rfl rfl ?_
    refine u_X3_43 (pc := 9) cx hk_o0 dX3_refuse_9 ?_
    refine f_nvh (fun h1 => ?_)
    refine f_aload_n (pc := 12) cx dX3_refuse_12 rfl rfl ?_
    refine f_aload_n (pc := 13) cx dX3_refuse_13 rfl rfl ?_
    refine g_X3_28 (pc := 14) cx hk_o0 dX3_refuse_14 ?_
    refine u_X3_46 (pc := 17) cx hk_o0 dX3_refuse_17 ?_
    refine f_nvh (fun h2 => ?_)
    exact f_vret cx hr hlk dX3_refuse_20
  · exact f_vret cx hr hlk dX3_refuse_20
set_option maxRecDepth 4000 in
theorem c_X3_refuse (l : Launch) (G : GT) (h : Hp) (o0 : Nat) (x1 : Int32) (hk_o0 : kd o0 = 3) : CtV l G yX3_refuse cX3_refuse 2 none 0 0 [.ref (gad G o0), .int x1] h (p_X3_refuse h o0 x1) := fun a ha => Ct.of (lv := [some (.ref (gad G o0)), some (.int x1)]) (by decide) rfl (Nat.le_of_ble_eq_true rfl) rfl (fun p e s m args below meth c cx hr hlk => s_X3_refuse cx hr hlk h o0 x1 hk_o0 a ha)
def p_X3_isDigit (h : Hp) (x0 : Int32) : Option (Int32 × Hp) :=
  if x0 < 48 then (some (0, h)) else (if 57 < x0 then (some (0, h)) else (some (1, h)))
set_option maxRecDepth 4000 in
theorem s_X3_isDigit {p : Program} {l : Launch} {e : Env} {s : State} {m : MethodId} {args : Array Value} {below : List Frame} {meth : Method} {c : Code} {G : GT} (cx : CX p s m args c cX3_isDigit 1 RX3 G) (hr : meth.sig.returnType = (some .boolean)) (hlk : meth.locks = false) (h : Hp) (x0 : Int32) : PF p l e (rmc 0 0) s m args below meth c 1 G 0 0 (QI below G args s) 0 [some (.int x0)] [] h (p_X3_isDigit h x0) := by
  unfold p_X3_isDigit
  refine f_iload_n (pc := 0) cx dX3_isDigit_0 rfl rfl ?_
  refine f_bipush (pc := 1) cx dX3_isDigit_1 kc_bipush_48 ?_
  refine f_icmp_lt (pc := 3) (tgt := 16) cx dX3_isDigit_3 (by decide) (fun _ => ?_) (fun _ => ?_)
  · refine f_iconst (pc := 16) cx dX3_isDigit_16 kc_iconst_0 ?_
    exact f_iret cx hr hlk (bb_n bb_0).1 dX3_isDigit_17
  · refine f_iload_n (pc := 6) cx dX3_isDigit_6 rfl rfl ?_
    refine f_bipush (pc := 7) cx dX3_isDigit_7 kc_bipush_57 ?_
    refine f_icmp_gt (pc := 9) (tgt := 16) cx dX3_isDigit_9 (by decide) (fun _ => ?_) (fun _ => ?_)
    · refine f_iconst (pc := 16) cx dX3_isDigit_16 kc_iconst_0 ?_
      exact f_iret cx hr hlk (bb_n bb_0).1 dX3_isDigit_17
    · refine f_iconst (pc := 12) cx dX3_isDigit_12 kc_iconst_1 ?_
      refine f_goto (pc := 13) (tgt := 17) cx dX3_isDigit_13 (by decide) ?_
      exact f_iret cx hr hlk (bb_n bb_1).1 dX3_isDigit_17
set_option maxRecDepth 4000 in
theorem c_X3_isDigit (l : Launch) (G : GT) (h : Hp) (x0 : Int32) : CtI l G yX3_isDigit cX3_isDigit 1 (some .boolean) 0 0 [.int x0] h (p_X3_isDigit h x0) := fun a ha => Ct.of (lv := [some (.int x0)]) (by decide) rfl (Nat.le_of_ble_eq_true rfl) rfl (fun p e s m args below meth c cx hr hlk => s_X3_isDigit cx hr hlk h x0 a ha)
def p_X3_isLetter (h : Hp) (x0 : Int32) : Option (Int32 × Hp) :=
  if x0 < 97 then (some (0, h)) else (if 122 < x0 then (some (0, h)) else (some (1, h)))
set_option maxRecDepth 4000 in
theorem s_X3_isLetter {p : Program} {l : Launch} {e : Env} {s : State} {m : MethodId} {args : Array Value} {below : List Frame} {meth : Method} {c : Code} {G : GT} (cx : CX p s m args c cX3_isLetter 1 RX3 G) (hr : meth.sig.returnType = (some .boolean)) (hlk : meth.locks = false) (h : Hp) (x0 : Int32) : PF p l e (rmc 0 0) s m args below meth c 1 G 0 0 (QI below G args s) 0 [some (.int x0)] [] h (p_X3_isLetter h x0) := by
  unfold p_X3_isLetter
  refine f_iload_n (pc := 0) cx dX3_isLetter_0 rfl rfl ?_
  refine f_bipush (pc := 1) cx dX3_isLetter_1 kc_bipush_97 ?_
  refine f_icmp_lt (pc := 3) (tgt := 16) cx dX3_isLetter_3 (by decide) (fun _ => ?_) (fun _ => ?_)
  · refine f_iconst (pc := 16) cx dX3_isLetter_16 kc_iconst_0 ?_
    exact f_iret cx hr hlk (bb_n bb_0).1 dX3_isLetter_17
  · refine f_iload_n (pc := 6) cx dX3_isLetter_6 rfl rfl ?_
    refine f_bipush (pc := 7) cx dX3_isLetter_7 kc_bipush_122 ?_
    refine f_icmp_gt (pc := 9) (tgt := 16) cx dX3_isLetter_9 (by decide) (fun _ => ?_) (fun _ => ?_)
    · refine f_iconst (pc := 16) cx dX3_isLetter_16 kc_iconst_0 ?_
      exact f_iret cx hr hlk (bb_n bb_0).1 dX3_isLetter_17
    · refine f_iconst (pc := 12) cx dX3_isLetter_12 kc_iconst_1 ?_
      refine f_goto (pc := 13) (tgt := 17) cx dX3_isLetter_13 (by decide) ?_
      exact f_iret cx hr hlk (bb_n bb_1).1 dX3_isLetter_17
set_option maxRecDepth 4000 in
theorem c_X3_isLetter (l : Launch) (G : GT) (h : Hp) (x0 : Int32) : CtI l G yX3_isLetter cX3_isLetter 1 (some .boolean) 0 0 [.int x0] h (p_X3_isLetter h x0) := fun a ha => Ct.of (lv := [some (.int x0)]) (by decide) rfl (Nat.le_of_ble_eq_true rfl) rfl (fun p e s m args below meth c cx hr hlk => s_X3_isLetter cx hr hlk h x0 a ha)
def q_X3_checkWord_82 (h : Hp) (o0 : Nat) (x1 : Int32) : Option Hp :=
  if 8 ≤ x1 then (some h) else (if (((h o0 12) >>> (x1 &&& 31)) &&& 1) = 1 then (Option.bind (p_X3_refuse h o0 3) fun r1 => nv (hp r1 o0 12 ((r1 o0 12) ||| (1 <<< (x1 &&& 31)))) fun h2 => some h2) else (nv (hp h o0 12 ((h o0 12) ||| (1 <<< (x1 &&& 31)))) fun h3 => some h3))
def q_X3_checkWord_59 (h : Hp) (o0 : Nat) (x1 : Int32) : Option Hp :=
  if 4 < (h o0 14) then (Option.bind (p_X3_refuse h o0 2) fun r4 => q_X3_checkWord_82 r4 o0 x1) else (if (h o0 13) ≤ 200 then (q_X3_checkWord_82 h o0 x1) else (Option.bind (p_X3_refuse h o0 2) fun r5 => q_X3_checkWord_82 r5 o0 x1))
def q_X3_checkWord_27 (h : Hp) (o0 : Nat) (x1 : Int32) : Option Hp :=
  if x1 = 8 then (nv (hp h o0 14 ((h o0 14) + 1)) fun h6 => if x1 = 9 then (nv (hp h6 o0 13 ((h6 o0 13) + 1)) fun h7 => q_X3_checkWord_59 h7 o0 x1) else (q_X3_checkWord_59 h6 o0 x1)) else (if x1 = 9 then (nv (hp h o0 13 ((h o0 13) + 1)) fun h8 => q_X3_checkWord_59 h8 o0 x1) else (q_X3_checkWord_59 h o0 x1))
def p_X3_checkWord (h : Hp) (o0 : Nat) (x1 : Int32) : Option Hp :=
  if x1 ≤ 8 then (if (h o0 16) = 0 then (q_X3_checkWord_27 h o0 x1) else (Option.bind (p_X3_refuse h o0 1) fun r9 => some r9)) else (nv (hp h o0 16 1) fun h10 => q_X3_checkWord_27 h10 o0 x1)
set_option maxRecDepth 4000 in
theorem s_X3_checkWord_82 {p : Program} {l : Launch} {e : Env} {s : State} {m : MethodId} {args : Array Value} {below : List Frame} {meth : Method} {c : Code} {G : GT} (cx : CX p s m args c cX3_checkWord 2 RX3 G) (hr : meth.sig.returnType = none) (hlk : meth.locks = false) (h : Hp) (o0 : Nat) (x1 : Int32) (hk_o0 : kd o0 = 3) : PF p l e (rmc 1 21) s m args below meth c 2 G 0 0 (QV below G args s) 82 [some (.ref (gad G o0)), some (.int x1)] [] h (q_X3_checkWord_82 h o0 x1) := by
  unfold q_X3_checkWord_82
  refine f_iload_n (pc := 82) cx dX3_checkWord_82 rfl rfl ?_
  refine f_bipush (pc := 83) cx dX3_checkWord_83 kc_bipush_8 ?_
  refine f_icmp_ge (pc := 85) (tgt := 117) cx dX3_checkWord_85 (by decide) (fun _ => ?_) (fun _ => ?_)
  · exact f_vret cx hr hlk dX3_checkWord_117
  · refine f_aload_n (pc := 88) cx dX3_checkWord_88 rfl rfl ?_
    refine g_X3_49 (pc := 89) cx hk_o0 dX3_checkWord_89 ?_
    refine f_iload_n (pc := 92) cx dX3_checkWord_92 rfl rfl ?_
    refine f_ishr (pc := 93) cx dX3_checkWord_93 ?_
    refine f_iconst (pc := 94) cx dX3_checkWord_94 kc_iconst_1 ?_
    refine f_iand (pc := 95) cx dX3_checkWord_95 ?_
    refine f_iconst (pc := 96) cx dX3_checkWord_96 kc_iconst_1 ?_
    refine f_icmp_ne (pc := 97) (tgt := 105) cx dX3_checkWord_97 (by decide) (fun _ => ?_) (fun _ => ?_)
    · refine f_aload_n (pc := 100) cx dX3_checkWord_100 rfl rfl ?_
      refine f_iconst (pc := 101) cx dX3_checkWord_101 kc_iconst_3 ?_
      refine f_bind (fun r1 hr1 => ?_)
      refine k_X3_77 (pc := 102) cx (c_X3_refuse l G _ o0 3 hk_o0 r1 hr1) hk_o0 ⟨by decide, by decide⟩ ⟨Nat.zero_le _, Nat.zero_le _⟩ (Nat.le_of_ble_eq_true rfl) dX3_checkWord_102 ?_
      refine f_aload_n (pc := 105) cx dX3_checkWord_105 rfl rfl ?_
      refine f_dup (pc := 106) cx dX3_checkWord_106 rfl ?_
      refine g_X3_49 (pc := 107) cx hk_o0 dX3_checkWord_107 ?_
      refine f_iconst (pc := 110) cx dX3_checkWord_110 kc_iconst_1 ?_
      refine f_iload_n (pc := 111) cx dX3_checkWord_111 rfl rfl ?_
      refine f_ishl (pc := 112) cx dX3_checkWord_112 ?_
      refine f_ior (pc := 113) cx dX3_checkWord_113 ?_
      refine u_X3_49 (pc := 114) cx hk_o0 dX3_checkWord_114 ?_
      refine f_nvh (fun h2 => ?_)
      exact f_vret cx hr hlk dX3_checkWord_117
    · refine f_aload_n (pc := 105) cx dX3_checkWord_105 rfl rfl ?_
      refine f_dup (pc := 106) cx dX3_checkWord_106 rfl ?_
      refine g_X3_49 (pc := 107) cx hk_o0 dX3_checkWord_107 ?_
      refine f_iconst (pc := 110) cx dX3_checkWord_110 kc_iconst_1 ?_
      refine f_iload_n (pc := 111) cx dX3_checkWord_111 rfl rfl ?_
      refine f_ishl (pc := 112) cx dX3_checkWord_112 ?_
      refine f_ior (pc := 113) cx dX3_checkWord_113 ?_
      refine u_X3_49 (pc := 114) cx hk_o0 dX3_checkWord_114 ?_
      refine f_nvh (fun h3 => ?_)
      exact f_vret cx hr hlk dX3_checkWord_117
set_option maxRecDepth 4000 in
theorem s_X3_checkWord_59 {p : Program} {l : Launch} {e : Env} {s : State} {m : MethodId} {args : Array Value} {below : List Frame} {meth : Method} {c : Code} {G : GT} (cx : CX p s m args c cX3_checkWord 2 RX3 G) (hr : meth.sig.returnType = none) (hlk : meth.locks = false) (h : Hp) (o0 : Nat) (x1 : Int32) (hk_o0 : kd o0 = 3) : PF p l e (rmc 1 21) s m args below meth c 2 G 0 0 (QV below G args s) 59 [some (.ref (gad G o0)), some (.int x1)] [] h (q_X3_checkWord_59 h o0 x1) := by
  unfold q_X3_checkWord_59
  refine f_aload_n (pc := 59) cx dX3_checkWord_59 rfl rfl ?_
  refine g_X3_55 (pc := 60) cx hk_o0 dX3_checkWord_60 ?_
  refine f_iconst (pc := 63) cx dX3_checkWord_63 kc_iconst_4 ?_
  refine f_icmp_gt (pc := 64) (tgt := 77) cx dX3_checkWord_64 (by decide) (fun _ => ?_) (fun _ => ?_)
  · refine f_aload_n (pc := 77) cx dX3_checkWord_77 rfl rfl ?_
    refine f_iconst (pc := 78) cx dX3_checkWord_78 kc_iconst_2 ?_
    refine f_bind (fun r4 hr4 => ?_)
    refine k_X3_77 (pc := 79) cx (c_X3_refuse l G _ o0 2 hk_o0 r4 hr4) hk_o0 ⟨by decide, by decide⟩ ⟨Nat.zero_le _, Nat.zero_le _⟩ (Nat.le_of_ble_eq_true rfl) dX3_checkWord_79 ?_
    exact f_weak (LSb.s (LSb.s LSb.e)) (s_X3_checkWord_82 cx hr hlk _ o0 x1 hk_o0)
  · refine f_aload_n (pc := 67) cx dX3_checkWord_67 rfl rfl ?_
    refine g_X3_52 (pc := 68) cx hk_o0 dX3_checkWord_68 ?_
    refine f_sipush (pc := 71) cx dX3_checkWord_71 kc_sipush_200 ?_
    refine f_icmp_le (pc := 74) (tgt := 82) cx dX3_checkWord_74 (by decide) (fun _ => ?_) (fun _ => ?_)
    · exact f_weak (LSb.s (LSb.s LSb.e)) (s_X3_checkWord_82 cx hr hlk _ o0 x1 hk_o0)
    · refine f_aload_n (pc := 77) cx dX3_checkWord_77 rfl rfl ?_
      refine f_iconst (pc := 78) cx dX3_checkWord_78 kc_iconst_2 ?_
      refine f_bind (fun r5 hr5 => ?_)
      refine k_X3_77 (pc := 79) cx (c_X3_refuse l G _ o0 2 hk_o0 r5 hr5) hk_o0 ⟨by decide, by decide⟩ ⟨Nat.zero_le _, Nat.zero_le _⟩ (Nat.le_of_ble_eq_true rfl) dX3_checkWord_79 ?_
      exact f_weak (LSb.s (LSb.s LSb.e)) (s_X3_checkWord_82 cx hr hlk _ o0 x1 hk_o0)
set_option maxRecDepth 4000 in
theorem s_X3_checkWord_27 {p : Program} {l : Launch} {e : Env} {s : State} {m : MethodId} {args : Array Value} {below : List Frame} {meth : Method} {c : Code} {G : GT} (cx : CX p s m args c cX3_checkWord 2 RX3 G) (hr : meth.sig.returnType = none) (hlk : meth.locks = false) (h : Hp) (o0 : Nat) (x1 : Int32) (hk_o0 : kd o0 = 3) : PF p l e (rmc 1 21) s m args below meth c 2 G 0 0 (QV below G args s) 27 [some (.ref (gad G o0)), some (.int x1)] [] h (q_X3_checkWord_27 h o0 x1) := by
  unfold q_X3_checkWord_27
  refine f_iload_n (pc := 27) cx dX3_checkWord_27 rfl rfl ?_
  refine f_bipush (pc := 28) cx dX3_checkWord_28 kc_bipush_8 ?_
  refine f_icmp_ne (pc := 30) (tgt := 43) cx dX3_checkWord_30 (by decide) (fun _ => ?_) (fun _ => ?_)
  · refine f_aload_n (pc := 33) cx dX3_checkWord_33 rfl rfl ?_
    refine f_dup (pc := 34) cx dX3_checkWord_34 rfl ?_
    refine g_X3_55 (pc := 35) cx hk_o0 dX3_checkWord_35 ?_
    refine f_iconst (pc := 38) cx dX3_checkWord_38 kc_iconst_1 ?_
    refine f_iadd (pc := 39) cx dX3_checkWord_39 ?_
    refine u_X3_55 (pc := 40) cx hk_o0 dX3_checkWord_40 ?_
    refine f_nvh (fun h6 => ?_)
    refine f_iload_n (pc := 43) cx dX3_checkWord_43 rfl rfl ?_
    refine f_bipush (pc := 44) cx dX3_checkWord_44 kc_bipush_9 ?_
    refine f_icmp_ne (pc := 46) (tgt := 59) cx dX3_checkWord_46 (by decide) (fun _ => ?_) (fun _ => ?_)
    · refine f_aload_n (pc := 49) cx dX3_checkWord_49 rfl rfl ?_
      refine f_dup (pc := 50) cx dX3_checkWord_50 rfl ?_
      refine g_X3_52 (pc := 51) cx hk_o0 dX3_checkWord_51 ?_
      refine f_iconst (pc := 54) cx dX3_checkWord_54 kc_iconst_1 ?_
      refine f_iadd (pc := 55) cx dX3_checkWord_55 ?_
      refine u_X3_52 (pc := 56) cx hk_o0 dX3_checkWord_56 ?_
      refine f_nvh (fun h7 => ?_)
      exact f_weak (LSb.s (LSb.s LSb.e)) (s_X3_checkWord_59 cx hr hlk _ o0 x1 hk_o0)
    · exact f_weak (LSb.s (LSb.s LSb.e)) (s_X3_checkWord_59 cx hr hlk _ o0 x1 hk_o0)
  · refine f_iload_n (pc := 43) cx dX3_checkWord_43 rfl rfl ?_
    refine f_bipush (pc := 44) cx dX3_checkWord_44 kc_bipush_9 ?_
    refine f_icmp_ne (pc := 46) (tgt := 59) cx dX3_checkWord_46 (by decide) (fun _ => ?_) (fun _ => ?_)
    · refine f_aload_n (pc := 49) cx dX3_checkWord_49 rfl rfl ?_
      refine f_dup (pc := 50) cx dX3_checkWord_50 rfl ?_
      refine g_X3_52 (pc := 51) cx hk_o0 dX3_checkWord_51 ?_
      refine f_iconst (pc := 54) cx dX3_checkWord_54 kc_iconst_1 ?_
      refine f_iadd (pc := 55) cx dX3_checkWord_55 ?_
      refine u_X3_52 (pc := 56) cx hk_o0 dX3_checkWord_56 ?_
      refine f_nvh (fun h8 => ?_)
      exact f_weak (LSb.s (LSb.s LSb.e)) (s_X3_checkWord_59 cx hr hlk _ o0 x1 hk_o0)
    · exact f_weak (LSb.s (LSb.s LSb.e)) (s_X3_checkWord_59 cx hr hlk _ o0 x1 hk_o0)
set_option maxRecDepth 4000 in
theorem s_X3_checkWord {p : Program} {l : Launch} {e : Env} {s : State} {m : MethodId} {args : Array Value} {below : List Frame} {meth : Method} {c : Code} {G : GT} (cx : CX p s m args c cX3_checkWord 2 RX3 G) (hr : meth.sig.returnType = none) (hlk : meth.locks = false) (h : Hp) (o0 : Nat) (x1 : Int32) (hk_o0 : kd o0 = 3) : PF p l e (rmc 1 21) s m args below meth c 2 G 0 0 (QV below G args s) 0 [some (.ref (gad G o0)), some (.int x1)] [] h (p_X3_checkWord h o0 x1) := by
  unfold p_X3_checkWord
  refine f_iload_n (pc := 0) cx dX3_checkWord_0 rfl rfl ?_
  refine f_bipush (pc := 1) cx dX3_checkWord_1 kc_bipush_8 ?_
  refine f_icmp_le (pc := 3) (tgt := 14) cx dX3_checkWord_3 (by decide) (fun _ => ?_) (fun _ => ?_)
  · refine f_aload_n (pc := 14) cx dX3_checkWord_14 rfl rfl ?_
    refine g_X3_61 (pc := 15) cx hk_o0 dX3_checkWord_15 ?_
    refine f_if_eq (pc := 18) (tgt := 27) cx dX3_checkWord_18 (by decide) (fun _ => ?_) (fun _ => ?_)
    · exact f_weak (LSb.s (LSb.s LSb.e)) (s_X3_checkWord_27 cx hr hlk _ o0 x1 hk_o0)
    · refine f_aload_n (pc := 21) cx dX3_checkWord_21 rfl rfl ?_
      refine f_iconst (pc := 22) cx dX3_checkWord_22 kc_iconst_1 ?_
      refine f_bind (fun r9 hr9 => ?_)
      refine k_X3_77 (pc := 23) cx (c_X3_refuse l G _ o0 1 hk_o0 r9 hr9) hk_o0 ⟨by decide, by decide⟩ ⟨Nat.zero_le _, Nat.zero_le _⟩ (Nat.le_of_ble_eq_true rfl) dX3_checkWord_23 ?_
      exact f_vret cx hr hlk dX3_checkWord_26
  · refine f_aload_n (pc := 6) cx dX3_checkWord_6 rfl rfl ?_
    refine f_iconst (pc := 7) cx dX3_checkWord_7 kc_iconst_1 ?_
    refine u_X3_61 (pc := 8) cx hk_o0 bb_1 dX3_checkWord_8 ?_
    refine f_nvh (fun h10 => ?_)
    refine f_goto (pc := 11) (tgt := 27) cx dX3_checkWord_11 (by decide) ?_
    exact f_weak (LSb.s (LSb.s LSb.e)) (s_X3_checkWord_27 cx hr hlk _ o0 x1 hk_o0)
set_option maxRecDepth 4000 in
theorem c_X3_checkWord (l : Launch) (G : GT) (h : Hp) (o0 : Nat) (x1 : Int32) (hk_o0 : kd o0 = 3) : CtV l G yX3_checkWord cX3_checkWord 2 none 1 21 [.ref (gad G o0), .int x1] h (p_X3_checkWord h o0 x1) := fun a ha => Ct.of (lv := [some (.ref (gad G o0)), some (.int x1)]) (by decide) rfl (Nat.le_of_ble_eq_true rfl) rfl (fun p e s m args below meth c cx hr hlk => s_X3_checkWord cx hr hlk h o0 x1 hk_o0 a ha)
def p_X3_readNumber (h : Hp) (o0 : Nat) (x1 : Int32) : Option Hp :=
  if (h o0 4) = 2 then (Option.bind (p_X9_fits h x1 (h o0 6)) fun r1 => if r1.1 = 0 then (Option.bind (p_X3_refuse r1.2 o0 2) fun r2 => Option.bind (p_X3_put r2 o0 (r2 o0 6)) fun r3 => some r3) else (if x1 = 8 then (Option.bind (p_X3_isToldKey r1.2 o0) fun r4 => if r4.1 = 0 then (Option.bind (p_X3_put r4.2 o0 (r4.2 o0 6)) fun r5 => some r5) else (Option.bind (p_X3_refuse r4.2 o0 3) fun r6 => Option.bind (p_X3_put r6 o0 (r6 o0 6)) fun r7 => some r7)) else (Option.bind (p_X3_put r1.2 o0 (r1.2 o0 6)) fun r8 => some r8))) else (Option.bind (p_X3_refuse h o0 1) fun r9 => Option.bind (p_X3_put r9 o0 (r9 o0 6)) fun r10 => some r10)
set_option maxRecDepth 4000 in
theorem s_X3_readNumber {p : Program} {l : Launch} {e : Env} {s : State} {m : MethodId} {args : Array Value} {below : List Frame} {meth : Method} {c : Code} {G : GT} (cx : CX p s m args c cX3_readNumber 2 RX3 G) (hr : meth.sig.returnType = none) (hlk : meth.locks = false) (h : Hp) (o0 : Nat) (x1 : Int32) (hk_o0 : kd o0 = 3) : PF p l e (rmc 2 49) s m args below meth c 2 G 0 0 (QV below G args s) 0 [some (.ref (gad G o0)), some (.int x1)] [] h (p_X3_readNumber h o0 x1) := by
  unfold p_X3_readNumber
  refine f_aload_n (pc := 0) cx dX3_readNumber_0 rfl rfl ?_
  refine g_X3_25 (pc := 1) cx hk_o0 dX3_readNumber_1 ?_
  refine f_iconst (pc := 4) cx dX3_readNumber_4 kc_iconst_2 ?_
  refine f_icmp_eq (pc := 5) (tgt := 16) cx dX3_readNumber_5 (by decide) (fun _ => ?_) (fun _ => ?_)
  · refine f_iload_n (pc := 16) cx dX3_readNumber_16 rfl rfl ?_
    refine f_aload_n (pc := 17) cx dX3_readNumber_17 rfl rfl ?_
    refine g_X3_31 (pc := 18) cx hk_o0 dX3_readNumber_18 ?_
    refine f_bind (fun r1 hr1 => ?_)
    refine k_X3_97 (pc := 21) cx (c_X9_fits l G _ x1 (h o0 6) r1 hr1) ⟨by decide, by decide⟩ ⟨Nat.zero_le _, Nat.zero_le _⟩ (Nat.le_of_ble_eq_true rfl) dX3_readNumber_21 ?_
    refine f_if_ne (pc := 24) (tgt := 35) cx dX3_readNumber_24 (by decide) (fun _ => ?_) (fun _ => ?_)
    · refine f_aload_n (pc := 27) cx dX3_readNumber_27 rfl rfl ?_
      refine f_iconst (pc := 28) cx dX3_readNumber_28 kc_iconst_2 ?_
      refine f_bind (fun r2 hr2 => ?_)
      refine k_X3_77 (pc := 29) cx (c_X3_refuse l G _ o0 2 hk_o0 r2 hr2) hk_o0 ⟨by decide, by decide⟩ ⟨Nat.zero_le _, Nat.zero_le _⟩ (Nat.le_of_ble_eq_true rfl) dX3_readNumber_29 ?_
      refine f_goto (pc := 32) (tgt := 53) cx dX3_readNumber_32 (by decide) ?_
      refine f_aload_n (pc := 53) cx dX3_readNumber_53 rfl rfl ?_
      refine f_aload_n (pc := 54) cx dX3_readNumber_54 rfl rfl ?_
      refine g_X3_31 (pc := 55) cx hk_o0 dX3_readNumber_55 ?_
      refine f_bind (fun r3 hr3 => ?_)
      refine k_X3_84 (pc := 58) cx (c_X3_put l G _ o0 (r2 o0 6) hk_o0 r3 hr3) hk_o0 ⟨by decide, by decide⟩ ⟨Nat.zero_le _, Nat.zero_le _⟩ (Nat.le_of_ble_eq_true rfl) dX3_readNumber_58 ?_
      exact f_vret cx hr hlk dX3_readNumber_61
    · refine f_iload_n (pc := 35) cx dX3_readNumber_35 rfl rfl ?_
      refine f_bipush (pc := 36) cx dX3_readNumber_36 kc_bipush_8 ?_
      refine f_icmp_ne (pc := 38) (tgt := 53) cx dX3_readNumber_38 (by decide) (fun _ => ?_) (fun _ => ?_)
      · refine f_aload_n (pc := 41) cx dX3_readNumber_41 rfl rfl ?_
        refine f_bind (fun r4 hr4 => ?_)
        refine k_X3_101 (pc := 42) cx (c_X3_isToldKey l G _ o0 hk_o0 r4 hr4) hk_o0 ⟨by decide, by decide⟩ ⟨Nat.zero_le _, Nat.zero_le _⟩ (Nat.le_of_ble_eq_true rfl) dX3_readNumber_42 ?_
        refine f_if_eq (pc := 45) (tgt := 53) cx dX3_readNumber_45 (by decide) (fun _ => ?_) (fun _ => ?_)
        · refine f_aload_n (pc := 53) cx dX3_readNumber_53 rfl rfl ?_
          refine f_aload_n (pc := 54) cx dX3_readNumber_54 rfl rfl ?_
          refine g_X3_31 (pc := 55) cx hk_o0 dX3_readNumber_55 ?_
          refine f_bind (fun r5 hr5 => ?_)
          refine k_X3_84 (pc := 58) cx (c_X3_put l G _ o0 (r4.2 o0 6) hk_o0 r5 hr5) hk_o0 ⟨by decide, by decide⟩ ⟨Nat.zero_le _, Nat.zero_le _⟩ (Nat.le_of_ble_eq_true rfl) dX3_readNumber_58 ?_
          exact f_vret cx hr hlk dX3_readNumber_61
        · refine f_aload_n (pc := 48) cx dX3_readNumber_48 rfl rfl ?_
          refine f_iconst (pc := 49) cx dX3_readNumber_49 kc_iconst_3 ?_
          refine f_bind (fun r6 hr6 => ?_)
          refine k_X3_77 (pc := 50) cx (c_X3_refuse l G _ o0 3 hk_o0 r6 hr6) hk_o0 ⟨by decide, by decide⟩ ⟨Nat.zero_le _, Nat.zero_le _⟩ (Nat.le_of_ble_eq_true rfl) dX3_readNumber_50 ?_
          refine f_aload_n (pc := 53) cx dX3_readNumber_53 rfl rfl ?_
          refine f_aload_n (pc := 54) cx dX3_readNumber_54 rfl rfl ?_
          refine g_X3_31 (pc := 55) cx hk_o0 dX3_readNumber_55 ?_
          refine f_bind (fun r7 hr7 => ?_)
          refine k_X3_84 (pc := 58) cx (c_X3_put l G _ o0 (r6 o0 6) hk_o0 r7 hr7) hk_o0 ⟨by decide, by decide⟩ ⟨Nat.zero_le _, Nat.zero_le _⟩ (Nat.le_of_ble_eq_true rfl) dX3_readNumber_58 ?_
          exact f_vret cx hr hlk dX3_readNumber_61
      · refine f_aload_n (pc := 53) cx dX3_readNumber_53 rfl rfl ?_
        refine f_aload_n (pc := 54) cx dX3_readNumber_54 rfl rfl ?_
        refine g_X3_31 (pc := 55) cx hk_o0 dX3_readNumber_55 ?_
        refine f_bind (fun r8 hr8 => ?_)
        refine k_X3_84 (pc := 58) cx (c_X3_put l G _ o0 (r1.2 o0 6) hk_o0 r8 hr8) hk_o0 ⟨by decide, by decide⟩ ⟨Nat.zero_le _, Nat.zero_le _⟩ (Nat.le_of_ble_eq_true rfl) dX3_readNumber_58 ?_
        exact f_vret cx hr hlk dX3_readNumber_61
  · refine f_aload_n (pc := 8) cx dX3_readNumber_8 rfl rfl ?_
    refine f_iconst (pc := 9) cx dX3_readNumber_9 kc_iconst_1 ?_
    refine f_bind (fun r9 hr9 => ?_)
    refine k_X3_77 (pc := 10) cx (c_X3_refuse l G _ o0 1 hk_o0 r9 hr9) hk_o0 ⟨by decide, by decide⟩ ⟨Nat.zero_le _, Nat.zero_le _⟩ (Nat.le_of_ble_eq_true rfl) dX3_readNumber_10 ?_
    refine f_goto (pc := 13) (tgt := 53) cx dX3_readNumber_13 (by decide) ?_
    refine f_aload_n (pc := 53) cx dX3_readNumber_53 rfl rfl ?_
    refine f_aload_n (pc := 54) cx dX3_readNumber_54 rfl rfl ?_
    refine g_X3_31 (pc := 55) cx hk_o0 dX3_readNumber_55 ?_
    refine f_bind (fun r10 hr10 => ?_)
    refine k_X3_84 (pc := 58) cx (c_X3_put l G _ o0 (r9 o0 6) hk_o0 r10 hr10) hk_o0 ⟨by decide, by decide⟩ ⟨Nat.zero_le _, Nat.zero_le _⟩ (Nat.le_of_ble_eq_true rfl) dX3_readNumber_58 ?_
    exact f_vret cx hr hlk dX3_readNumber_61
set_option maxRecDepth 4000 in
theorem c_X3_readNumber (l : Launch) (G : GT) (h : Hp) (o0 : Nat) (x1 : Int32) (hk_o0 : kd o0 = 3) : CtV l G yX3_readNumber cX3_readNumber 2 none 2 49 [.ref (gad G o0), .int x1] h (p_X3_readNumber h o0 x1) := fun a ha => Ct.of (lv := [some (.ref (gad G o0)), some (.int x1)]) (by decide) rfl (Nat.le_of_ble_eq_true rfl) rfl (fun p e s m args below meth c cx hr hlk => s_X3_readNumber cx hr hlk h o0 x1 hk_o0 a ha)
def b_X3_scanNumber_10 (o0 : Nat) (k10 : Hp → Option Hp) (q : Hp) : Option Hp :=
  if (q o0 2) ≤ (q o0 3) then (some q) else (if ib (q o0 3) 900 then (Option.bind (p_X3_isDigit q (q (o0 + 1) (Int32.toNatClampNeg (q o0 3)))) fun r2 => if r2.1 = 0 then (some r2.2) else (if ib (r2.2 o0 3) 900 then (nv (hp r2.2 o0 6 (if 100000 < ((((r2.2 o0 6) * 10) + (r2.2 (o0 + 1) (Int32.toNatClampNeg (r2.2 o0 3)))) - 48) then 100000 else ((((r2.2 o0 6) * 10) + (r2.2 (o0 + 1) (Int32.toNatClampNeg (r2.2 o0 3)))) - 48))) fun h4 => nv (hp h4 o0 3 ((h4 o0 3) + 1)) fun h5 => k10 h5) else none)) else none)
def p_X3_scanNumber (h : Hp) (o0 : Nat) : Option Hp :=
  nv (hp h o0 4 2) fun h6 => nv (hp h6 o0 6 0) fun h7 => lp (b_X3_scanNumber_10 o0) FU h7
set_option maxRecDepth 4000 in
theorem s_X3_scanNumber_10 {p : Program} {l : Launch} {e : Env} {s : State} {m : MethodId} {args : Array Value} {below : List Frame} {meth : Method} {c : Code} {G : GT} (cx : CX p s m args c cX3_scanNumber 1 RX3 G) (hr : meth.sig.returnType = none) (hlk : meth.locks = false) (o0 : Nat) (hk_o0 : kd o0 = 3) : ∀ (n : Nat) (q : Hp), PF p l e (rmc 1 27) s m args below meth c 1 G 0 0 (QV below G args s) 10 [some (.ref (gad G o0))] [] q (lp (b_X3_scanNumber_10 o0) n q) := by
  refine f_lp (lvf := fun (q : Hp) => [some (.ref (gad G o0))]) (hf := fun (q : Hp) => q) (fun k10 hk10 q => ?_)
  show PF p l e (rmc 1 27) s m args below meth c 1 G 0 0 (QV below G args s) 10 [some (.ref (gad G o0))] [] q (b_X3_scanNumber_10 o0 k10 q)
  unfold b_X3_scanNumber_10
  refine f_aload_n (pc := 10) cx dX3_scanNumber_10 rfl rfl ?_
  refine g_X3_22 (pc := 11) cx hk_o0 dX3_scanNumber_11 ?_
  refine f_aload_n (pc := 14) cx dX3_scanNumber_14 rfl rfl ?_
  refine g_X3_19 (pc := 15) cx hk_o0 dX3_scanNumber_15 ?_
  refine f_icmp_ge (pc := 18) (tgt := 78) cx dX3_scanNumber_18 (by decide) (fun _ => ?_) (fun _ => ?_)
  · exact f_vret cx hr hlk dX3_scanNumber_78
  · refine f_aload_n (pc := 21) cx dX3_scanNumber_21 rfl rfl ?_
    refine g_X3_9 (pc := 22) cx hk_o0 dX3_scanNumber_22 ?_
    refine f_aload_n (pc := 25) cx dX3_scanNumber_25 rfl rfl ?_
    refine g_X3_22 (pc := 26) cx hk_o0 dX3_scanNumber_26 ?_
    refine f_need (fun c1 => ?_)
    refine f_iald (pc := 29) (n := 900) cx (kf_3_0 hk_o0) (by decide) c1 dX3_scanNumber_29 ?_
    refine f_bind (fun r2 hr2 => ?_)
    refine k_X3_105 (pc := 30) cx (c_X3_isDigit l G _ (q (o0 + 1) (Int32.toNatClampNeg (q o0 3))) r2 hr2) ⟨by decide, by decide⟩ ⟨Nat.zero_le _, Nat.zero_le _⟩ (Nat.le_of_ble_eq_true rfl) dX3_scanNumber_30 ?_
    refine f_if_eq (pc := 33) (tgt := 78) cx dX3_scanNumber_33 (by decide) (fun _ => ?_) (fun _ => ?_)
    · exact f_vret cx hr hlk dX3_scanNumber_78
    · refine f_aload_n (pc := 36) cx dX3_scanNumber_36 rfl rfl ?_
      refine f_aload_n (pc := 37) cx dX3_scanNumber_37 rfl rfl ?_
      refine g_X3_31 (pc := 38) cx hk_o0 dX3_scanNumber_38 ?_
      refine f_bipush (pc := 41) cx dX3_scanNumber_41 kc_bipush_10 ?_
      refine f_imul (pc := 43) cx dX3_scanNumber_43 ?_
      refine f_aload_n (pc := 44) cx dX3_scanNumber_44 rfl rfl ?_
      refine g_X3_9 (pc := 45) cx hk_o0 dX3_scanNumber_45 ?_
      refine f_aload_n (pc := 48) cx dX3_scanNumber_48 rfl rfl ?_
      refine g_X3_22 (pc := 49) cx hk_o0 dX3_scanNumber_49 ?_
      refine f_need (fun c3 => ?_)
      refine f_iald (pc := 52) (n := 900) cx (kf_3_0 hk_o0) (by decide) c3 dX3_scanNumber_52 ?_
      refine f_iadd (pc := 53) cx dX3_scanNumber_53 ?_
      refine f_bipush (pc := 54) cx dX3_scanNumber_54 kc_bipush_48 ?_
      refine f_isub (pc := 56) cx dX3_scanNumber_56 ?_
      refine f_ldc (pc := 57) cx w_532 dX3_scanNumber_57 ?_
      refine k_X3_65 (pc := 59) cx ⟨by decide, by decide⟩ ⟨Nat.zero_le _, Nat.zero_le _⟩ (Nat.le_of_ble_eq_true rfl) dX3_scanNumber_59 ?_
      refine u_X3_31 (pc := 62) cx hk_o0 dX3_scanNumber_62 ?_
      refine f_nvh (fun h4 => ?_)
      refine f_aload_n (pc := 65) cx dX3_scanNumber_65 rfl rfl ?_
      refine f_dup (pc := 66) cx dX3_scanNumber_66 rfl ?_
      refine g_X3_22 (pc := 67) cx hk_o0 dX3_scanNumber_67 ?_
      refine f_iconst (pc := 70) cx dX3_scanNumber_70 kc_iconst_1 ?_
      refine f_iadd (pc := 71) cx dX3_scanNumber_71 ?_
      refine u_X3_22 (pc := 72) cx hk_o0 dX3_scanNumber_72 ?_
      refine f_nvh (fun h5 => ?_)
      refine f_goto (pc := 75) (tgt := 10) cx dX3_scanNumber_75 (by decide) ?_
      exact f_weak (LSb.s LSb.e) (hk10 h5)
set_option maxRecDepth 4000 in
theorem s_X3_scanNumber {p : Program} {l : Launch} {e : Env} {s : State} {m : MethodId} {args : Array Value} {below : List Frame} {meth : Method} {c : Code} {G : GT} (cx : CX p s m args c cX3_scanNumber 1 RX3 G) (hr : meth.sig.returnType = none) (hlk : meth.locks = false) (h : Hp) (o0 : Nat) (hk_o0 : kd o0 = 3) : PF p l e (rmc 1 27) s m args below meth c 1 G 0 0 (QV below G args s) 0 [some (.ref (gad G o0))] [] h (p_X3_scanNumber h o0) := by
  unfold p_X3_scanNumber
  refine f_aload_n (pc := 0) cx dX3_scanNumber_0 rfl rfl ?_
  refine f_iconst (pc := 1) cx dX3_scanNumber_1 kc_iconst_2 ?_
  refine u_X3_25 (pc := 2) cx hk_o0 dX3_scanNumber_2 ?_
  refine f_nvh (fun h6 => ?_)
  refine f_aload_n (pc := 5) cx dX3_scanNumber_5 rfl rfl ?_
  refine f_iconst (pc := 6) cx dX3_scanNumber_6 kc_iconst_0 ?_
  refine u_X3_31 (pc := 7) cx hk_o0 dX3_scanNumber_7 ?_
  refine f_nvh (fun h7 => ?_)
  exact f_weak (LSb.s LSb.e) (s_X3_scanNumber_10 cx hr hlk o0 hk_o0 FU h7)
set_option maxRecDepth 4000 in
theorem c_X3_scanNumber (l : Launch) (G : GT) (h : Hp) (o0 : Nat) (hk_o0 : kd o0 = 3) : CtV l G yX3_scanNumber cX3_scanNumber 1 none 1 27 [.ref (gad G o0)] h (p_X3_scanNumber h o0) := fun a ha => Ct.of (lv := [some (.ref (gad G o0))]) (by decide) rfl (Nat.le_of_ble_eq_true rfl) rfl (fun p e s m args below meth c cx hr hlk => s_X3_scanNumber cx hr hlk h o0 hk_o0 a ha)
