theorem kc_bipush_40 : (Int8.ofInt (40)).toInt32 = 40 := by decide
theorem kc_bipush_60 : (Int8.ofInt (60)).toInt32 = 60 := by decide
theorem kc_bipush_68 : (Int8.ofInt (68)).toInt32 = 68 := by decide
theorem kl_8 : (8 : Int32).toNatClampNeg = 8 := by decide
theorem kl_9 : (9 : Int32).toNatClampNeg = 9 := by decide
theorem kl_10 : (10 : Int32).toNatClampNeg = 10 := by decide
theorem kl_11 : (11 : Int32).toNatClampNeg = 11 := by decide
theorem kl_12 : (12 : Int32).toNatClampNeg = 12 := by decide
theorem kl_13 : (13 : Int32).toNatClampNeg = 13 := by decide
theorem kl_14 : (14 : Int32).toNatClampNeg = 14 := by decide
theorem kl_15 : (15 : Int32).toNatClampNeg = 15 := by decide
theorem kl_16 : (16 : Int32).toNatClampNeg = 16 := by decide
theorem kl_17 : (17 : Int32).toNatClampNeg = 17 := by decide
theorem kl_3476 : (3476 : Int32).toNatClampNeg = 3476 := by decide
theorem kl_3477 : (3477 : Int32).toNatClampNeg = 3477 := by decide
theorem kl_3514 : (3514 : Int32).toNatClampNeg = 3514 := by decide
theorem kc_sipush_256 : (Int16.ofInt (256)).toInt32 = 256 := by decide
theorem kc_sipush_276 : (Int16.ofInt (276)).toInt32 = 276 := by decide
theorem kc_sipush_300 : (Int16.ofInt (300)).toInt32 = 300 := by decide
theorem kc_sipush_880 : (Int16.ofInt (880)).toInt32 = 880 := by decide
theorem kc_sipush_1500 : (Int16.ofInt (1500)).toInt32 = 1500 := by decide
theorem kc_sipush_2676 : (Int16.ofInt (2676)).toInt32 = 2676 := by decide
theorem kc_sipush_3000 : (Int16.ofInt (3000)).toInt32 = 3000 := by decide
theorem kc_sipush_3476 : (Int16.ofInt (3476)).toInt32 = 3476 := by decide
theorem kc_sipush_3477 : (Int16.ofInt (3477)).toInt32 = 3477 := by decide
theorem kc_sipush_3478 : (Int16.ofInt (3478)).toInt32 = 3478 := by decide
theorem kc_sipush_3514 : (Int16.ofInt (3514)).toInt32 = 3514 := by decide
theorem kc_sipush_3515 : (Int16.ofInt (3515)).toInt32 = 3515 := by decide
theorem kc_sipush_3715 : (Int16.ofInt (3715)).toInt32 = 3715 := by decide
theorem kc_sipush_9999 : (Int16.ofInt (9999)).toInt32 = 9999 := by decide
theorem dX10_thrown_0 : decode cX10_thrown 0 = .ok (.aload_n 0, 1) := by decide +kernel
theorem dX10_thrown_1 : decode cX10_thrown 1 = .ok (.getfield 45, 3) := by decide +kernel
theorem dX10_thrown_4 : decode cX10_thrown 4 = .ok (.ireturn, 1) := by decide +kernel
theorem dX10_feed_0 : decode cX10_feed 0 = .ok (.aload_n 0, 1) := by decide +kernel
theorem dX10_feed_1 : decode cX10_feed 1 = .ok (.iconst 0, 1) := by decide +kernel
theorem dX10_feed_2 : decode cX10_feed 2 = .ok (.putfield 45, 3) := by decide +kernel
theorem dX10_feed_5 : decode cX10_feed 5 = .ok (.aload_n 0, 1) := by decide +kernel
theorem dX10_feed_6 : decode cX10_feed 6 = .ok (.getfield 48, 3) := by decide +kernel
theorem dX10_feed_9 : decode cX10_feed 9 = .ok (.sipush 880, 3) := by decide +kernel
theorem dX10_feed_12 : decode cX10_feed 12 = .ok (.if_icmp .le 5, 3) := by decide +kernel
theorem dX10_feed_15 : decode cX10_feed 15 = .ok (.iconst (-1), 1) := by decide +kernel
theorem dX10_feed_16 : decode cX10_feed 16 = .ok (.ireturn, 1) := by decide +kernel
theorem dX10_feed_17 : decode cX10_feed 17 = .ok (.iconst 0, 1) := by decide +kernel
theorem dX10_feed_18 : decode cX10_feed 18 = .ok (.istore 6, 2) := by decide +kernel
theorem dX10_feed_20 : decode cX10_feed 20 = .ok (.iload 6, 2) := by decide +kernel
theorem dX10_feed_22 : decode cX10_feed 22 = .ok (.bipush 20, 2) := by decide +kernel
theorem dX10_feed_24 : decode cX10_feed 24 = .ok (.if_icmp .ge 86, 3) := by decide +kernel
theorem dX10_feed_27 : decode cX10_feed 27 = .ok (.iload 6, 2) := by decide +kernel
theorem dX10_feed_29 : decode cX10_feed 29 = .ok (.iconst 4, 1) := by decide +kernel
theorem dX10_feed_30 : decode cX10_feed 30 = .ok (.if_icmp .ge 7, 3) := by decide +kernel
theorem dX10_feed_33 : decode cX10_feed 33 = .ok (.iload_n 1, 1) := by decide +kernel
theorem dX10_feed_34 : decode cX10_feed 34 = .ok (.goto 39, 3) := by decide +kernel
theorem dX10_feed_37 : decode cX10_feed 37 = .ok (.iload 6, 2) := by decide +kernel
theorem dX10_feed_39 : decode cX10_feed 39 = .ok (.bipush 8, 2) := by decide +kernel
theorem dX10_feed_41 : decode cX10_feed 41 = .ok (.if_icmp .ge 7, 3) := by decide +kernel
theorem dX10_feed_44 : decode cX10_feed 44 = .ok (.iload_n 2, 1) := by decide +kernel
theorem dX10_feed_45 : decode cX10_feed 45 = .ok (.goto 28, 3) := by decide +kernel
theorem dX10_feed_48 : decode cX10_feed 48 = .ok (.iload 6, 2) := by decide +kernel
theorem dX10_feed_50 : decode cX10_feed 50 = .ok (.bipush 12, 2) := by decide +kernel
theorem dX10_feed_52 : decode cX10_feed 52 = .ok (.if_icmp .ge 7, 3) := by decide +kernel
theorem dX10_feed_55 : decode cX10_feed 55 = .ok (.iload_n 3, 1) := by decide +kernel
theorem dX10_feed_56 : decode cX10_feed 56 = .ok (.goto 17, 3) := by decide +kernel
theorem dX10_feed_59 : decode cX10_feed 59 = .ok (.iload 6, 2) := by decide +kernel
theorem dX10_feed_61 : decode cX10_feed 61 = .ok (.bipush 16, 2) := by decide +kernel
theorem dX10_feed_63 : decode cX10_feed 63 = .ok (.if_icmp .ge 8, 3) := by decide +kernel
theorem dX10_feed_66 : decode cX10_feed 66 = .ok (.iload 4, 2) := by decide +kernel
theorem dX10_feed_68 : decode cX10_feed 68 = .ok (.goto 5, 3) := by decide +kernel
theorem dX10_feed_71 : decode cX10_feed 71 = .ok (.iload 5, 2) := by decide +kernel
theorem dX10_feed_73 : decode cX10_feed 73 = .ok (.istore 7, 2) := by decide +kernel
theorem dX10_feed_75 : decode cX10_feed 75 = .ok (.aload_n 0, 1) := by decide +kernel
theorem dX10_feed_76 : decode cX10_feed 76 = .ok (.getfield 7, 3) := by decide +kernel
theorem dX10_feed_79 : decode cX10_feed 79 = .ok (.aload_n 0, 1) := by decide +kernel
theorem dX10_feed_80 : decode cX10_feed 80 = .ok (.getfield 48, 3) := by decide +kernel
theorem dX10_feed_83 : decode cX10_feed 83 = .ok (.iload 6, 2) := by decide +kernel
theorem dX10_feed_85 : decode cX10_feed 85 = .ok (.iadd, 1) := by decide +kernel
theorem dX10_feed_86 : decode cX10_feed 86 = .ok (.iload 7, 2) := by decide +kernel
theorem dX10_feed_88 : decode cX10_feed 88 = .ok (.bipush 24, 2) := by decide +kernel
theorem dX10_feed_90 : decode cX10_feed 90 = .ok (.bipush 8, 2) := by decide +kernel
theorem dX10_feed_92 : decode cX10_feed 92 = .ok (.iload 6, 2) := by decide +kernel
theorem dX10_feed_94 : decode cX10_feed 94 = .ok (.iconst 4, 1) := by decide +kernel
theorem dX10_feed_95 : decode cX10_feed 95 = .ok (.irem, 1) := by decide +kernel
theorem dX10_feed_96 : decode cX10_feed 96 = .ok (.imul, 1) := by decide +kernel
theorem dX10_feed_97 : decode cX10_feed 97 = .ok (.isub, 1) := by decide +kernel
theorem dX10_feed_98 : decode cX10_feed 98 = .ok (.ishr, 1) := by decide +kernel
theorem dX10_feed_99 : decode cX10_feed 99 = .ok (.sipush 255, 3) := by decide +kernel
theorem dX10_feed_102 : decode cX10_feed 102 = .ok (.iand, 1) := by decide +kernel
theorem dX10_feed_103 : decode cX10_feed 103 = .ok (.iastore, 1) := by decide +kernel
theorem dX10_feed_104 : decode cX10_feed 104 = .ok (.iinc 6 1, 3) := by decide +kernel
theorem dX10_feed_107 : decode cX10_feed 107 = .ok (.goto (-87), 3) := by decide +kernel
theorem dX10_feed_110 : decode cX10_feed 110 = .ok (.aload_n 0, 1) := by decide +kernel
theorem dX10_feed_111 : decode cX10_feed 111 = .ok (.dup, 1) := by decide +kernel
theorem dX10_feed_112 : decode cX10_feed 112 = .ok (.getfield 48, 3) := by decide +kernel
theorem dX10_feed_115 : decode cX10_feed 115 = .ok (.bipush 20, 2) := by decide +kernel
theorem dX10_feed_117 : decode cX10_feed 117 = .ok (.iadd, 1) := by decide +kernel
theorem dX10_feed_118 : decode cX10_feed 118 = .ok (.putfield 48, 3) := by decide +kernel
theorem dX10_feed_121 : decode cX10_feed 121 = .ok (.aload_n 0, 1) := by decide +kernel
theorem dX10_feed_122 : decode cX10_feed 122 = .ok (.getfield 48, 3) := by decide +kernel
theorem dX10_feed_125 : decode cX10_feed 125 = .ok (.ireturn, 1) := by decide +kernel
theorem dX10_here_0 : decode cX10_here 0 = .ok (.aload_n 0, 1) := by decide +kernel
theorem dX10_here_1 : decode cX10_here 1 = .ok (.getfield 51, 3) := by decide +kernel
theorem dX10_here_4 : decode cX10_here 4 = .ok (.aload_n 0, 1) := by decide +kernel
theorem dX10_here_5 : decode cX10_here 5 = .ok (.getfield 54, 3) := by decide +kernel
theorem dX10_here_8 : decode cX10_here 8 = .ok (.if_icmp .ge 15, 3) := by decide +kernel
theorem dX10_here_11 : decode cX10_here 11 = .ok (.aload_n 0, 1) := by decide +kernel
theorem dX10_here_12 : decode cX10_here 12 = .ok (.getfield 7, 3) := by decide +kernel
theorem dX10_here_15 : decode cX10_here 15 = .ok (.aload_n 0, 1) := by decide +kernel
theorem dX10_here_16 : decode cX10_here 16 = .ok (.getfield 51, 3) := by decide +kernel
theorem dX10_here_19 : decode cX10_here 19 = .ok (.iaload, 1) := by decide +kernel
theorem dX10_here_20 : decode cX10_here 20 = .ok (.goto 4, 3) := by decide +kernel
theorem dX10_here_23 : decode cX10_here 23 = .ok (.iconst (-1), 1) := by decide +kernel
theorem dX10_here_24 : decode cX10_here 24 = .ok (.ireturn, 1) := by decide +kernel
theorem dX10_isSmall_0 : decode cX10_isSmall 0 = .ok (.iload_n 0, 1) := by decide +kernel
theorem dX10_isSmall_1 : decode cX10_isSmall 1 = .ok (.bipush 97, 2) := by decide +kernel
theorem dX10_isSmall_3 : decode cX10_isSmall 3 = .ok (.if_icmp .lt 13, 3) := by decide +kernel
theorem dX10_isSmall_6 : decode cX10_isSmall 6 = .ok (.iload_n 0, 1) := by decide +kernel
theorem dX10_isSmall_7 : decode cX10_isSmall 7 = .ok (.bipush 122, 2) := by decide +kernel
theorem dX10_isSmall_9 : decode cX10_isSmall 9 = .ok (.if_icmp .gt 7, 3) := by decide +kernel
theorem dX10_isSmall_12 : decode cX10_isSmall 12 = .ok (.iconst 1, 1) := by decide +kernel
theorem dX10_isSmall_13 : decode cX10_isSmall 13 = .ok (.goto 4, 3) := by decide +kernel
theorem dX10_isSmall_16 : decode cX10_isSmall 16 = .ok (.iconst 0, 1) := by decide +kernel
theorem dX10_isSmall_17 : decode cX10_isSmall 17 = .ok (.ireturn, 1) := by decide +kernel
theorem dX10_isDigit_0 : decode cX10_isDigit 0 = .ok (.iload_n 0, 1) := by decide +kernel
theorem dX10_isDigit_1 : decode cX10_isDigit 1 = .ok (.bipush 48, 2) := by decide +kernel
theorem dX10_isDigit_3 : decode cX10_isDigit 3 = .ok (.if_icmp .lt 13, 3) := by decide +kernel
theorem dX10_isDigit_6 : decode cX10_isDigit 6 = .ok (.iload_n 0, 1) := by decide +kernel
theorem dX10_isDigit_7 : decode cX10_isDigit 7 = .ok (.bipush 57, 2) := by decide +kernel
theorem dX10_isDigit_9 : decode cX10_isDigit 9 = .ok (.if_icmp .gt 7, 3) := by decide +kernel
theorem dX10_isDigit_12 : decode cX10_isDigit 12 = .ok (.iconst 1, 1) := by decide +kernel
theorem dX10_isDigit_13 : decode cX10_isDigit 13 = .ok (.goto 4, 3) := by decide +kernel
theorem dX10_isDigit_16 : decode cX10_isDigit 16 = .ok (.iconst 0, 1) := by decide +kernel
theorem dX10_isDigit_17 : decode cX10_isDigit 17 = .ok (.ireturn, 1) := by decide +kernel
theorem dX10_wrong_0 : decode cX10_wrong 0 = .ok (.aload_n 0, 1) := by decide +kernel
theorem dX10_wrong_1 : decode cX10_wrong 1 = .ok (.getfield 92, 3) := by decide +kernel
theorem dX10_wrong_4 : decode cX10_wrong 4 = .ok (.ifCond .eq 4, 3) := by decide +kernel
theorem dX10_wrong_7 : decode cX10_wrong 7 = .ok (.return_, 1) := by decide +kernel
theorem dX10_wrong_8 : decode cX10_wrong 8 = .ok (.aload_n 0, 1) := by decide +kernel
theorem dX10_wrong_9 : decode cX10_wrong 9 = .ok (.iload_n 1, 1) := by decide +kernel
theorem dX10_wrong_10 : decode cX10_wrong 10 = .ok (.putfield 92, 3) := by decide +kernel
theorem dX10_wrong_13 : decode cX10_wrong 13 = .ok (.aload_n 0, 1) := by decide +kernel
theorem dX10_wrong_14 : decode cX10_wrong 14 = .ok (.aload_n 0, 1) := by decide +kernel
theorem dX10_wrong_15 : decode cX10_wrong 15 = .ok (.getfield 61, 3) := by decide +kernel
theorem dX10_wrong_18 : decode cX10_wrong 18 = .ok (.putfield 95, 3) := by decide +kernel
theorem dX10_wrong_21 : decode cX10_wrong 21 = .ok (.return_, 1) := by decide +kernel
theorem dX10_notes_0 : decode cX10_notes 0 = .ok (.aload_n 0, 1) := by decide +kernel
theorem dX10_notes_1 : decode cX10_notes 1 = .ok (.getfield 92, 3) := by decide +kernel
theorem dX10_notes_4 : decode cX10_notes 4 = .ok (.ifCond .eq 4, 3) := by decide +kernel
theorem dX10_notes_7 : decode cX10_notes 7 = .ok (.return_, 1) := by decide +kernel
theorem dX10_notes_8 : decode cX10_notes 8 = .ok (.aload_n 0, 1) := by decide +kernel
theorem dX10_notes_9 : decode cX10_notes 9 = .ok (.getfield 23, 3) := by decide +kernel
theorem dX10_notes_12 : decode cX10_notes 12 = .ok (.aload_n 0, 1) := by decide +kernel
theorem dX10_notes_13 : decode cX10_notes 13 = .ok (.getfield 108, 3) := by decide +kernel
theorem dX10_notes_16 : decode cX10_notes 16 = .ok (.iload_n 1, 1) := by decide +kernel
theorem dX10_notes_17 : decode cX10_notes 17 = .ok (.iastore, 1) := by decide +kernel
theorem dX10_notes_18 : decode cX10_notes 18 = .ok (.aload_n 0, 1) := by decide +kernel
theorem dX10_notes_19 : decode cX10_notes 19 = .ok (.dup, 1) := by decide +kernel
theorem dX10_notes_20 : decode cX10_notes 20 = .ok (.getfield 108, 3) := by decide +kernel
theorem dX10_notes_23 : decode cX10_notes 23 = .ok (.iconst 1, 1) := by decide +kernel
theorem dX10_notes_24 : decode cX10_notes 24 = .ok (.iadd, 1) := by decide +kernel
theorem dX10_notes_25 : decode cX10_notes 25 = .ok (.putfield 108, 3) := by decide +kernel
theorem dX10_notes_28 : decode cX10_notes 28 = .ok (.return_, 1) := by decide +kernel
theorem dX10_leastOf_0 : decode cX10_leastOf 0 = .ok (.iload_n 0, 1) := by decide +kernel
theorem dX10_leastOf_1 : decode cX10_leastOf 1 = .ok (.iconst 1, 1) := by decide +kernel
theorem dX10_leastOf_2 : decode cX10_leastOf 2 = .ok (.if_icmp .ne 8, 3) := by decide +kernel
theorem dX10_leastOf_5 : decode cX10_leastOf 5 = .ok (.bipush 10, 2) := by decide +kernel
theorem dX10_leastOf_7 : decode cX10_leastOf 7 = .ok (.goto 28, 3) := by decide +kernel
theorem dX10_leastOf_10 : decode cX10_leastOf 10 = .ok (.iload_n 0, 1) := by decide +kernel
theorem dX10_leastOf_11 : decode cX10_leastOf 11 = .ok (.iconst 2, 1) := by decide +kernel
theorem dX10_leastOf_12 : decode cX10_leastOf 12 = .ok (.if_icmp .ne 8, 3) := by decide +kernel
theorem dX10_leastOf_15 : decode cX10_leastOf 15 = .ok (.bipush 50, 2) := by decide +kernel
theorem dX10_leastOf_17 : decode cX10_leastOf 17 = .ok (.goto 18, 3) := by decide +kernel
theorem dX10_leastOf_20 : decode cX10_leastOf 20 = .ok (.iload_n 0, 1) := by decide +kernel
theorem dX10_leastOf_21 : decode cX10_leastOf 21 = .ok (.iconst 4, 1) := by decide +kernel
theorem dX10_leastOf_22 : decode cX10_leastOf 22 = .ok (.if_icmp .eq 8, 3) := by decide +kernel
theorem dX10_leastOf_25 : decode cX10_leastOf 25 = .ok (.iload_n 0, 1) := by decide +kernel
theorem dX10_leastOf_26 : decode cX10_leastOf 26 = .ok (.iconst 5, 1) := by decide +kernel
theorem dX10_leastOf_27 : decode cX10_leastOf 27 = .ok (.if_icmp .ne 7, 3) := by decide +kernel
theorem dX10_leastOf_30 : decode cX10_leastOf 30 = .ok (.iconst 0, 1) := by decide +kernel
theorem dX10_leastOf_31 : decode cX10_leastOf 31 = .ok (.goto 4, 3) := by decide +kernel
theorem dX10_leastOf_34 : decode cX10_leastOf 34 = .ok (.iconst 1, 1) := by decide +kernel
theorem dX10_leastOf_35 : decode cX10_leastOf 35 = .ok (.ireturn, 1) := by decide +kernel
theorem dX10_mostOf_0 : decode cX10_mostOf 0 = .ok (.iload_n 0, 1) := by decide +kernel
theorem dX10_mostOf_1 : decode cX10_mostOf 1 = .ok (.tableswitch 61 0 5 #[39, 42, 46, 50, 53, 57], 39) := by decide +kernel
theorem dX10_mostOf_40 : decode cX10_mostOf 40 = .ok (.bipush 99, 2) := by decide +kernel
theorem dX10_mostOf_42 : decode cX10_mostOf 42 = .ok (.ireturn, 1) := by decide +kernel
theorem dX10_mostOf_43 : decode cX10_mostOf 43 = .ok (.sipush 999, 3) := by decide +kernel
theorem dX10_mostOf_46 : decode cX10_mostOf 46 = .ok (.ireturn, 1) := by decide +kernel
theorem dX10_mostOf_47 : decode cX10_mostOf 47 = .ok (.sipush 3000, 3) := by decide +kernel
theorem dX10_mostOf_50 : decode cX10_mostOf 50 = .ok (.ireturn, 1) := by decide +kernel
theorem dX10_mostOf_51 : decode cX10_mostOf 51 = .ok (.bipush 60, 2) := by decide +kernel
theorem dX10_mostOf_53 : decode cX10_mostOf 53 = .ok (.ireturn, 1) := by decide +kernel
theorem dX10_mostOf_54 : decode cX10_mostOf 54 = .ok (.sipush 3000, 3) := by decide +kernel
theorem dX10_mostOf_57 : decode cX10_mostOf 57 = .ok (.ireturn, 1) := by decide +kernel
theorem dX10_mostOf_58 : decode cX10_mostOf 58 = .ok (.sipush 1500, 3) := by decide +kernel
theorem dX10_mostOf_61 : decode cX10_mostOf 61 = .ok (.ireturn, 1) := by decide +kernel
theorem dX10_mostOf_62 : decode cX10_mostOf 62 = .ok (.iconst 4, 1) := by decide +kernel
theorem dX10_mostOf_63 : decode cX10_mostOf 63 = .ok (.ireturn, 1) := by decide +kernel
theorem dX10_freshText_0 : decode cX10_freshText 0 = .ok (.aload_n 0, 1) := by decide +kernel
theorem dX10_freshText_1 : decode cX10_freshText 1 = .ok (.getfield 13, 3) := by decide +kernel
theorem dX10_freshText_4 : decode cX10_freshText 4 = .ok (.iconst 0, 1) := by decide +kernel
theorem dX10_freshText_5 : decode cX10_freshText 5 = .ok (.iconst 5, 1) := by decide +kernel
theorem dX10_freshText_6 : decode cX10_freshText 6 = .ok (.iastore, 1) := by decide +kernel
theorem dX10_freshText_7 : decode cX10_freshText 7 = .ok (.aload_n 0, 1) := by decide +kernel
theorem dX10_freshText_8 : decode cX10_freshText 8 = .ok (.getfield 13, 3) := by decide +kernel
theorem dX10_freshText_11 : decode cX10_freshText 11 = .ok (.iconst 1, 1) := by decide +kernel
theorem dX10_freshText_12 : decode cX10_freshText 12 = .ok (.bipush 100, 2) := by decide +kernel
theorem dX10_freshText_14 : decode cX10_freshText 14 = .ok (.iastore, 1) := by decide +kernel
theorem dX10_freshText_15 : decode cX10_freshText 15 = .ok (.aload_n 0, 1) := by decide +kernel
theorem dX10_freshText_16 : decode cX10_freshText 16 = .ok (.getfield 13, 3) := by decide +kernel
theorem dX10_freshText_19 : decode cX10_freshText 19 = .ok (.iconst 2, 1) := by decide +kernel
theorem dX10_freshText_20 : decode cX10_freshText 20 = .ok (.sipush 300, 3) := by decide +kernel
theorem dX10_freshText_23 : decode cX10_freshText 23 = .ok (.iastore, 1) := by decide +kernel
theorem dX10_freshText_24 : decode cX10_freshText 24 = .ok (.aload_n 0, 1) := by decide +kernel
theorem dX10_freshText_25 : decode cX10_freshText 25 = .ok (.getfield 13, 3) := by decide +kernel
theorem dX10_freshText_28 : decode cX10_freshText 28 = .ok (.iconst 3, 1) := by decide +kernel
theorem dX10_freshText_29 : decode cX10_freshText 29 = .ok (.bipush 40, 2) := by decide +kernel
theorem dX10_freshText_31 : decode cX10_freshText 31 = .ok (.iastore, 1) := by decide +kernel
theorem dX10_freshText_32 : decode cX10_freshText 32 = .ok (.aload_n 0, 1) := by decide +kernel
theorem dX10_freshText_33 : decode cX10_freshText 33 = .ok (.getfield 13, 3) := by decide +kernel
theorem dX10_freshText_36 : decode cX10_freshText 36 = .ok (.iconst 4, 1) := by decide +kernel
theorem dX10_freshText_37 : decode cX10_freshText 37 = .ok (.iconst 0, 1) := by decide +kernel
theorem dX10_freshText_38 : decode cX10_freshText 38 = .ok (.iastore, 1) := by decide +kernel
theorem dX10_freshText_39 : decode cX10_freshText 39 = .ok (.aload_n 0, 1) := by decide +kernel
theorem dX10_freshText_40 : decode cX10_freshText 40 = .ok (.getfield 13, 3) := by decide +kernel
theorem dX10_freshText_43 : decode cX10_freshText 43 = .ok (.iconst 5, 1) := by decide +kernel
theorem dX10_freshText_44 : decode cX10_freshText 44 = .ok (.iconst 0, 1) := by decide +kernel
theorem dX10_freshText_45 : decode cX10_freshText 45 = .ok (.iastore, 1) := by decide +kernel
theorem dX10_freshText_46 : decode cX10_freshText 46 = .ok (.aload_n 0, 1) := by decide +kernel
theorem dX10_freshText_47 : decode cX10_freshText 47 = .ok (.getfield 13, 3) := by decide +kernel
theorem dX10_freshText_50 : decode cX10_freshText 50 = .ok (.bipush 6, 2) := by decide +kernel
theorem dX10_freshText_52 : decode cX10_freshText 52 = .ok (.iconst 2, 1) := by decide +kernel
theorem dX10_freshText_53 : decode cX10_freshText 53 = .ok (.iastore, 1) := by decide +kernel
theorem dX10_freshText_54 : decode cX10_freshText 54 = .ok (.aload_n 0, 1) := by decide +kernel
theorem dX10_freshText_55 : decode cX10_freshText 55 = .ok (.getfield 13, 3) := by decide +kernel
theorem dX10_freshText_58 : decode cX10_freshText 58 = .ok (.bipush 7, 2) := by decide +kernel
theorem dX10_freshText_60 : decode cX10_freshText 60 = .ok (.iconst 2, 1) := by decide +kernel
theorem dX10_freshText_61 : decode cX10_freshText 61 = .ok (.iastore, 1) := by decide +kernel
theorem dX10_freshText_62 : decode cX10_freshText 62 = .ok (.iconst 0, 1) := by decide +kernel
theorem dX10_freshText_63 : decode cX10_freshText 63 = .ok (.istore_n 1, 1) := by decide +kernel
theorem dX10_freshText_64 : decode cX10_freshText 64 = .ok (.iload_n 1, 1) := by decide +kernel
theorem dX10_freshText_65 : decode cX10_freshText 65 = .ok (.bipush 8, 2) := by decide +kernel
theorem dX10_freshText_67 : decode cX10_freshText 67 = .ok (.if_icmp .ge 16, 3) := by decide +kernel
theorem dX10_freshText_70 : decode cX10_freshText 70 = .ok (.aload_n 0, 1) := by decide +kernel
theorem dX10_freshText_71 : decode cX10_freshText 71 = .ok (.getfield 16, 3) := by decide +kernel
theorem dX10_freshText_74 : decode cX10_freshText 74 = .ok (.iload_n 1, 1) := by decide +kernel
theorem dX10_freshText_75 : decode cX10_freshText 75 = .ok (.iconst 0, 1) := by decide +kernel
theorem dX10_freshText_76 : decode cX10_freshText 76 = .ok (.bastore, 1) := by decide +kernel
theorem dX10_freshText_77 : decode cX10_freshText 77 = .ok (.iinc 1 1, 3) := by decide +kernel
theorem dX10_freshText_80 : decode cX10_freshText 80 = .ok (.goto (-16), 3) := by decide +kernel
theorem dX10_freshText_83 : decode cX10_freshText 83 = .ok (.aload_n 0, 1) := by decide +kernel
theorem dX10_freshText_84 : decode cX10_freshText 84 = .ok (.iconst 0, 1) := by decide +kernel
theorem dX10_freshText_85 : decode cX10_freshText 85 = .ok (.putfield 128, 3) := by decide +kernel
theorem dX10_freshText_88 : decode cX10_freshText 88 = .ok (.aload_n 0, 1) := by decide +kernel
theorem dX10_freshText_89 : decode cX10_freshText 89 = .ok (.iconst 0, 1) := by decide +kernel
theorem dX10_freshText_90 : decode cX10_freshText 90 = .ok (.putfield 108, 3) := by decide +kernel
theorem dX10_freshText_93 : decode cX10_freshText 93 = .ok (.aload_n 0, 1) := by decide +kernel
theorem dX10_freshText_94 : decode cX10_freshText 94 = .ok (.iconst 0, 1) := by decide +kernel
theorem dX10_freshText_95 : decode cX10_freshText 95 = .ok (.putfield 122, 3) := by decide +kernel
theorem dX10_freshText_98 : decode cX10_freshText 98 = .ok (.return_, 1) := by decide +kernel
theorem dX10_fault_0 : decode cX10_fault 0 = .ok (.aload_n 0, 1) := by decide +kernel
theorem dX10_fault_1 : decode cX10_fault 1 = .ok (.iconst 0, 1) := by decide +kernel
theorem dX10_fault_2 : decode cX10_fault 2 = .ok (.putfield 45, 3) := by decide +kernel
theorem dX10_fault_5 : decode cX10_fault 5 = .ok (.iload_n 1, 1) := by decide +kernel
theorem dX10_fault_6 : decode cX10_fault 6 = .ok (.ifCond .ne 10, 3) := by decide +kernel
theorem dX10_fault_9 : decode cX10_fault 9 = .ok (.aload_n 0, 1) := by decide +kernel
theorem dX10_fault_10 : decode cX10_fault 10 = .ok (.getfield 159, 3) := by decide +kernel
theorem dX10_fault_13 : decode cX10_fault 13 = .ok (.goto 16, 3) := by decide +kernel
theorem dX10_fault_16 : decode cX10_fault 16 = .ok (.iload_n 1, 1) := by decide +kernel
theorem dX10_fault_17 : decode cX10_fault 17 = .ok (.iconst 1, 1) := by decide +kernel
theorem dX10_fault_18 : decode cX10_fault 18 = .ok (.if_icmp .ne 10, 3) := by decide +kernel
theorem dX10_fault_21 : decode cX10_fault 21 = .ok (.aload_n 0, 1) := by decide +kernel
theorem dX10_fault_22 : decode cX10_fault 22 = .ok (.getfield 26, 3) := by decide +kernel
theorem dX10_fault_25 : decode cX10_fault 25 = .ok (.goto 4, 3) := by decide +kernel
theorem dX10_fault_28 : decode cX10_fault 28 = .ok (.iconst (-1), 1) := by decide +kernel
theorem dX10_fault_29 : decode cX10_fault 29 = .ok (.ireturn, 1) := by decide +kernel
theorem dX10_copies_0 : decode cX10_copies 0 = .ok (.iconst 0, 1) := by decide +kernel
theorem dX10_copies_1 : decode cX10_copies 1 = .ok (.istore_n 2, 1) := by decide +kernel
theorem dX10_copies_2 : decode cX10_copies 2 = .ok (.iload_n 2, 1) := by decide +kernel
theorem dX10_copies_3 : decode cX10_copies 3 = .ok (.sipush 3715, 3) := by decide +kernel
theorem dX10_copies_6 : decode cX10_copies 6 = .ok (.if_icmp .ge 15, 3) := by decide +kernel
theorem dX10_copies_9 : decode cX10_copies 9 = .ok (.aload_n 1, 1) := by decide +kernel
theorem dX10_copies_10 : decode cX10_copies 10 = .ok (.iload_n 2, 1) := by decide +kernel
theorem dX10_copies_11 : decode cX10_copies 11 = .ok (.aload_n 0, 1) := by decide +kernel
theorem dX10_copies_12 : decode cX10_copies 12 = .ok (.iload_n 2, 1) := by decide +kernel
theorem dX10_copies_13 : decode cX10_copies 13 = .ok (.iaload, 1) := by decide +kernel
theorem dX10_copies_14 : decode cX10_copies 14 = .ok (.iastore, 1) := by decide +kernel
theorem dX10_copies_15 : decode cX10_copies 15 = .ok (.iinc 2 1, 3) := by decide +kernel
theorem dX10_copies_18 : decode cX10_copies 18 = .ok (.goto (-16), 3) := by decide +kernel
theorem dX10_copies_21 : decode cX10_copies 21 = .ok (.return_, 1) := by decide +kernel
theorem dX10_senderOf_0 : decode cX10_senderOf 0 = .ok (.aload_n 0, 1) := by decide +kernel
theorem dX10_senderOf_1 : decode cX10_senderOf 1 = .ok (.getfield 30, 3) := by decide +kernel
theorem dX10_senderOf_4 : decode cX10_senderOf 4 = .ok (.sipush 3478, 3) := by decide +kernel
theorem dX10_senderOf_7 : decode cX10_senderOf 7 = .ok (.bipush 9, 2) := by decide +kernel
theorem dX10_senderOf_9 : decode cX10_senderOf 9 = .ok (.iload_n 1, 1) := by decide +kernel
theorem dX10_senderOf_10 : decode cX10_senderOf 10 = .ok (.imul, 1) := by decide +kernel
theorem dX10_senderOf_11 : decode cX10_senderOf 11 = .ok (.iadd, 1) := by decide +kernel
theorem dX10_senderOf_12 : decode cX10_senderOf 12 = .ok (.iload_n 2, 1) := by decide +kernel
theorem dX10_senderOf_13 : decode cX10_senderOf 13 = .ok (.iadd, 1) := by decide +kernel
theorem dX10_senderOf_14 : decode cX10_senderOf 14 = .ok (.iaload, 1) := by decide +kernel
theorem dX10_senderOf_15 : decode cX10_senderOf 15 = .ok (.ireturn, 1) := by decide +kernel
theorem dX10_sends0_0 : decode cX10_sends0 0 = .ok (.aload_n 0, 1) := by decide +kernel
theorem dX10_sends0_1 : decode cX10_sends0 1 = .ok (.getfield 30, 3) := by decide +kernel
theorem dX10_sends0_4 : decode cX10_sends0 4 = .ok (.sipush 3478, 3) := by decide +kernel
theorem dX10_sends0_7 : decode cX10_sends0 7 = .ok (.bipush 9, 2) := by decide +kernel
theorem dX10_sends0_9 : decode cX10_sends0 9 = .ok (.iload_n 1, 1) := by decide +kernel
theorem dX10_sends0_10 : decode cX10_sends0 10 = .ok (.imul, 1) := by decide +kernel
theorem dX10_sends0_11 : decode cX10_sends0 11 = .ok (.iadd, 1) := by decide +kernel
theorem dX10_sends0_12 : decode cX10_sends0 12 = .ok (.iload_n 2, 1) := by decide +kernel
theorem dX10_sends0_13 : decode cX10_sends0 13 = .ok (.iadd, 1) := by decide +kernel
theorem dX10_sends0_14 : decode cX10_sends0 14 = .ok (.iload_n 3, 1) := by decide +kernel
theorem dX10_sends0_15 : decode cX10_sends0 15 = .ok (.iastore, 1) := by decide +kernel
theorem dX10_sends0_16 : decode cX10_sends0 16 = .ok (.return_, 1) := by decide +kernel
theorem dX10_of_0 : decode cX10_of 0 = .ok (.aload_n 0, 1) := by decide +kernel
theorem dX10_of_1 : decode cX10_of 1 = .ok (.getfield 30, 3) := by decide +kernel
theorem dX10_of_4 : decode cX10_of 4 = .ok (.bipush 68, 2) := by decide +kernel
theorem dX10_of_6 : decode cX10_of 6 = .ok (.bipush 13, 2) := by decide +kernel
theorem dX10_of_8 : decode cX10_of 8 = .ok (.iload_n 1, 1) := by decide +kernel
theorem dX10_of_9 : decode cX10_of 9 = .ok (.imul, 1) := by decide +kernel
theorem dX10_of_10 : decode cX10_of 10 = .ok (.iadd, 1) := by decide +kernel
theorem dX10_of_11 : decode cX10_of 11 = .ok (.iload_n 2, 1) := by decide +kernel
theorem dX10_of_12 : decode cX10_of 12 = .ok (.iadd, 1) := by decide +kernel
theorem dX10_of_13 : decode cX10_of 13 = .ok (.iaload, 1) := by decide +kernel
theorem dX10_of_14 : decode cX10_of 14 = .ok (.ireturn, 1) := by decide +kernel
theorem dX10_puts_0 : decode cX10_puts 0 = .ok (.aload_n 0, 1) := by decide +kernel
theorem dX10_puts_1 : decode cX10_puts 1 = .ok (.getfield 30, 3) := by decide +kernel
theorem dX10_puts_4 : decode cX10_puts 4 = .ok (.bipush 68, 2) := by decide +kernel
theorem dX10_puts_6 : decode cX10_puts 6 = .ok (.bipush 13, 2) := by decide +kernel
theorem dX10_puts_8 : decode cX10_puts 8 = .ok (.iload_n 1, 1) := by decide +kernel
theorem dX10_puts_9 : decode cX10_puts 9 = .ok (.imul, 1) := by decide +kernel
theorem dX10_puts_10 : decode cX10_puts 10 = .ok (.iadd, 1) := by decide +kernel
theorem dX10_puts_11 : decode cX10_puts 11 = .ok (.iload_n 2, 1) := by decide +kernel
theorem dX10_puts_12 : decode cX10_puts 12 = .ok (.iadd, 1) := by decide +kernel
theorem dX10_puts_13 : decode cX10_puts 13 = .ok (.iload_n 3, 1) := by decide +kernel
theorem dX10_puts_14 : decode cX10_puts 14 = .ok (.iastore, 1) := by decide +kernel
theorem dX10_puts_15 : decode cX10_puts 15 = .ok (.return_, 1) := by decide +kernel
theorem dX10_frameOf_0 : decode cX10_frameOf 0 = .ok (.aload_n 0, 1) := by decide +kernel
theorem dX10_frameOf_1 : decode cX10_frameOf 1 = .ok (.getfield 30, 3) := by decide +kernel
theorem dX10_frameOf_4 : decode cX10_frameOf 4 = .ok (.sipush 276, 3) := by decide +kernel
theorem dX10_frameOf_7 : decode cX10_frameOf 7 = .ok (.bipush 12, 2) := by decide +kernel
theorem dX10_frameOf_9 : decode cX10_frameOf 9 = .ok (.iload_n 1, 1) := by decide +kernel
theorem dX10_frameOf_10 : decode cX10_frameOf 10 = .ok (.imul, 1) := by decide +kernel
theorem dX10_frameOf_11 : decode cX10_frameOf 11 = .ok (.iadd, 1) := by decide +kernel
theorem dX10_frameOf_12 : decode cX10_frameOf 12 = .ok (.iload_n 2, 1) := by decide +kernel
theorem dX10_frameOf_13 : decode cX10_frameOf 13 = .ok (.iadd, 1) := by decide +kernel
theorem dX10_frameOf_14 : decode cX10_frameOf 14 = .ok (.iaload, 1) := by decide +kernel
theorem dX10_frameOf_15 : decode cX10_frameOf 15 = .ok (.ireturn, 1) := by decide +kernel
theorem dX10_frames_0 : decode cX10_frames 0 = .ok (.aload_n 0, 1) := by decide +kernel
theorem dX10_frames_1 : decode cX10_frames 1 = .ok (.getfield 30, 3) := by decide +kernel
theorem dX10_frames_4 : decode cX10_frames 4 = .ok (.sipush 276, 3) := by decide +kernel
theorem dX10_frames_7 : decode cX10_frames 7 = .ok (.bipush 12, 2) := by decide +kernel
theorem dX10_frames_9 : decode cX10_frames 9 = .ok (.iload_n 1, 1) := by decide +kernel
theorem dX10_frames_10 : decode cX10_frames 10 = .ok (.imul, 1) := by decide +kernel
theorem dX10_frames_11 : decode cX10_frames 11 = .ok (.iadd, 1) := by decide +kernel
theorem dX10_frames_12 : decode cX10_frames 12 = .ok (.iload_n 2, 1) := by decide +kernel
theorem dX10_frames_13 : decode cX10_frames 13 = .ok (.iadd, 1) := by decide +kernel
theorem dX10_frames_14 : decode cX10_frames 14 = .ok (.iload_n 3, 1) := by decide +kernel
theorem dX10_frames_15 : decode cX10_frames 15 = .ok (.iastore, 1) := by decide +kernel
theorem dX10_frames_16 : decode cX10_frames 16 = .ok (.return_, 1) := by decide +kernel
theorem dX10_target_0 : decode cX10_target 0 = .ok (.aload_n 0, 1) := by decide +kernel
theorem dX10_target_1 : decode cX10_target 1 = .ok (.getfield 30, 3) := by decide +kernel
theorem dX10_target_4 : decode cX10_target 4 = .ok (.iconst 4, 1) := by decide +kernel
theorem dX10_target_5 : decode cX10_target 5 = .ok (.iaload, 1) := by decide +kernel
theorem dX10_target_6 : decode cX10_target 6 = .ok (.ireturn, 1) := by decide +kernel
theorem dX10_interval_0 : decode cX10_interval 0 = .ok (.aload_n 0, 1) := by decide +kernel
theorem dX10_interval_1 : decode cX10_interval 1 = .ok (.getfield 30, 3) := by decide +kernel
theorem dX10_interval_4 : decode cX10_interval 4 = .ok (.iconst 5, 1) := by decide +kernel
theorem dX10_interval_5 : decode cX10_interval 5 = .ok (.iaload, 1) := by decide +kernel
theorem dX10_interval_6 : decode cX10_interval 6 = .ok (.ireturn, 1) := by decide +kernel
theorem dX10_quantum_0 : decode cX10_quantum 0 = .ok (.aload_n 0, 1) := by decide +kernel
theorem dX10_quantum_1 : decode cX10_quantum 1 = .ok (.getfield 30, 3) := by decide +kernel
theorem dX10_quantum_4 : decode cX10_quantum 4 = .ok (.bipush 6, 2) := by decide +kernel
theorem dX10_quantum_6 : decode cX10_quantum 6 = .ok (.iaload, 1) := by decide +kernel
theorem dX10_quantum_7 : decode cX10_quantum 7 = .ok (.ireturn, 1) := by decide +kernel
theorem dX10_buckets_0 : decode cX10_buckets 0 = .ok (.aload_n 0, 1) := by decide +kernel
theorem dX10_buckets_1 : decode cX10_buckets 1 = .ok (.getfield 30, 3) := by decide +kernel
theorem dX10_buckets_4 : decode cX10_buckets 4 = .ok (.bipush 10, 2) := by decide +kernel
theorem dX10_buckets_6 : decode cX10_buckets 6 = .ok (.iaload, 1) := by decide +kernel
theorem dX10_buckets_7 : decode cX10_buckets 7 = .ok (.aload_n 0, 1) := by decide +kernel
theorem dX10_buckets_8 : decode cX10_buckets 8 = .ok (.getfield 30, 3) := by decide +kernel
theorem dX10_buckets_11 : decode cX10_buckets 11 = .ok (.bipush 11, 2) := by decide +kernel
theorem dX10_buckets_13 : decode cX10_buckets 13 = .ok (.iaload, 1) := by decide +kernel
theorem dX10_buckets_14 : decode cX10_buckets 14 = .ok (.imul, 1) := by decide +kernel
theorem dX10_buckets_15 : decode cX10_buckets 15 = .ok (.ireturn, 1) := by decide +kernel
theorem dX10_manyIn_0 : decode cX10_manyIn 0 = .ok (.aload_n 0, 1) := by decide +kernel
theorem dX10_manyIn_1 : decode cX10_manyIn 1 = .ok (.getfield 30, 3) := by decide +kernel
theorem dX10_manyIn_4 : decode cX10_manyIn 4 = .ok (.bipush 12, 2) := by decide +kernel
theorem dX10_manyIn_6 : decode cX10_manyIn 6 = .ok (.iload_n 1, 1) := by decide +kernel
theorem dX10_manyIn_7 : decode cX10_manyIn 7 = .ok (.iadd, 1) := by decide +kernel
theorem dX10_manyIn_8 : decode cX10_manyIn 8 = .ok (.iconst 1, 1) := by decide +kernel
theorem dX10_manyIn_9 : decode cX10_manyIn 9 = .ok (.isub, 1) := by decide +kernel
theorem dX10_manyIn_10 : decode cX10_manyIn 10 = .ok (.iaload, 1) := by decide +kernel
theorem dX10_manyIn_11 : decode cX10_manyIn 11 = .ok (.ireturn, 1) := by decide +kernel
theorem dX10_inList_0 : decode cX10_inList 0 = .ok (.aload_n 0, 1) := by decide +kernel
theorem dX10_inList_1 : decode cX10_inList 1 = .ok (.getfield 30, 3) := by decide +kernel
theorem dX10_inList_4 : decode cX10_inList 4 = .ok (.bipush 18, 2) := by decide +kernel
theorem dX10_inList_6 : decode cX10_inList 6 = .ok (.bipush 16, 2) := by decide +kernel
theorem dX10_inList_8 : decode cX10_inList 8 = .ok (.iload_n 1, 1) := by decide +kernel
theorem dX10_inList_9 : decode cX10_inList 9 = .ok (.iconst 1, 1) := by decide +kernel
theorem dX10_inList_10 : decode cX10_inList 10 = .ok (.isub, 1) := by decide +kernel
theorem dX10_inList_11 : decode cX10_inList 11 = .ok (.imul, 1) := by decide +kernel
theorem dX10_inList_12 : decode cX10_inList 12 = .ok (.iadd, 1) := by decide +kernel
theorem dX10_inList_13 : decode cX10_inList 13 = .ok (.iload_n 2, 1) := by decide +kernel
theorem dX10_inList_14 : decode cX10_inList 14 = .ok (.iadd, 1) := by decide +kernel
theorem dX10_inList_15 : decode cX10_inList 15 = .ok (.iaload, 1) := by decide +kernel
theorem dX10_inList_16 : decode cX10_inList 16 = .ok (.ireturn, 1) := by decide +kernel
theorem dX10_happens_0 : decode cX10_happens 0 = .ok (.aload_n 0, 1) := by decide +kernel
theorem dX10_happens_1 : decode cX10_happens 1 = .ok (.getfield 30, 3) := by decide +kernel
theorem dX10_happens_4 : decode cX10_happens 4 = .ok (.sipush 2676, 3) := by decide +kernel
theorem dX10_happens_7 : decode cX10_happens 7 = .ok (.sipush 200, 3) := by decide +kernel
theorem dX10_happens_10 : decode cX10_happens 10 = .ok (.iload_n 1, 1) := by decide +kernel
theorem dX10_happens_11 : decode cX10_happens 11 = .ok (.imul, 1) := by decide +kernel
theorem dX10_happens_12 : decode cX10_happens 12 = .ok (.iadd, 1) := by decide +kernel
theorem dX10_happens_13 : decode cX10_happens 13 = .ok (.aload_n 0, 1) := by decide +kernel
theorem dX10_happens_14 : decode cX10_happens 14 = .ok (.getfield 30, 3) := by decide +kernel
theorem dX10_happens_17 : decode cX10_happens 17 = .ok (.bipush 14, 2) := by decide +kernel
theorem dX10_happens_19 : decode cX10_happens 19 = .ok (.iload_n 1, 1) := by decide +kernel
theorem dX10_happens_20 : decode cX10_happens 20 = .ok (.iadd, 1) := by decide +kernel
theorem dX10_happens_21 : decode cX10_happens 21 = .ok (.iaload, 1) := by decide +kernel
theorem dX10_happens_22 : decode cX10_happens 22 = .ok (.iadd, 1) := by decide +kernel
theorem dX10_happens_23 : decode cX10_happens 23 = .ok (.iload_n 2, 1) := by decide +kernel
theorem dX10_happens_24 : decode cX10_happens 24 = .ok (.iastore, 1) := by decide +kernel
theorem dX10_happens_25 : decode cX10_happens 25 = .ok (.aload_n 0, 1) := by decide +kernel
theorem dX10_happens_26 : decode cX10_happens 26 = .ok (.getfield 30, 3) := by decide +kernel
theorem dX10_happens_29 : decode cX10_happens 29 = .ok (.bipush 14, 2) := by decide +kernel
theorem dX10_happens_31 : decode cX10_happens 31 = .ok (.iload_n 1, 1) := by decide +kernel
theorem dX10_happens_32 : decode cX10_happens 32 = .ok (.iadd, 1) := by decide +kernel
theorem dX10_happens_33 : decode cX10_happens 33 = .ok (.dup2, 1) := by decide +kernel
theorem dX10_happens_34 : decode cX10_happens 34 = .ok (.iaload, 1) := by decide +kernel
theorem dX10_happens_35 : decode cX10_happens 35 = .ok (.iconst 1, 1) := by decide +kernel
theorem dX10_happens_36 : decode cX10_happens 36 = .ok (.iadd, 1) := by decide +kernel
theorem dX10_happens_37 : decode cX10_happens 37 = .ok (.iastore, 1) := by decide +kernel
theorem dX10_happens_38 : decode cX10_happens 38 = .ok (.return_, 1) := by decide +kernel
theorem dX10_watches_0 : decode cX10_watches 0 = .ok (.iconst 0, 1) := by decide +kernel
theorem dX10_watches_1 : decode cX10_watches 1 = .ok (.istore 4, 2) := by decide +kernel
theorem dX10_watches_3 : decode cX10_watches 3 = .ok (.iload 4, 2) := by decide +kernel
theorem dX10_watches_5 : decode cX10_watches 5 = .ok (.aload_n 0, 1) := by decide +kernel
theorem dX10_watches_6 : decode cX10_watches 6 = .ok (.getfield 30, 3) := by decide +kernel
theorem dX10_watches_9 : decode cX10_watches 9 = .ok (.iconst 3, 1) := by decide +kernel
theorem dX10_watches_10 : decode cX10_watches 10 = .ok (.iaload, 1) := by decide +kernel
theorem dX10_watches_11 : decode cX10_watches 11 = .ok (.if_icmp .ge 78, 3) := by decide +kernel
theorem dX10_watches_14 : decode cX10_watches 14 = .ok (.aload_n 0, 1) := by decide +kernel
theorem dX10_watches_15 : decode cX10_watches 15 = .ok (.getfield 30, 3) := by decide +kernel
theorem dX10_watches_18 : decode cX10_watches 18 = .ok (.bipush 50, 2) := by decide +kernel
theorem dX10_watches_20 : decode cX10_watches 20 = .ok (.iconst 3, 1) := by decide +kernel
theorem dX10_watches_21 : decode cX10_watches 21 = .ok (.iload 4, 2) := by decide +kernel
theorem dX10_watches_23 : decode cX10_watches 23 = .ok (.imul, 1) := by decide +kernel
theorem dX10_watches_24 : decode cX10_watches 24 = .ok (.iadd, 1) := by decide +kernel
theorem dX10_watches_25 : decode cX10_watches 25 = .ok (.iconst 1, 1) := by decide +kernel
theorem dX10_watches_26 : decode cX10_watches 26 = .ok (.iadd, 1) := by decide +kernel
theorem dX10_watches_27 : decode cX10_watches 27 = .ok (.iaload, 1) := by decide +kernel
theorem dX10_watches_28 : decode cX10_watches 28 = .ok (.istore 5, 2) := by decide +kernel
theorem dX10_watches_30 : decode cX10_watches 30 = .ok (.aload_n 0, 1) := by decide +kernel
theorem dX10_watches_31 : decode cX10_watches 31 = .ok (.getfield 30, 3) := by decide +kernel
theorem dX10_watches_34 : decode cX10_watches 34 = .ok (.bipush 50, 2) := by decide +kernel
theorem dX10_watches_36 : decode cX10_watches 36 = .ok (.iconst 3, 1) := by decide +kernel
theorem dX10_watches_37 : decode cX10_watches 37 = .ok (.iload 4, 2) := by decide +kernel
theorem dX10_watches_39 : decode cX10_watches 39 = .ok (.imul, 1) := by decide +kernel
theorem dX10_watches_40 : decode cX10_watches 40 = .ok (.iadd, 1) := by decide +kernel
theorem dX10_watches_41 : decode cX10_watches 41 = .ok (.iaload, 1) := by decide +kernel
theorem dX10_watches_42 : decode cX10_watches 42 = .ok (.iload_n 1, 1) := by decide +kernel
theorem dX10_watches_43 : decode cX10_watches 43 = .ok (.if_icmp .ne 40, 3) := by decide +kernel
theorem dX10_watches_46 : decode cX10_watches 46 = .ok (.iload_n 3, 1) := by decide +kernel
theorem dX10_watches_47 : decode cX10_watches 47 = .ok (.ifCond .eq 12, 3) := by decide +kernel
theorem dX10_watches_50 : decode cX10_watches 50 = .ok (.iload_n 2, 1) := by decide +kernel
theorem dX10_watches_51 : decode cX10_watches 51 = .ok (.iload 5, 2) := by decide +kernel
theorem dX10_watches_53 : decode cX10_watches 53 = .ok (.if_icmp .lt 30, 3) := by decide +kernel
theorem dX10_watches_56 : decode cX10_watches 56 = .ok (.goto 9, 3) := by decide +kernel
theorem dX10_watches_59 : decode cX10_watches 59 = .ok (.iload_n 2, 1) := by decide +kernel
theorem dX10_watches_60 : decode cX10_watches 60 = .ok (.iload 5, 2) := by decide +kernel
theorem dX10_watches_62 : decode cX10_watches 62 = .ok (.if_icmp .ne 21, 3) := by decide +kernel
theorem dX10_watches_65 : decode cX10_watches 65 = .ok (.aload_n 0, 1) := by decide +kernel
theorem dX10_watches_66 : decode cX10_watches 66 = .ok (.getfield 30, 3) := by decide +kernel
theorem dX10_watches_69 : decode cX10_watches 69 = .ok (.bipush 50, 2) := by decide +kernel
theorem dX10_watches_71 : decode cX10_watches 71 = .ok (.iconst 3, 1) := by decide +kernel
theorem dX10_watches_72 : decode cX10_watches 72 = .ok (.iload 4, 2) := by decide +kernel
theorem dX10_watches_74 : decode cX10_watches 74 = .ok (.imul, 1) := by decide +kernel
theorem dX10_watches_75 : decode cX10_watches 75 = .ok (.iadd, 1) := by decide +kernel
theorem dX10_watches_76 : decode cX10_watches 76 = .ok (.iconst 2, 1) := by decide +kernel
theorem dX10_watches_77 : decode cX10_watches 77 = .ok (.iadd, 1) := by decide +kernel
theorem dX10_watches_78 : decode cX10_watches 78 = .ok (.dup2, 1) := by decide +kernel
theorem dX10_watches_79 : decode cX10_watches 79 = .ok (.iaload, 1) := by decide +kernel
theorem dX10_watches_80 : decode cX10_watches 80 = .ok (.iconst 1, 1) := by decide +kernel
theorem dX10_watches_81 : decode cX10_watches 81 = .ok (.iadd, 1) := by decide +kernel
theorem dX10_watches_82 : decode cX10_watches 82 = .ok (.iastore, 1) := by decide +kernel
theorem dX10_watches_83 : decode cX10_watches 83 = .ok (.iinc 4 1, 3) := by decide +kernel
theorem dX10_watches_86 : decode cX10_watches 86 = .ok (.goto (-83), 3) := by decide +kernel
theorem dX10_watches_89 : decode cX10_watches 89 = .ok (.return_, 1) := by decide +kernel
theorem dX10_setOf_0 : decode cX10_setOf 0 = .ok (.iload_n 0, 1) := by decide +kernel
theorem dX10_setOf_1 : decode cX10_setOf 1 = .ok (.ldc 179, 2) := by decide +kernel
theorem dX10_setOf_3 : decode cX10_setOf 3 = .ok (.imul, 1) := by decide +kernel
theorem dX10_setOf_4 : decode cX10_setOf 4 = .ok (.ldc 180, 2) := by decide +kernel
theorem dX10_setOf_6 : decode cX10_setOf 6 = .ok (.irem, 1) := by decide +kernel
theorem dX10_setOf_7 : decode cX10_setOf 7 = .ok (.sipush 256, 3) := by decide +kernel
theorem dX10_setOf_10 : decode cX10_setOf 10 = .ok (.idiv, 1) := by decide +kernel
theorem dX10_setOf_11 : decode cX10_setOf 11 = .ok (.iload_n 1, 1) := by decide +kernel
theorem dX10_setOf_12 : decode cX10_setOf 12 = .ok (.irem, 1) := by decide +kernel
theorem dX10_setOf_13 : decode cX10_setOf 13 = .ok (.ireturn, 1) := by decide +kernel
theorem dX10_stepped_0 : decode cX10_stepped 0 = .ok (.iload_n 0, 1) := by decide +kernel
theorem dX10_stepped_1 : decode cX10_stepped 1 = .ok (.i2l, 1) := by decide +kernel
theorem dX10_stepped_2 : decode cX10_stepped 2 = .ok (.iload_n 0, 1) := by decide +kernel
theorem dX10_stepped_3 : decode cX10_stepped 3 = .ok (.i2l, 1) := by decide +kernel
theorem dX10_stepped_4 : decode cX10_stepped 4 = .ok (.lmul, 1) := by decide +kernel
theorem dX10_stepped_5 : decode cX10_stepped 5 = .ok (.ldc2_w 228, 3) := by decide +kernel
theorem dX10_stepped_8 : decode cX10_stepped 8 = .ok (.ldiv, 1) := by decide +kernel
theorem dX10_stepped_9 : decode cX10_stepped 9 = .ok (.lstore_n 2, 1) := by decide +kernel
theorem dX10_stepped_10 : decode cX10_stepped 10 = .ok (.iload_n 0, 1) := by decide +kernel
theorem dX10_stepped_11 : decode cX10_stepped 11 = .ok (.i2l, 1) := by decide +kernel
theorem dX10_stepped_12 : decode cX10_stepped 12 = .ok (.ldc2_w 230, 3) := by decide +kernel
theorem dX10_stepped_15 : decode cX10_stepped 15 = .ok (.iload_n 1, 1) := by decide +kernel
theorem dX10_stepped_16 : decode cX10_stepped 16 = .ok (.i2l, 1) := by decide +kernel
theorem dX10_stepped_17 : decode cX10_stepped 17 = .ok (.lload_n 2, 1) := by decide +kernel
theorem dX10_stepped_18 : decode cX10_stepped 18 = .ok (.lmul, 1) := by decide +kernel
theorem dX10_stepped_19 : decode cX10_stepped 19 = .ok (.lsub, 1) := by decide +kernel
theorem dX10_stepped_20 : decode cX10_stepped 20 = .ok (.lmul, 1) := by decide +kernel
theorem dX10_stepped_21 : decode cX10_stepped 21 = .ok (.lstore 4, 2) := by decide +kernel
theorem dX10_stepped_23 : decode cX10_stepped 23 = .ok (.lload 4, 2) := by decide +kernel
theorem dX10_stepped_25 : decode cX10_stepped 25 = .ok (.ldc2_w 232, 3) := by decide +kernel
theorem dX10_stepped_28 : decode cX10_stepped 28 = .ok (.ldiv, 1) := by decide +kernel
theorem dX10_stepped_29 : decode cX10_stepped 29 = .ok (.lstore 6, 2) := by decide +kernel
theorem dX10_stepped_31 : decode cX10_stepped 31 = .ok (.lload 6, 2) := by decide +kernel
theorem dX10_stepped_33 : decode cX10_stepped 33 = .ok (.ldc2_w 232, 3) := by decide +kernel
theorem dX10_stepped_36 : decode cX10_stepped 36 = .ok (.lmul, 1) := by decide +kernel
theorem dX10_stepped_37 : decode cX10_stepped 37 = .ok (.lload 4, 2) := by decide +kernel
theorem dX10_stepped_39 : decode cX10_stepped 39 = .ok (.lcmp, 1) := by decide +kernel
theorem dX10_stepped_40 : decode cX10_stepped 40 = .ok (.ifCond .le 9, 3) := by decide +kernel
theorem dX10_stepped_43 : decode cX10_stepped 43 = .ok (.lload 6, 2) := by decide +kernel
theorem dX10_stepped_45 : decode cX10_stepped 45 = .ok (.lconst 1, 1) := by decide +kernel
theorem dX10_stepped_46 : decode cX10_stepped 46 = .ok (.lsub, 1) := by decide +kernel
theorem dX10_stepped_47 : decode cX10_stepped 47 = .ok (.lstore 6, 2) := by decide +kernel
theorem dX10_stepped_49 : decode cX10_stepped 49 = .ok (.lload 6, 2) := by decide +kernel
theorem dX10_stepped_51 : decode cX10_stepped 51 = .ok (.lconst 1, 1) := by decide +kernel
theorem dX10_stepped_52 : decode cX10_stepped 52 = .ok (.lcmp, 1) := by decide +kernel
theorem dX10_stepped_53 : decode cX10_stepped 53 = .ok (.ifCond .ge 7, 3) := by decide +kernel
theorem dX10_stepped_56 : decode cX10_stepped 56 = .ok (.iconst 1, 1) := by decide +kernel
theorem dX10_stepped_57 : decode cX10_stepped 57 = .ok (.goto 20, 3) := by decide +kernel
theorem dX10_stepped_60 : decode cX10_stepped 60 = .ok (.lload 6, 2) := by decide +kernel
theorem dX10_stepped_62 : decode cX10_stepped 62 = .ok (.ldc2_w 234, 3) := by decide +kernel
theorem dX10_stepped_65 : decode cX10_stepped 65 = .ok (.lcmp, 1) := by decide +kernel
theorem dX10_stepped_66 : decode cX10_stepped 66 = .ok (.ifCond .le 8, 3) := by decide +kernel
theorem dX10_stepped_69 : decode cX10_stepped 69 = .ok (.ldc 169, 2) := by decide +kernel
theorem dX10_stepped_71 : decode cX10_stepped 71 = .ok (.goto 6, 3) := by decide +kernel
theorem dX10_stepped_74 : decode cX10_stepped 74 = .ok (.lload 6, 2) := by decide +kernel
theorem dX10_stepped_76 : decode cX10_stepped 76 = .ok (.l2i, 1) := by decide +kernel
theorem dX10_stepped_77 : decode cX10_stepped 77 = .ok (.ireturn, 1) := by decide +kernel
theorem dX10_isTicks_0 : decode cX10_isTicks 0 = .ok (.iload_n 0, 1) := by decide +kernel
theorem dX10_isTicks_1 : decode cX10_isTicks 1 = .ok (.iconst 1, 1) := by decide +kernel
theorem dX10_isTicks_2 : decode cX10_isTicks 2 = .ok (.if_icmp .lt 14, 3) := by decide +kernel
theorem dX10_isTicks_5 : decode cX10_isTicks 5 = .ok (.iload_n 0, 1) := by decide +kernel
theorem dX10_isTicks_6 : decode cX10_isTicks 6 = .ok (.sipush 200, 3) := by decide +kernel
theorem dX10_isTicks_9 : decode cX10_isTicks 9 = .ok (.if_icmp .gt 7, 3) := by decide +kernel
theorem dX10_isTicks_12 : decode cX10_isTicks 12 = .ok (.iconst 1, 1) := by decide +kernel
theorem dX10_isTicks_13 : decode cX10_isTicks 13 = .ok (.goto 4, 3) := by decide +kernel
theorem dX10_isTicks_16 : decode cX10_isTicks 16 = .ok (.iconst 0, 1) := by decide +kernel
theorem dX10_isTicks_17 : decode cX10_isTicks 17 = .ok (.ireturn, 1) := by decide +kernel
theorem dX10_pass_0 : decode cX10_pass 0 = .ok (.aload_n 0, 1) := by decide +kernel
theorem dX10_pass_1 : decode cX10_pass 1 = .ok (.iconst 0, 1) := by decide +kernel
theorem dX10_pass_2 : decode cX10_pass 2 = .ok (.putfield 45, 3) := by decide +kernel
theorem dX10_pass_5 : decode cX10_pass 5 = .ok (.iload_n 1, 1) := by decide +kernel
theorem dX10_pass_6 : decode cX10_pass 6 = .ok (.iconst 1, 1) := by decide +kernel
theorem dX10_pass_7 : decode cX10_pass 7 = .ok (.if_icmp .lt 24, 3) := by decide +kernel
theorem dX10_pass_10 : decode cX10_pass 10 = .ok (.iload_n 1, 1) := by decide +kernel
theorem dX10_pass_11 : decode cX10_pass 11 = .ok (.sipush 999, 3) := by decide +kernel
theorem dX10_pass_14 : decode cX10_pass 14 = .ok (.if_icmp .gt 17, 3) := by decide +kernel
theorem dX10_pass_17 : decode cX10_pass 17 = .ok (.aload_n 0, 1) := by decide +kernel
theorem dX10_pass_18 : decode cX10_pass 18 = .ok (.getfield 30, 3) := by decide +kernel
theorem dX10_pass_21 : decode cX10_pass 21 = .ok (.iconst 0, 1) := by decide +kernel
theorem dX10_pass_22 : decode cX10_pass 22 = .ok (.iaload, 1) := by decide +kernel
theorem dX10_pass_23 : decode cX10_pass 23 = .ok (.iload_n 1, 1) := by decide +kernel
theorem dX10_pass_24 : decode cX10_pass 24 = .ok (.iadd, 1) := by decide +kernel
theorem dX10_pass_25 : decode cX10_pass 25 = .ok (.ldc_w 300, 3) := by decide +kernel
theorem dX10_pass_28 : decode cX10_pass 28 = .ok (.if_icmp .le 5, 3) := by decide +kernel
theorem dX10_pass_31 : decode cX10_pass 31 = .ok (.iconst (-1), 1) := by decide +kernel
theorem dX10_pass_32 : decode cX10_pass 32 = .ok (.ireturn, 1) := by decide +kernel
theorem dX10_pass_33 : decode cX10_pass 33 = .ok (.aload_n 0, 1) := by decide +kernel
theorem dX10_pass_34 : decode cX10_pass 34 = .ok (.getfield 30, 3) := by decide +kernel
theorem dX10_pass_37 : decode cX10_pass 37 = .ok (.iconst 0, 1) := by decide +kernel
theorem dX10_pass_38 : decode cX10_pass 38 = .ok (.dup2, 1) := by decide +kernel
theorem dX10_pass_39 : decode cX10_pass 39 = .ok (.iaload, 1) := by decide +kernel
theorem dX10_pass_40 : decode cX10_pass 40 = .ok (.iload_n 1, 1) := by decide +kernel
theorem dX10_pass_41 : decode cX10_pass 41 = .ok (.iadd, 1) := by decide +kernel
theorem dX10_pass_42 : decode cX10_pass 42 = .ok (.iastore, 1) := by decide +kernel
theorem dX10_pass_43 : decode cX10_pass 43 = .ok (.aload_n 0, 1) := by decide +kernel
theorem dX10_pass_44 : decode cX10_pass 44 = .ok (.getfield 30, 3) := by decide +kernel
theorem dX10_pass_47 : decode cX10_pass 47 = .ok (.iconst 0, 1) := by decide +kernel
theorem dX10_pass_48 : decode cX10_pass 48 = .ok (.iaload, 1) := by decide +kernel
theorem dX10_pass_49 : decode cX10_pass 49 = .ok (.ireturn, 1) := by decide +kernel
theorem dX10_watch_0 : decode cX10_watch 0 = .ok (.aload_n 0, 1) := by decide +kernel
theorem dX10_watch_1 : decode cX10_watch 1 = .ok (.iconst 0, 1) := by decide +kernel
theorem dX10_watch_2 : decode cX10_watch 2 = .ok (.putfield 45, 3) := by decide +kernel
theorem dX10_watch_5 : decode cX10_watch 5 = .ok (.iload_n 1, 1) := by decide +kernel
theorem dX10_watch_6 : decode cX10_watch 6 = .ok (.ifCond .lt 18, 3) := by decide +kernel
theorem dX10_watch_9 : decode cX10_watch 9 = .ok (.iload_n 1, 1) := by decide +kernel
theorem dX10_watch_10 : decode cX10_watch 10 = .ok (.iconst 5, 1) := by decide +kernel
theorem dX10_watch_11 : decode cX10_watch 11 = .ok (.if_icmp .gt 13, 3) := by decide +kernel
theorem dX10_watch_14 : decode cX10_watch 14 = .ok (.iload_n 2, 1) := by decide +kernel
theorem dX10_watch_15 : decode cX10_watch 15 = .ok (.ifCond .lt 9, 3) := by decide +kernel
theorem dX10_watch_18 : decode cX10_watch 18 = .ok (.iload_n 2, 1) := by decide +kernel
theorem dX10_watch_19 : decode cX10_watch 19 = .ok (.ldc 80, 2) := by decide +kernel
theorem dX10_watch_21 : decode cX10_watch 21 = .ok (.if_icmp .le 5, 3) := by decide +kernel
theorem dX10_watch_24 : decode cX10_watch 24 = .ok (.iconst (-1), 1) := by decide +kernel
theorem dX10_watch_25 : decode cX10_watch 25 = .ok (.ireturn, 1) := by decide +kernel
theorem dX10_watch_26 : decode cX10_watch 26 = .ok (.aload_n 0, 1) := by decide +kernel
theorem dX10_watch_27 : decode cX10_watch 27 = .ok (.getfield 30, 3) := by decide +kernel
theorem dX10_watch_30 : decode cX10_watch 30 = .ok (.iconst 3, 1) := by decide +kernel
theorem dX10_watch_31 : decode cX10_watch 31 = .ok (.iaload, 1) := by decide +kernel
theorem dX10_watch_32 : decode cX10_watch 32 = .ok (.istore_n 3, 1) := by decide +kernel
theorem dX10_watch_33 : decode cX10_watch 33 = .ok (.iload_n 3, 1) := by decide +kernel
theorem dX10_watch_34 : decode cX10_watch 34 = .ok (.bipush 6, 2) := by decide +kernel
theorem dX10_watch_36 : decode cX10_watch 36 = .ok (.if_icmp .ne 6, 3) := by decide +kernel
theorem dX10_watch_39 : decode cX10_watch 39 = .ok (.bipush (-2), 2) := by decide +kernel
theorem dX10_watch_41 : decode cX10_watch 41 = .ok (.ireturn, 1) := by decide +kernel
theorem dX10_watch_42 : decode cX10_watch 42 = .ok (.aload_n 0, 1) := by decide +kernel
theorem dX10_watch_43 : decode cX10_watch 43 = .ok (.getfield 30, 3) := by decide +kernel
theorem dX10_watch_46 : decode cX10_watch 46 = .ok (.bipush 50, 2) := by decide +kernel
theorem dX10_watch_48 : decode cX10_watch 48 = .ok (.iconst 3, 1) := by decide +kernel
theorem dX10_watch_49 : decode cX10_watch 49 = .ok (.iload_n 3, 1) := by decide +kernel
theorem dX10_watch_50 : decode cX10_watch 50 = .ok (.imul, 1) := by decide +kernel
theorem dX10_watch_51 : decode cX10_watch 51 = .ok (.iadd, 1) := by decide +kernel
theorem dX10_watch_52 : decode cX10_watch 52 = .ok (.iload_n 1, 1) := by decide +kernel
theorem dX10_watch_53 : decode cX10_watch 53 = .ok (.iastore, 1) := by decide +kernel
theorem dX10_watch_54 : decode cX10_watch 54 = .ok (.aload_n 0, 1) := by decide +kernel
theorem dX10_watch_55 : decode cX10_watch 55 = .ok (.getfield 30, 3) := by decide +kernel
theorem dX10_watch_58 : decode cX10_watch 58 = .ok (.bipush 50, 2) := by decide +kernel
theorem dX10_watch_60 : decode cX10_watch 60 = .ok (.iconst 3, 1) := by decide +kernel
theorem dX10_watch_61 : decode cX10_watch 61 = .ok (.iload_n 3, 1) := by decide +kernel
theorem dX10_watch_62 : decode cX10_watch 62 = .ok (.imul, 1) := by decide +kernel
theorem dX10_watch_63 : decode cX10_watch 63 = .ok (.iadd, 1) := by decide +kernel
theorem dX10_watch_64 : decode cX10_watch 64 = .ok (.iconst 1, 1) := by decide +kernel
theorem dX10_watch_65 : decode cX10_watch 65 = .ok (.iadd, 1) := by decide +kernel
theorem dX10_watch_66 : decode cX10_watch 66 = .ok (.iload_n 2, 1) := by decide +kernel
theorem dX10_watch_67 : decode cX10_watch 67 = .ok (.iastore, 1) := by decide +kernel
theorem dX10_watch_68 : decode cX10_watch 68 = .ok (.aload_n 0, 1) := by decide +kernel
theorem dX10_watch_69 : decode cX10_watch 69 = .ok (.getfield 30, 3) := by decide +kernel
theorem dX10_watch_72 : decode cX10_watch 72 = .ok (.bipush 50, 2) := by decide +kernel
theorem dX10_watch_74 : decode cX10_watch 74 = .ok (.iconst 3, 1) := by decide +kernel
theorem dX10_watch_75 : decode cX10_watch 75 = .ok (.iload_n 3, 1) := by decide +kernel
theorem dX10_watch_76 : decode cX10_watch 76 = .ok (.imul, 1) := by decide +kernel
theorem dX10_watch_77 : decode cX10_watch 77 = .ok (.iadd, 1) := by decide +kernel
theorem dX10_watch_78 : decode cX10_watch 78 = .ok (.iconst 2, 1) := by decide +kernel
theorem dX10_watch_79 : decode cX10_watch 79 = .ok (.iadd, 1) := by decide +kernel
theorem dX10_watch_80 : decode cX10_watch 80 = .ok (.iconst 0, 1) := by decide +kernel
theorem dX10_watch_81 : decode cX10_watch 81 = .ok (.iastore, 1) := by decide +kernel
theorem dX10_watch_82 : decode cX10_watch 82 = .ok (.aload_n 0, 1) := by decide +kernel
theorem dX10_watch_83 : decode cX10_watch 83 = .ok (.getfield 30, 3) := by decide +kernel
theorem dX10_watch_86 : decode cX10_watch 86 = .ok (.iconst 3, 1) := by decide +kernel
theorem dX10_watch_87 : decode cX10_watch 87 = .ok (.dup2, 1) := by decide +kernel
theorem dX10_watch_88 : decode cX10_watch 88 = .ok (.iaload, 1) := by decide +kernel
theorem dX10_watch_89 : decode cX10_watch 89 = .ok (.iconst 1, 1) := by decide +kernel
theorem dX10_watch_90 : decode cX10_watch 90 = .ok (.iadd, 1) := by decide +kernel
theorem dX10_watch_91 : decode cX10_watch 91 = .ok (.iastore, 1) := by decide +kernel
theorem dX10_watch_92 : decode cX10_watch 92 = .ok (.iload_n 3, 1) := by decide +kernel
theorem dX10_watch_93 : decode cX10_watch 93 = .ok (.ireturn, 1) := by decide +kernel
theorem dX10_watched_0 : decode cX10_watched 0 = .ok (.aload_n 0, 1) := by decide +kernel
theorem dX10_watched_1 : decode cX10_watched 1 = .ok (.iconst 0, 1) := by decide +kernel
theorem dX10_watched_2 : decode cX10_watched 2 = .ok (.putfield 45, 3) := by decide +kernel
theorem dX10_watched_5 : decode cX10_watched 5 = .ok (.iload_n 1, 1) := by decide +kernel
theorem dX10_watched_6 : decode cX10_watched 6 = .ok (.ifCond .ge 7, 3) := by decide +kernel
theorem dX10_watched_9 : decode cX10_watched 9 = .ok (.iconst (-1), 1) := by decide +kernel
theorem dX10_watched_10 : decode cX10_watched 10 = .ok (.goto 31, 3) := by decide +kernel
theorem dX10_watched_13 : decode cX10_watched 13 = .ok (.iload_n 1, 1) := by decide +kernel
theorem dX10_watched_14 : decode cX10_watched 14 = .ok (.aload_n 0, 1) := by decide +kernel
theorem dX10_watched_15 : decode cX10_watched 15 = .ok (.getfield 30, 3) := by decide +kernel
theorem dX10_watched_18 : decode cX10_watched 18 = .ok (.iconst 3, 1) := by decide +kernel
theorem dX10_watched_19 : decode cX10_watched 19 = .ok (.iaload, 1) := by decide +kernel
theorem dX10_watched_20 : decode cX10_watched 20 = .ok (.if_icmp .ge 19, 3) := by decide +kernel
theorem dX10_watched_23 : decode cX10_watched 23 = .ok (.aload_n 0, 1) := by decide +kernel
theorem dX10_watched_24 : decode cX10_watched 24 = .ok (.getfield 30, 3) := by decide +kernel
theorem dX10_watched_27 : decode cX10_watched 27 = .ok (.bipush 50, 2) := by decide +kernel
theorem dX10_watched_29 : decode cX10_watched 29 = .ok (.iconst 3, 1) := by decide +kernel
theorem dX10_watched_30 : decode cX10_watched 30 = .ok (.iload_n 1, 1) := by decide +kernel
theorem dX10_watched_31 : decode cX10_watched 31 = .ok (.imul, 1) := by decide +kernel
theorem dX10_watched_32 : decode cX10_watched 32 = .ok (.iadd, 1) := by decide +kernel
theorem dX10_watched_33 : decode cX10_watched 33 = .ok (.iconst 2, 1) := by decide +kernel
theorem dX10_watched_34 : decode cX10_watched 34 = .ok (.iadd, 1) := by decide +kernel
theorem dX10_watched_35 : decode cX10_watched 35 = .ok (.iaload, 1) := by decide +kernel
theorem dX10_watched_36 : decode cX10_watched 36 = .ok (.goto 5, 3) := by decide +kernel
theorem dX10_watched_39 : decode cX10_watched 39 = .ok (.bipush (-2), 2) := by decide +kernel
theorem dX10_watched_41 : decode cX10_watched 41 = .ok (.ireturn, 1) := by decide +kernel
theorem dX10_isKey_0 : decode cX10_isKey 0 = .ok (.iload_n 0, 1) := by decide +kernel
theorem dX10_isKey_1 : decode cX10_isKey 1 = .ok (.ifCond .lt 14, 3) := by decide +kernel
theorem dX10_isKey_4 : decode cX10_isKey 4 = .ok (.iload_n 0, 1) := by decide +kernel
theorem dX10_isKey_5 : decode cX10_isKey 5 = .ok (.sipush 9999, 3) := by decide +kernel
theorem dX10_isKey_8 : decode cX10_isKey 8 = .ok (.if_icmp .gt 7, 3) := by decide +kernel
theorem dX10_isKey_11 : decode cX10_isKey 11 = .ok (.iconst 1, 1) := by decide +kernel
theorem dX10_isKey_12 : decode cX10_isKey 12 = .ok (.goto 4, 3) := by decide +kernel
theorem dX10_isKey_15 : decode cX10_isKey 15 = .ok (.iconst 0, 1) := by decide +kernel
theorem dX10_isKey_16 : decode cX10_isKey 16 = .ok (.ireturn, 1) := by decide +kernel
theorem dX10_past_0 : decode cX10_past 0 = .ok (.aload_n 0, 1) := by decide +kernel
theorem dX10_past_1 : decode cX10_past 1 = .ok (.iconst 0, 1) := by decide +kernel
theorem dX10_past_2 : decode cX10_past 2 = .ok (.putfield 45, 3) := by decide +kernel
theorem dX10_past_5 : decode cX10_past 5 = .ok (.iload_n 1, 1) := by decide +kernel
theorem dX10_past_6 : decode cX10_past 6 = .ok (.ifCond .lt 12, 3) := by decide +kernel
theorem dX10_past_9 : decode cX10_past 9 = .ok (.iload_n 1, 1) := by decide +kernel
theorem dX10_past_10 : decode cX10_past 10 = .ok (.iconst 3, 1) := by decide +kernel
theorem dX10_past_11 : decode cX10_past 11 = .ok (.if_icmp .gt 7, 3) := by decide +kernel
theorem dX10_past_14 : decode cX10_past 14 = .ok (.iload_n 2, 1) := by decide +kernel
theorem dX10_past_15 : decode cX10_past 15 = .ok (.ifCond .ge 5, 3) := by decide +kernel
theorem dX10_past_18 : decode cX10_past 18 = .ok (.iconst (-1), 1) := by decide +kernel
theorem dX10_past_19 : decode cX10_past 19 = .ok (.ireturn, 1) := by decide +kernel
theorem dX10_past_20 : decode cX10_past 20 = .ok (.iload_n 2, 1) := by decide +kernel
theorem dX10_past_21 : decode cX10_past 21 = .ok (.aload_n 0, 1) := by decide +kernel
theorem dX10_past_22 : decode cX10_past 22 = .ok (.getfield 30, 3) := by decide +kernel
theorem dX10_past_25 : decode cX10_past 25 = .ok (.bipush 14, 2) := by decide +kernel
theorem dX10_past_27 : decode cX10_past 27 = .ok (.iload_n 1, 1) := by decide +kernel
theorem dX10_past_28 : decode cX10_past 28 = .ok (.iadd, 1) := by decide +kernel
theorem dX10_past_29 : decode cX10_past 29 = .ok (.iaload, 1) := by decide +kernel
theorem dX10_past_30 : decode cX10_past 30 = .ok (.if_icmp .ge 22, 3) := by decide +kernel
theorem dX10_past_33 : decode cX10_past 33 = .ok (.aload_n 0, 1) := by decide +kernel
theorem dX10_past_34 : decode cX10_past 34 = .ok (.getfield 30, 3) := by decide +kernel
theorem dX10_past_37 : decode cX10_past 37 = .ok (.sipush 2676, 3) := by decide +kernel
theorem dX10_past_40 : decode cX10_past 40 = .ok (.sipush 200, 3) := by decide +kernel
theorem dX10_past_43 : decode cX10_past 43 = .ok (.iload_n 1, 1) := by decide +kernel
theorem dX10_past_44 : decode cX10_past 44 = .ok (.imul, 1) := by decide +kernel
theorem dX10_past_45 : decode cX10_past 45 = .ok (.iadd, 1) := by decide +kernel
theorem dX10_past_46 : decode cX10_past 46 = .ok (.iload_n 2, 1) := by decide +kernel
theorem dX10_past_47 : decode cX10_past 47 = .ok (.iadd, 1) := by decide +kernel
theorem dX10_past_48 : decode cX10_past 48 = .ok (.iaload, 1) := by decide +kernel
theorem dX10_past_49 : decode cX10_past 49 = .ok (.goto 5, 3) := by decide +kernel
theorem dX10_past_52 : decode cX10_past 52 = .ok (.bipush (-2), 2) := by decide +kernel
theorem dX10_past_54 : decode cX10_past 54 = .ok (.ireturn, 1) := by decide +kernel
theorem dX10_exactOf_0 : decode cX10_exactOf 0 = .ok (.ldc 169, 2) := by decide +kernel
theorem dX10_exactOf_2 : decode cX10_exactOf 2 = .ok (.istore_n 1, 1) := by decide +kernel
theorem dX10_exactOf_3 : decode cX10_exactOf 3 = .ok (.iload_n 1, 1) := by decide +kernel
theorem dX10_exactOf_4 : decode cX10_exactOf 4 = .ok (.i2l, 1) := by decide +kernel
theorem dX10_exactOf_5 : decode cX10_exactOf 5 = .ok (.iload_n 1, 1) := by decide +kernel
theorem dX10_exactOf_6 : decode cX10_exactOf 6 = .ok (.i2l, 1) := by decide +kernel
theorem dX10_exactOf_7 : decode cX10_exactOf 7 = .ok (.lmul, 1) := by decide +kernel
theorem dX10_exactOf_8 : decode cX10_exactOf 8 = .ok (.iload_n 0, 1) := by decide +kernel
theorem dX10_exactOf_9 : decode cX10_exactOf 9 = .ok (.i2l, 1) := by decide +kernel
theorem dX10_exactOf_10 : decode cX10_exactOf 10 = .ok (.lmul, 1) := by decide +kernel
theorem dX10_exactOf_11 : decode cX10_exactOf 11 = .ok (.ldc2_w 310, 3) := by decide +kernel
theorem dX10_exactOf_14 : decode cX10_exactOf 14 = .ok (.lcmp, 1) := by decide +kernel
theorem dX10_exactOf_15 : decode cX10_exactOf 15 = .ok (.ifCond .le 9, 3) := by decide +kernel
theorem dX10_exactOf_18 : decode cX10_exactOf 18 = .ok (.iinc 1 (-1), 3) := by decide +kernel
theorem dX10_exactOf_21 : decode cX10_exactOf 21 = .ok (.goto (-18), 3) := by decide +kernel
theorem dX10_exactOf_24 : decode cX10_exactOf 24 = .ok (.iload_n 1, 1) := by decide +kernel
theorem dX10_exactOf_25 : decode cX10_exactOf 25 = .ok (.ireturn, 1) := by decide +kernel
theorem dX10_isCount_0 : decode cX10_isCount 0 = .ok (.iload_n 0, 1) := by decide +kernel
theorem dX10_isCount_1 : decode cX10_isCount 1 = .ok (.iconst 1, 1) := by decide +kernel
theorem dX10_isCount_2 : decode cX10_isCount 2 = .ok (.if_icmp .lt 14, 3) := by decide +kernel
theorem dX10_isCount_5 : decode cX10_isCount 5 = .ok (.iload_n 0, 1) := by decide +kernel
theorem dX10_isCount_6 : decode cX10_isCount 6 = .ok (.sipush 999, 3) := by decide +kernel
theorem dX10_isCount_9 : decode cX10_isCount 9 = .ok (.if_icmp .gt 7, 3) := by decide +kernel
theorem dX10_isCount_12 : decode cX10_isCount 12 = .ok (.iconst 1, 1) := by decide +kernel
theorem dX10_isCount_13 : decode cX10_isCount 13 = .ok (.goto 4, 3) := by decide +kernel
theorem dX10_isCount_16 : decode cX10_isCount 16 = .ok (.iconst 0, 1) := by decide +kernel
theorem dX10_isCount_17 : decode cX10_isCount 17 = .ok (.ireturn, 1) := by decide +kernel
theorem dX10_isMore_0 : decode cX10_isMore 0 = .ok (.iload_n 0, 1) := by decide +kernel
theorem dX10_isMore_1 : decode cX10_isMore 1 = .ok (.ifCond .lt 14, 3) := by decide +kernel
theorem dX10_isMore_4 : decode cX10_isMore 4 = .ok (.iload_n 0, 1) := by decide +kernel
theorem dX10_isMore_5 : decode cX10_isMore 5 = .ok (.sipush 999, 3) := by decide +kernel
theorem dX10_isMore_8 : decode cX10_isMore 8 = .ok (.if_icmp .gt 7, 3) := by decide +kernel
theorem dX10_isMore_11 : decode cX10_isMore 11 = .ok (.iconst 1, 1) := by decide +kernel
theorem dX10_isMore_12 : decode cX10_isMore 12 = .ok (.goto 4, 3) := by decide +kernel
theorem dX10_isMore_15 : decode cX10_isMore 15 = .ok (.iconst 0, 1) := by decide +kernel
theorem dX10_isMore_16 : decode cX10_isMore 16 = .ok (.ireturn, 1) := by decide +kernel
theorem dX10_begins_0 : decode cX10_begins 0 = .ok (.iconst 0, 1) := by decide +kernel
theorem dX10_begins_1 : decode cX10_begins 1 = .ok (.istore_n 1, 1) := by decide +kernel
theorem dX10_begins_2 : decode cX10_begins 2 = .ok (.iload_n 1, 1) := by decide +kernel
theorem dX10_begins_3 : decode cX10_begins 3 = .ok (.sipush 3715, 3) := by decide +kernel
theorem dX10_begins_6 : decode cX10_begins 6 = .ok (.if_icmp .ge 16, 3) := by decide +kernel
theorem dX10_begins_9 : decode cX10_begins 9 = .ok (.aload_n 0, 1) := by decide +kernel
theorem dX10_begins_10 : decode cX10_begins 10 = .ok (.getfield 30, 3) := by decide +kernel
theorem dX10_begins_13 : decode cX10_begins 13 = .ok (.iload_n 1, 1) := by decide +kernel
theorem dX10_begins_14 : decode cX10_begins 14 = .ok (.iconst 0, 1) := by decide +kernel
theorem dX10_begins_15 : decode cX10_begins 15 = .ok (.iastore, 1) := by decide +kernel
theorem dX10_begins_16 : decode cX10_begins 16 = .ok (.iinc 1 1, 3) := by decide +kernel
theorem dX10_begins_19 : decode cX10_begins 19 = .ok (.goto (-17), 3) := by decide +kernel
theorem dX10_begins_22 : decode cX10_begins 22 = .ok (.iconst 0, 1) := by decide +kernel
theorem dX10_begins_23 : decode cX10_begins 23 = .ok (.istore_n 1, 1) := by decide +kernel
theorem dX10_begins_24 : decode cX10_begins 24 = .ok (.iload_n 1, 1) := by decide +kernel
theorem dX10_begins_25 : decode cX10_begins 25 = .ok (.bipush 6, 2) := by decide +kernel
theorem dX10_begins_27 : decode cX10_begins 27 = .ok (.if_icmp .ge 23, 3) := by decide +kernel
theorem dX10_begins_30 : decode cX10_begins 30 = .ok (.aload_n 0, 1) := by decide +kernel
theorem dX10_begins_31 : decode cX10_begins 31 = .ok (.getfield 30, 3) := by decide +kernel
theorem dX10_begins_34 : decode cX10_begins 34 = .ok (.iconst 4, 1) := by decide +kernel
theorem dX10_begins_35 : decode cX10_begins 35 = .ok (.iload_n 1, 1) := by decide +kernel
theorem dX10_begins_36 : decode cX10_begins 36 = .ok (.iadd, 1) := by decide +kernel
theorem dX10_begins_37 : decode cX10_begins 37 = .ok (.aload_n 0, 1) := by decide +kernel
theorem dX10_begins_38 : decode cX10_begins 38 = .ok (.getfield 13, 3) := by decide +kernel
theorem dX10_begins_41 : decode cX10_begins 41 = .ok (.iload_n 1, 1) := by decide +kernel
theorem dX10_begins_42 : decode cX10_begins 42 = .ok (.iaload, 1) := by decide +kernel
theorem dX10_begins_43 : decode cX10_begins 43 = .ok (.iastore, 1) := by decide +kernel
theorem dX10_begins_44 : decode cX10_begins 44 = .ok (.iinc 1 1, 3) := by decide +kernel
theorem dX10_begins_47 : decode cX10_begins 47 = .ok (.goto (-23), 3) := by decide +kernel
theorem dX10_begins_50 : decode cX10_begins 50 = .ok (.aload_n 0, 1) := by decide +kernel
theorem dX10_begins_51 : decode cX10_begins 51 = .ok (.getfield 30, 3) := by decide +kernel
theorem dX10_begins_54 : decode cX10_begins 54 = .ok (.bipush 10, 2) := by decide +kernel
theorem dX10_begins_56 : decode cX10_begins 56 = .ok (.aload_n 0, 1) := by decide +kernel
theorem dX10_begins_57 : decode cX10_begins 57 = .ok (.getfield 13, 3) := by decide +kernel
theorem dX10_begins_60 : decode cX10_begins 60 = .ok (.bipush 6, 2) := by decide +kernel
theorem dX10_begins_62 : decode cX10_begins 62 = .ok (.iaload, 1) := by decide +kernel
theorem dX10_begins_63 : decode cX10_begins 63 = .ok (.iastore, 1) := by decide +kernel
theorem dX10_begins_64 : decode cX10_begins 64 = .ok (.aload_n 0, 1) := by decide +kernel
theorem dX10_begins_65 : decode cX10_begins 65 = .ok (.getfield 30, 3) := by decide +kernel
theorem dX10_begins_68 : decode cX10_begins 68 = .ok (.bipush 11, 2) := by decide +kernel
theorem dX10_begins_70 : decode cX10_begins 70 = .ok (.aload_n 0, 1) := by decide +kernel
theorem dX10_begins_71 : decode cX10_begins 71 = .ok (.getfield 13, 3) := by decide +kernel
theorem dX10_begins_74 : decode cX10_begins 74 = .ok (.bipush 7, 2) := by decide +kernel
theorem dX10_begins_76 : decode cX10_begins 76 = .ok (.iaload, 1) := by decide +kernel
theorem dX10_begins_77 : decode cX10_begins 77 = .ok (.iastore, 1) := by decide +kernel
theorem dX10_begins_78 : decode cX10_begins 78 = .ok (.iconst 0, 1) := by decide +kernel
theorem dX10_begins_79 : decode cX10_begins 79 = .ok (.istore_n 1, 1) := by decide +kernel
theorem dX10_begins_80 : decode cX10_begins 80 = .ok (.iload_n 1, 1) := by decide +kernel
theorem dX10_begins_81 : decode cX10_begins 81 = .ok (.bipush 16, 2) := by decide +kernel
theorem dX10_begins_83 : decode cX10_begins 83 = .ok (.if_icmp .ge 35, 3) := by decide +kernel
theorem dX10_begins_86 : decode cX10_begins 86 = .ok (.aload_n 0, 1) := by decide +kernel
theorem dX10_begins_87 : decode cX10_begins 87 = .ok (.iload_n 1, 1) := by decide +kernel
theorem dX10_begins_88 : decode cX10_begins 88 = .ok (.iconst 0, 1) := by decide +kernel
theorem dX10_begins_89 : decode cX10_begins 89 = .ok (.bipush (-2), 2) := by decide +kernel
theorem dX10_begins_91 : decode cX10_begins 91 = .ok (.invokevirtual 165, 3) := by decide +kernel
theorem dX10_begins_94 : decode cX10_begins 94 = .ok (.aload_n 0, 1) := by decide +kernel
theorem dX10_begins_95 : decode cX10_begins 95 = .ok (.iload_n 1, 1) := by decide +kernel
theorem dX10_begins_96 : decode cX10_begins 96 = .ok (.bipush 7, 2) := by decide +kernel
theorem dX10_begins_98 : decode cX10_begins 98 = .ok (.bipush (-2), 2) := by decide +kernel
theorem dX10_begins_100 : decode cX10_begins 100 = .ok (.invokevirtual 165, 3) := by decide +kernel
theorem dX10_begins_103 : decode cX10_begins 103 = .ok (.aload_n 0, 1) := by decide +kernel
theorem dX10_begins_104 : decode cX10_begins 104 = .ok (.iload_n 1, 1) := by decide +kernel
theorem dX10_begins_105 : decode cX10_begins 105 = .ok (.bipush 8, 2) := by decide +kernel
theorem dX10_begins_107 : decode cX10_begins 107 = .ok (.ldc 169, 2) := by decide +kernel
theorem dX10_begins_109 : decode cX10_begins 109 = .ok (.invokevirtual 165, 3) := by decide +kernel
theorem dX10_begins_112 : decode cX10_begins 112 = .ok (.iinc 1 1, 3) := by decide +kernel
theorem dX10_begins_115 : decode cX10_begins 115 = .ok (.goto (-35), 3) := by decide +kernel
theorem dX10_begins_118 : decode cX10_begins 118 = .ok (.aload_n 0, 1) := by decide +kernel
theorem dX10_begins_119 : decode cX10_begins 119 = .ok (.getfield 30, 3) := by decide +kernel
theorem dX10_begins_122 : decode cX10_begins 122 = .ok (.sipush 3477, 3) := by decide +kernel
theorem dX10_begins_125 : decode cX10_begins 125 = .ok (.aload_n 0, 1) := by decide +kernel
theorem dX10_begins_126 : decode cX10_begins 126 = .ok (.getfield 128, 3) := by decide +kernel
theorem dX10_begins_129 : decode cX10_begins 129 = .ok (.iastore, 1) := by decide +kernel
theorem dX10_begins_130 : decode cX10_begins 130 = .ok (.iconst 0, 1) := by decide +kernel
theorem dX10_begins_131 : decode cX10_begins 131 = .ok (.istore_n 1, 1) := by decide +kernel
theorem dX10_begins_132 : decode cX10_begins 132 = .ok (.iload_n 1, 1) := by decide +kernel
theorem dX10_begins_133 : decode cX10_begins 133 = .ok (.aload_n 0, 1) := by decide +kernel
theorem dX10_begins_134 : decode cX10_begins 134 = .ok (.getfield 128, 3) := by decide +kernel
theorem dX10_begins_137 : decode cX10_begins 137 = .ok (.if_icmp .ge 47, 3) := by decide +kernel
theorem dX10_begins_140 : decode cX10_begins 140 = .ok (.iconst 0, 1) := by decide +kernel
theorem dX10_begins_141 : decode cX10_begins 141 = .ok (.istore_n 2, 1) := by decide +kernel
theorem dX10_begins_142 : decode cX10_begins 142 = .ok (.iload_n 2, 1) := by decide +kernel
theorem dX10_begins_143 : decode cX10_begins 143 = .ok (.iconst 5, 1) := by decide +kernel
theorem dX10_begins_144 : decode cX10_begins 144 = .ok (.if_icmp .ge 25, 3) := by decide +kernel
theorem dX10_begins_147 : decode cX10_begins 147 = .ok (.aload_n 0, 1) := by decide +kernel
theorem dX10_begins_148 : decode cX10_begins 148 = .ok (.iload_n 1, 1) := by decide +kernel
theorem dX10_begins_149 : decode cX10_begins 149 = .ok (.iload_n 2, 1) := by decide +kernel
theorem dX10_begins_150 : decode cX10_begins 150 = .ok (.aload_n 0, 1) := by decide +kernel
theorem dX10_begins_151 : decode cX10_begins 151 = .ok (.getfield 20, 3) := by decide +kernel
theorem dX10_begins_154 : decode cX10_begins 154 = .ok (.iconst 5, 1) := by decide +kernel
theorem dX10_begins_155 : decode cX10_begins 155 = .ok (.iload_n 1, 1) := by decide +kernel
theorem dX10_begins_156 : decode cX10_begins 156 = .ok (.imul, 1) := by decide +kernel
theorem dX10_begins_157 : decode cX10_begins 157 = .ok (.iload_n 2, 1) := by decide +kernel
theorem dX10_begins_158 : decode cX10_begins 158 = .ok (.iadd, 1) := by decide +kernel
theorem dX10_begins_159 : decode cX10_begins 159 = .ok (.iaload, 1) := by decide +kernel
theorem dX10_begins_160 : decode cX10_begins 160 = .ok (.invokevirtual 170, 3) := by decide +kernel
theorem dX10_begins_163 : decode cX10_begins 163 = .ok (.iinc 2 1, 3) := by decide +kernel
theorem dX10_begins_166 : decode cX10_begins 166 = .ok (.goto (-24), 3) := by decide +kernel
theorem dX10_begins_169 : decode cX10_begins 169 = .ok (.aload_n 0, 1) := by decide +kernel
theorem dX10_begins_170 : decode cX10_begins 170 = .ok (.iload_n 1, 1) := by decide +kernel
theorem dX10_begins_171 : decode cX10_begins 171 = .ok (.bipush 7, 2) := by decide +kernel
theorem dX10_begins_173 : decode cX10_begins 173 = .ok (.bipush (-2), 2) := by decide +kernel
theorem dX10_begins_175 : decode cX10_begins 175 = .ok (.invokevirtual 170, 3) := by decide +kernel
theorem dX10_begins_178 : decode cX10_begins 178 = .ok (.iinc 1 1, 3) := by decide +kernel
theorem dX10_begins_181 : decode cX10_begins 181 = .ok (.goto (-49), 3) := by decide +kernel
theorem dX10_begins_184 : decode cX10_begins 184 = .ok (.return_, 1) := by decide +kernel
theorem dX10_enters_0 : decode cX10_enters 0 = .ok (.aload_n 0, 1) := by decide +kernel
theorem dX10_enters_1 : decode cX10_enters 1 = .ok (.getfield 30, 3) := by decide +kernel
theorem dX10_enters_4 : decode cX10_enters 4 = .ok (.bipush 18, 2) := by decide +kernel
theorem dX10_enters_6 : decode cX10_enters 6 = .ok (.bipush 16, 2) := by decide +kernel
theorem dX10_enters_8 : decode cX10_enters 8 = .ok (.iload_n 2, 1) := by decide +kernel
theorem dX10_enters_9 : decode cX10_enters 9 = .ok (.iconst 1, 1) := by decide +kernel
theorem dX10_enters_10 : decode cX10_enters 10 = .ok (.isub, 1) := by decide +kernel
theorem dX10_enters_11 : decode cX10_enters 11 = .ok (.imul, 1) := by decide +kernel
theorem dX10_enters_12 : decode cX10_enters 12 = .ok (.iadd, 1) := by decide +kernel
theorem dX10_enters_13 : decode cX10_enters 13 = .ok (.aload_n 0, 1) := by decide +kernel
theorem dX10_enters_14 : decode cX10_enters 14 = .ok (.iload_n 2, 1) := by decide +kernel
theorem dX10_enters_15 : decode cX10_enters 15 = .ok (.invokevirtual 173, 3) := by decide +kernel
theorem dX10_enters_18 : decode cX10_enters 18 = .ok (.iadd, 1) := by decide +kernel
theorem dX10_enters_19 : decode cX10_enters 19 = .ok (.iload_n 1, 1) := by decide +kernel
theorem dX10_enters_20 : decode cX10_enters 20 = .ok (.iastore, 1) := by decide +kernel
theorem dX10_enters_21 : decode cX10_enters 21 = .ok (.aload_n 0, 1) := by decide +kernel
theorem dX10_enters_22 : decode cX10_enters 22 = .ok (.getfield 30, 3) := by decide +kernel
theorem dX10_enters_25 : decode cX10_enters 25 = .ok (.bipush 12, 2) := by decide +kernel
theorem dX10_enters_27 : decode cX10_enters 27 = .ok (.iload_n 2, 1) := by decide +kernel
theorem dX10_enters_28 : decode cX10_enters 28 = .ok (.iadd, 1) := by decide +kernel
theorem dX10_enters_29 : decode cX10_enters 29 = .ok (.iconst 1, 1) := by decide +kernel
theorem dX10_enters_30 : decode cX10_enters 30 = .ok (.isub, 1) := by decide +kernel
theorem dX10_enters_31 : decode cX10_enters 31 = .ok (.dup2, 1) := by decide +kernel
theorem dX10_enters_32 : decode cX10_enters 32 = .ok (.iaload, 1) := by decide +kernel
theorem dX10_enters_33 : decode cX10_enters 33 = .ok (.iconst 1, 1) := by decide +kernel
theorem dX10_enters_34 : decode cX10_enters 34 = .ok (.iadd, 1) := by decide +kernel
theorem dX10_enters_35 : decode cX10_enters 35 = .ok (.iastore, 1) := by decide +kernel
theorem dX10_enters_36 : decode cX10_enters 36 = .ok (.aload_n 0, 1) := by decide +kernel
theorem dX10_enters_37 : decode cX10_enters 37 = .ok (.iload_n 1, 1) := by decide +kernel
theorem dX10_enters_38 : decode cX10_enters 38 = .ok (.iconst 2, 1) := by decide +kernel
theorem dX10_enters_39 : decode cX10_enters 39 = .ok (.iload_n 2, 1) := by decide +kernel
theorem dX10_enters_40 : decode cX10_enters 40 = .ok (.invokevirtual 165, 3) := by decide +kernel
theorem dX10_enters_43 : decode cX10_enters 43 = .ok (.return_, 1) := by decide +kernel
theorem dX10_leaves_0 : decode cX10_leaves 0 = .ok (.aload_n 0, 1) := by decide +kernel
theorem dX10_leaves_1 : decode cX10_leaves 1 = .ok (.iload_n 1, 1) := by decide +kernel
theorem dX10_leaves_2 : decode cX10_leaves 2 = .ok (.iconst 0, 1) := by decide +kernel
theorem dX10_leaves_3 : decode cX10_leaves 3 = .ok (.invokevirtual 176, 3) := by decide +kernel
theorem dX10_leaves_6 : decode cX10_leaves 6 = .ok (.istore_n 2, 1) := by decide +kernel
theorem dX10_leaves_7 : decode cX10_leaves 7 = .ok (.aload_n 0, 1) := by decide +kernel
theorem dX10_leaves_8 : decode cX10_leaves 8 = .ok (.getfield 30, 3) := by decide +kernel
theorem dX10_leaves_11 : decode cX10_leaves 11 = .ok (.bipush 12, 2) := by decide +kernel
theorem dX10_leaves_13 : decode cX10_leaves 13 = .ok (.iload_n 1, 1) := by decide +kernel
theorem dX10_leaves_14 : decode cX10_leaves 14 = .ok (.iadd, 1) := by decide +kernel
theorem dX10_leaves_15 : decode cX10_leaves 15 = .ok (.iconst 1, 1) := by decide +kernel
theorem dX10_leaves_16 : decode cX10_leaves 16 = .ok (.isub, 1) := by decide +kernel
theorem dX10_leaves_17 : decode cX10_leaves 17 = .ok (.dup2, 1) := by decide +kernel
theorem dX10_leaves_18 : decode cX10_leaves 18 = .ok (.iaload, 1) := by decide +kernel
theorem dX10_leaves_19 : decode cX10_leaves 19 = .ok (.iconst 1, 1) := by decide +kernel
theorem dX10_leaves_20 : decode cX10_leaves 20 = .ok (.isub, 1) := by decide +kernel
theorem dX10_leaves_21 : decode cX10_leaves 21 = .ok (.iastore, 1) := by decide +kernel
theorem dX10_leaves_22 : decode cX10_leaves 22 = .ok (.iconst 0, 1) := by decide +kernel
theorem dX10_leaves_23 : decode cX10_leaves 23 = .ok (.istore_n 3, 1) := by decide +kernel
theorem dX10_leaves_24 : decode cX10_leaves 24 = .ok (.iload_n 3, 1) := by decide +kernel
theorem dX10_leaves_25 : decode cX10_leaves 25 = .ok (.aload_n 0, 1) := by decide +kernel
theorem dX10_leaves_26 : decode cX10_leaves 26 = .ok (.iload_n 1, 1) := by decide +kernel
theorem dX10_leaves_27 : decode cX10_leaves 27 = .ok (.invokevirtual 173, 3) := by decide +kernel
theorem dX10_leaves_30 : decode cX10_leaves 30 = .ok (.if_icmp .ge 43, 3) := by decide +kernel
theorem dX10_leaves_33 : decode cX10_leaves 33 = .ok (.aload_n 0, 1) := by decide +kernel
theorem dX10_leaves_34 : decode cX10_leaves 34 = .ok (.getfield 30, 3) := by decide +kernel
theorem dX10_leaves_37 : decode cX10_leaves 37 = .ok (.bipush 18, 2) := by decide +kernel
theorem dX10_leaves_39 : decode cX10_leaves 39 = .ok (.bipush 16, 2) := by decide +kernel
theorem dX10_leaves_41 : decode cX10_leaves 41 = .ok (.iload_n 1, 1) := by decide +kernel
theorem dX10_leaves_42 : decode cX10_leaves 42 = .ok (.iconst 1, 1) := by decide +kernel
theorem dX10_leaves_43 : decode cX10_leaves 43 = .ok (.isub, 1) := by decide +kernel
theorem dX10_leaves_44 : decode cX10_leaves 44 = .ok (.imul, 1) := by decide +kernel
theorem dX10_leaves_45 : decode cX10_leaves 45 = .ok (.iadd, 1) := by decide +kernel
theorem dX10_leaves_46 : decode cX10_leaves 46 = .ok (.iload_n 3, 1) := by decide +kernel
theorem dX10_leaves_47 : decode cX10_leaves 47 = .ok (.iadd, 1) := by decide +kernel
theorem dX10_leaves_48 : decode cX10_leaves 48 = .ok (.aload_n 0, 1) := by decide +kernel
theorem dX10_leaves_49 : decode cX10_leaves 49 = .ok (.getfield 30, 3) := by decide +kernel
theorem dX10_leaves_52 : decode cX10_leaves 52 = .ok (.bipush 18, 2) := by decide +kernel
theorem dX10_leaves_54 : decode cX10_leaves 54 = .ok (.bipush 16, 2) := by decide +kernel
theorem dX10_leaves_56 : decode cX10_leaves 56 = .ok (.iload_n 1, 1) := by decide +kernel
theorem dX10_leaves_57 : decode cX10_leaves 57 = .ok (.iconst 1, 1) := by decide +kernel
theorem dX10_leaves_58 : decode cX10_leaves 58 = .ok (.isub, 1) := by decide +kernel
theorem dX10_leaves_59 : decode cX10_leaves 59 = .ok (.imul, 1) := by decide +kernel
theorem dX10_leaves_60 : decode cX10_leaves 60 = .ok (.iadd, 1) := by decide +kernel
theorem dX10_leaves_61 : decode cX10_leaves 61 = .ok (.iload_n 3, 1) := by decide +kernel
theorem dX10_leaves_62 : decode cX10_leaves 62 = .ok (.iadd, 1) := by decide +kernel
theorem dX10_leaves_63 : decode cX10_leaves 63 = .ok (.iconst 1, 1) := by decide +kernel
theorem dX10_leaves_64 : decode cX10_leaves 64 = .ok (.iadd, 1) := by decide +kernel
theorem dX10_leaves_65 : decode cX10_leaves 65 = .ok (.iaload, 1) := by decide +kernel
theorem dX10_leaves_66 : decode cX10_leaves 66 = .ok (.iastore, 1) := by decide +kernel
theorem dX10_leaves_67 : decode cX10_leaves 67 = .ok (.iinc 3 1, 3) := by decide +kernel
theorem dX10_leaves_70 : decode cX10_leaves 70 = .ok (.goto (-46), 3) := by decide +kernel
theorem dX10_leaves_73 : decode cX10_leaves 73 = .ok (.aload_n 0, 1) := by decide +kernel
theorem dX10_leaves_74 : decode cX10_leaves 74 = .ok (.iload_n 2, 1) := by decide +kernel
theorem dX10_leaves_75 : decode cX10_leaves 75 = .ok (.iconst 2, 1) := by decide +kernel
theorem dX10_leaves_76 : decode cX10_leaves 76 = .ok (.iconst 0, 1) := by decide +kernel
theorem dX10_leaves_77 : decode cX10_leaves 77 = .ok (.invokevirtual 165, 3) := by decide +kernel
theorem dX10_leaves_80 : decode cX10_leaves 80 = .ok (.return_, 1) := by decide +kernel
theorem dX10_goesTo_0 : decode cX10_goesTo 0 = .ok (.iload_n 1, 1) := by decide +kernel
theorem dX10_goesTo_1 : decode cX10_goesTo 1 = .ok (.aload_n 0, 1) := by decide +kernel
theorem dX10_goesTo_2 : decode cX10_goesTo 2 = .ok (.getfield 30, 3) := by decide +kernel
theorem dX10_goesTo_5 : decode cX10_goesTo 5 = .ok (.bipush 10, 2) := by decide +kernel
theorem dX10_goesTo_7 : decode cX10_goesTo 7 = .ok (.iaload, 1) := by decide +kernel
theorem dX10_goesTo_8 : decode cX10_goesTo 8 = .ok (.invokestatic 181, 3) := by decide +kernel
theorem dX10_goesTo_11 : decode cX10_goesTo 11 = .ok (.aload_n 0, 1) := by decide +kernel
theorem dX10_goesTo_12 : decode cX10_goesTo 12 = .ok (.getfield 30, 3) := by decide +kernel
theorem dX10_goesTo_15 : decode cX10_goesTo 15 = .ok (.bipush 11, 2) := by decide +kernel
theorem dX10_goesTo_17 : decode cX10_goesTo 17 = .ok (.iaload, 1) := by decide +kernel
theorem dX10_goesTo_18 : decode cX10_goesTo 18 = .ok (.imul, 1) := by decide +kernel
theorem dX10_goesTo_19 : decode cX10_goesTo 19 = .ok (.istore_n 2, 1) := by decide +kernel
theorem dX10_goesTo_20 : decode cX10_goesTo 20 = .ok (.iconst 0, 1) := by decide +kernel
theorem dX10_goesTo_21 : decode cX10_goesTo 21 = .ok (.istore_n 3, 1) := by decide +kernel
theorem dX10_goesTo_22 : decode cX10_goesTo 22 = .ok (.iload_n 3, 1) := by decide +kernel
theorem dX10_goesTo_23 : decode cX10_goesTo 23 = .ok (.aload_n 0, 1) := by decide +kernel
theorem dX10_goesTo_24 : decode cX10_goesTo 24 = .ok (.getfield 30, 3) := by decide +kernel
theorem dX10_goesTo_27 : decode cX10_goesTo 27 = .ok (.bipush 11, 2) := by decide +kernel
theorem dX10_goesTo_29 : decode cX10_goesTo 29 = .ok (.iaload, 1) := by decide +kernel
theorem dX10_goesTo_30 : decode cX10_goesTo 30 = .ok (.if_icmp .ge 36, 3) := by decide +kernel
theorem dX10_goesTo_33 : decode cX10_goesTo 33 = .ok (.aload_n 0, 1) := by decide +kernel
theorem dX10_goesTo_34 : decode cX10_goesTo 34 = .ok (.iload_n 2, 1) := by decide +kernel
theorem dX10_goesTo_35 : decode cX10_goesTo 35 = .ok (.iload_n 3, 1) := by decide +kernel
theorem dX10_goesTo_36 : decode cX10_goesTo 36 = .ok (.iadd, 1) := by decide +kernel
theorem dX10_goesTo_37 : decode cX10_goesTo 37 = .ok (.iconst 2, 1) := by decide +kernel
theorem dX10_goesTo_38 : decode cX10_goesTo 38 = .ok (.invokevirtual 184, 3) := by decide +kernel
theorem dX10_goesTo_41 : decode cX10_goesTo 41 = .ok (.ifCond .eq 19, 3) := by decide +kernel
theorem dX10_goesTo_44 : decode cX10_goesTo 44 = .ok (.aload_n 0, 1) := by decide +kernel
theorem dX10_goesTo_45 : decode cX10_goesTo 45 = .ok (.iload_n 2, 1) := by decide +kernel
theorem dX10_goesTo_46 : decode cX10_goesTo 46 = .ok (.iload_n 3, 1) := by decide +kernel
theorem dX10_goesTo_47 : decode cX10_goesTo 47 = .ok (.iadd, 1) := by decide +kernel
theorem dX10_goesTo_48 : decode cX10_goesTo 48 = .ok (.iconst 0, 1) := by decide +kernel
theorem dX10_goesTo_49 : decode cX10_goesTo 49 = .ok (.invokevirtual 184, 3) := by decide +kernel
theorem dX10_goesTo_52 : decode cX10_goesTo 52 = .ok (.iload_n 1, 1) := by decide +kernel
theorem dX10_goesTo_53 : decode cX10_goesTo 53 = .ok (.if_icmp .ne 7, 3) := by decide +kernel
theorem dX10_goesTo_56 : decode cX10_goesTo 56 = .ok (.iload_n 2, 1) := by decide +kernel
theorem dX10_goesTo_57 : decode cX10_goesTo 57 = .ok (.iload_n 3, 1) := by decide +kernel
theorem dX10_goesTo_58 : decode cX10_goesTo 58 = .ok (.iadd, 1) := by decide +kernel
theorem dX10_goesTo_59 : decode cX10_goesTo 59 = .ok (.ireturn, 1) := by decide +kernel
theorem dX10_goesTo_60 : decode cX10_goesTo 60 = .ok (.iinc 3 1, 3) := by decide +kernel
theorem dX10_goesTo_63 : decode cX10_goesTo 63 = .ok (.goto (-41), 3) := by decide +kernel
theorem dX10_goesTo_66 : decode cX10_goesTo 66 = .ok (.iconst 0, 1) := by decide +kernel
theorem dX10_goesTo_67 : decode cX10_goesTo 67 = .ok (.istore_n 3, 1) := by decide +kernel
theorem dX10_goesTo_68 : decode cX10_goesTo 68 = .ok (.iload_n 3, 1) := by decide +kernel
theorem dX10_goesTo_69 : decode cX10_goesTo 69 = .ok (.aload_n 0, 1) := by decide +kernel
theorem dX10_goesTo_70 : decode cX10_goesTo 70 = .ok (.getfield 30, 3) := by decide +kernel
theorem dX10_goesTo_73 : decode cX10_goesTo 73 = .ok (.bipush 11, 2) := by decide +kernel
theorem dX10_goesTo_75 : decode cX10_goesTo 75 = .ok (.iaload, 1) := by decide +kernel
theorem dX10_goesTo_76 : decode cX10_goesTo 76 = .ok (.if_icmp .ge 24, 3) := by decide +kernel
theorem dX10_goesTo_79 : decode cX10_goesTo 79 = .ok (.aload_n 0, 1) := by decide +kernel
theorem dX10_goesTo_80 : decode cX10_goesTo 80 = .ok (.iload_n 2, 1) := by decide +kernel
theorem dX10_goesTo_81 : decode cX10_goesTo 81 = .ok (.iload_n 3, 1) := by decide +kernel
theorem dX10_goesTo_82 : decode cX10_goesTo 82 = .ok (.iadd, 1) := by decide +kernel
theorem dX10_goesTo_83 : decode cX10_goesTo 83 = .ok (.iconst 2, 1) := by decide +kernel
theorem dX10_goesTo_84 : decode cX10_goesTo 84 = .ok (.invokevirtual 184, 3) := by decide +kernel
theorem dX10_goesTo_87 : decode cX10_goesTo 87 = .ok (.ifCond .ne 7, 3) := by decide +kernel
theorem dX10_goesTo_90 : decode cX10_goesTo 90 = .ok (.iload_n 2, 1) := by decide +kernel
theorem dX10_goesTo_91 : decode cX10_goesTo 91 = .ok (.iload_n 3, 1) := by decide +kernel
theorem dX10_goesTo_92 : decode cX10_goesTo 92 = .ok (.iadd, 1) := by decide +kernel
theorem dX10_goesTo_93 : decode cX10_goesTo 93 = .ok (.ireturn, 1) := by decide +kernel
theorem dX10_goesTo_94 : decode cX10_goesTo 94 = .ok (.iinc 3 1, 3) := by decide +kernel
theorem dX10_goesTo_97 : decode cX10_goesTo 97 = .ok (.goto (-29), 3) := by decide +kernel
theorem dX10_goesTo_100 : decode cX10_goesTo 100 = .ok (.iload_n 2, 1) := by decide +kernel
theorem dX10_goesTo_101 : decode cX10_goesTo 101 = .ok (.iload_n 1, 1) := by decide +kernel
theorem dX10_goesTo_102 : decode cX10_goesTo 102 = .ok (.aload_n 0, 1) := by decide +kernel
theorem dX10_goesTo_103 : decode cX10_goesTo 103 = .ok (.getfield 30, 3) := by decide +kernel
theorem dX10_goesTo_106 : decode cX10_goesTo 106 = .ok (.bipush 11, 2) := by decide +kernel
theorem dX10_goesTo_108 : decode cX10_goesTo 108 = .ok (.iaload, 1) := by decide +kernel
theorem dX10_goesTo_109 : decode cX10_goesTo 109 = .ok (.irem, 1) := by decide +kernel
theorem dX10_goesTo_110 : decode cX10_goesTo 110 = .ok (.iadd, 1) := by decide +kernel
theorem dX10_goesTo_111 : decode cX10_goesTo 111 = .ok (.ireturn, 1) := by decide +kernel
theorem dX10_firstIn_0 : decode cX10_firstIn 0 = .ok (.iconst 0, 1) := by decide +kernel
theorem dX10_firstIn_1 : decode cX10_firstIn 1 = .ok (.istore_n 2, 1) := by decide +kernel
theorem dX10_firstIn_2 : decode cX10_firstIn 2 = .ok (.iload_n 2, 1) := by decide +kernel
theorem dX10_firstIn_3 : decode cX10_firstIn 3 = .ok (.aload_n 0, 1) := by decide +kernel
theorem dX10_firstIn_4 : decode cX10_firstIn 4 = .ok (.getfield 30, 3) := by decide +kernel
theorem dX10_firstIn_7 : decode cX10_firstIn 7 = .ok (.iconst 1, 1) := by decide +kernel
theorem dX10_firstIn_8 : decode cX10_firstIn 8 = .ok (.iaload, 1) := by decide +kernel
theorem dX10_firstIn_9 : decode cX10_firstIn 9 = .ok (.if_icmp .ge 31, 3) := by decide +kernel
theorem dX10_firstIn_12 : decode cX10_firstIn 12 = .ok (.aload_n 0, 1) := by decide +kernel
theorem dX10_firstIn_13 : decode cX10_firstIn 13 = .ok (.iload_n 2, 1) := by decide +kernel
theorem dX10_firstIn_14 : decode cX10_firstIn 14 = .ok (.iconst 4, 1) := by decide +kernel
theorem dX10_firstIn_15 : decode cX10_firstIn 15 = .ok (.invokevirtual 194, 3) := by decide +kernel
theorem dX10_firstIn_18 : decode cX10_firstIn 18 = .ok (.iload_n 1, 1) := by decide +kernel
theorem dX10_firstIn_19 : decode cX10_firstIn 19 = .ok (.if_icmp .ne 15, 3) := by decide +kernel
theorem dX10_firstIn_22 : decode cX10_firstIn 22 = .ok (.aload_n 0, 1) := by decide +kernel
theorem dX10_firstIn_23 : decode cX10_firstIn 23 = .ok (.iload_n 2, 1) := by decide +kernel
theorem dX10_firstIn_24 : decode cX10_firstIn 24 = .ok (.bipush 6, 2) := by decide +kernel
theorem dX10_firstIn_26 : decode cX10_firstIn 26 = .ok (.invokevirtual 194, 3) := by decide +kernel
theorem dX10_firstIn_29 : decode cX10_firstIn 29 = .ok (.ifCond .ne 5, 3) := by decide +kernel
theorem dX10_firstIn_32 : decode cX10_firstIn 32 = .ok (.iload_n 2, 1) := by decide +kernel
theorem dX10_firstIn_33 : decode cX10_firstIn 33 = .ok (.ireturn, 1) := by decide +kernel
theorem dX10_firstIn_34 : decode cX10_firstIn 34 = .ok (.iinc 2 1, 3) := by decide +kernel
theorem dX10_firstIn_37 : decode cX10_firstIn 37 = .ok (.goto (-35), 3) := by decide +kernel
theorem dX10_firstIn_40 : decode cX10_firstIn 40 = .ok (.iconst (-1), 1) := by decide +kernel
theorem dX10_firstIn_41 : decode cX10_firstIn 41 = .ok (.ireturn, 1) := by decide +kernel
theorem dX10_becomes_0 : decode cX10_becomes 0 = .ok (.aload_n 0, 1) := by decide +kernel
theorem dX10_becomes_1 : decode cX10_becomes 1 = .ok (.iload_n 1, 1) := by decide +kernel
theorem dX10_becomes_2 : decode cX10_becomes 2 = .ok (.bipush 6, 2) := by decide +kernel
theorem dX10_becomes_4 : decode cX10_becomes 4 = .ok (.iload_n 2, 1) := by decide +kernel
theorem dX10_becomes_5 : decode cX10_becomes 5 = .ok (.invokevirtual 197, 3) := by decide +kernel
theorem dX10_becomes_8 : decode cX10_becomes 8 = .ok (.aload_n 0, 1) := by decide +kernel
theorem dX10_becomes_9 : decode cX10_becomes 9 = .ok (.iload_n 1, 1) := by decide +kernel
theorem dX10_becomes_10 : decode cX10_becomes 10 = .ok (.bipush 7, 2) := by decide +kernel
theorem dX10_becomes_12 : decode cX10_becomes 12 = .ok (.aload_n 0, 1) := by decide +kernel
theorem dX10_becomes_13 : decode cX10_becomes 13 = .ok (.getfield 30, 3) := by decide +kernel
theorem dX10_becomes_16 : decode cX10_becomes 16 = .ok (.iconst 0, 1) := by decide +kernel
theorem dX10_becomes_17 : decode cX10_becomes 17 = .ok (.iaload, 1) := by decide +kernel
theorem dX10_becomes_18 : decode cX10_becomes 18 = .ok (.invokevirtual 197, 3) := by decide +kernel
theorem dX10_becomes_21 : decode cX10_becomes 21 = .ok (.aload_n 0, 1) := by decide +kernel
theorem dX10_becomes_22 : decode cX10_becomes 22 = .ok (.aload_n 0, 1) := by decide +kernel
theorem dX10_becomes_23 : decode cX10_becomes 23 = .ok (.iload_n 1, 1) := by decide +kernel
theorem dX10_becomes_24 : decode cX10_becomes 24 = .ok (.iconst 4, 1) := by decide +kernel
theorem dX10_becomes_25 : decode cX10_becomes 25 = .ok (.invokevirtual 194, 3) := by decide +kernel
theorem dX10_becomes_28 : decode cX10_becomes 28 = .ok (.bipush 12, 2) := by decide +kernel
theorem dX10_becomes_30 : decode cX10_becomes 30 = .ok (.aload_n 0, 1) := by decide +kernel
theorem dX10_becomes_31 : decode cX10_becomes 31 = .ok (.aload_n 0, 1) := by decide +kernel
theorem dX10_becomes_32 : decode cX10_becomes 32 = .ok (.iload_n 1, 1) := by decide +kernel
theorem dX10_becomes_33 : decode cX10_becomes 33 = .ok (.iconst 4, 1) := by decide +kernel
theorem dX10_becomes_34 : decode cX10_becomes 34 = .ok (.invokevirtual 194, 3) := by decide +kernel
theorem dX10_becomes_37 : decode cX10_becomes 37 = .ok (.bipush 12, 2) := by decide +kernel
theorem dX10_becomes_39 : decode cX10_becomes 39 = .ok (.invokevirtual 184, 3) := by decide +kernel
theorem dX10_becomes_42 : decode cX10_becomes 42 = .ok (.aload_n 0, 1) := by decide +kernel
theorem dX10_becomes_43 : decode cX10_becomes 43 = .ok (.iload_n 1, 1) := by decide +kernel
theorem dX10_becomes_44 : decode cX10_becomes 44 = .ok (.iconst 1, 1) := by decide +kernel
theorem dX10_becomes_45 : decode cX10_becomes 45 = .ok (.invokevirtual 194, 3) := by decide +kernel
theorem dX10_becomes_48 : decode cX10_becomes 48 = .ok (.isub, 1) := by decide +kernel
theorem dX10_becomes_49 : decode cX10_becomes 49 = .ok (.invokevirtual 165, 3) := by decide +kernel
theorem dX10_becomes_52 : decode cX10_becomes 52 = .ok (.aload_n 0, 1) := by decide +kernel
theorem dX10_becomes_53 : decode cX10_becomes 53 = .ok (.getfield 30, 3) := by decide +kernel
theorem dX10_becomes_56 : decode cX10_becomes 56 = .ok (.iconst 2, 1) := by decide +kernel
theorem dX10_becomes_57 : decode cX10_becomes 57 = .ok (.dup2, 1) := by decide +kernel
theorem dX10_becomes_58 : decode cX10_becomes 58 = .ok (.iaload, 1) := by decide +kernel
theorem dX10_becomes_59 : decode cX10_becomes 59 = .ok (.iconst 1, 1) := by decide +kernel
theorem dX10_becomes_60 : decode cX10_becomes 60 = .ok (.isub, 1) := by decide +kernel
theorem dX10_becomes_61 : decode cX10_becomes 61 = .ok (.iastore, 1) := by decide +kernel
theorem dX10_becomes_62 : decode cX10_becomes 62 = .ok (.aload_n 0, 1) := by decide +kernel
theorem dX10_becomes_63 : decode cX10_becomes 63 = .ok (.getfield 30, 3) := by decide +kernel
theorem dX10_becomes_66 : decode cX10_becomes 66 = .ok (.sipush 3515, 3) := by decide +kernel
theorem dX10_becomes_69 : decode cX10_becomes 69 = .ok (.aload_n 0, 1) := by decide +kernel
theorem dX10_becomes_70 : decode cX10_becomes 70 = .ok (.getfield 30, 3) := by decide +kernel
theorem dX10_becomes_73 : decode cX10_becomes 73 = .ok (.sipush 3514, 3) := by decide +kernel
theorem dX10_becomes_76 : decode cX10_becomes 76 = .ok (.iaload, 1) := by decide +kernel
theorem dX10_becomes_77 : decode cX10_becomes 77 = .ok (.iadd, 1) := by decide +kernel
theorem dX10_becomes_78 : decode cX10_becomes 78 = .ok (.iload_n 1, 1) := by decide +kernel
theorem dX10_becomes_79 : decode cX10_becomes 79 = .ok (.iastore, 1) := by decide +kernel
theorem dX10_becomes_80 : decode cX10_becomes 80 = .ok (.aload_n 0, 1) := by decide +kernel
theorem dX10_becomes_81 : decode cX10_becomes 81 = .ok (.getfield 30, 3) := by decide +kernel
theorem dX10_becomes_84 : decode cX10_becomes 84 = .ok (.sipush 3514, 3) := by decide +kernel
theorem dX10_becomes_87 : decode cX10_becomes 87 = .ok (.dup2, 1) := by decide +kernel
theorem dX10_becomes_88 : decode cX10_becomes 88 = .ok (.iaload, 1) := by decide +kernel
theorem dX10_becomes_89 : decode cX10_becomes 89 = .ok (.iconst 1, 1) := by decide +kernel
theorem dX10_becomes_90 : decode cX10_becomes 90 = .ok (.iadd, 1) := by decide +kernel
theorem dX10_becomes_91 : decode cX10_becomes 91 = .ok (.iastore, 1) := by decide +kernel
theorem dX10_becomes_92 : decode cX10_becomes 92 = .ok (.return_, 1) := by decide +kernel
theorem dX10_law_0 : decode cX10_law 0 = .ok (.iload_n 2, 1) := by decide +kernel
theorem dX10_law_1 : decode cX10_law 1 = .ok (.aload_n 0, 1) := by decide +kernel
theorem dX10_law_2 : decode cX10_law 2 = .ok (.invokevirtual 225, 3) := by decide +kernel
theorem dX10_law_5 : decode cX10_law 5 = .ok (.i2l, 1) := by decide +kernel
theorem dX10_law_6 : decode cX10_law 6 = .ok (.aload_n 0, 1) := by decide +kernel
theorem dX10_law_7 : decode cX10_law 7 = .ok (.iload_n 1, 1) := by decide +kernel
theorem dX10_law_8 : decode cX10_law 8 = .ok (.bipush 8, 2) := by decide +kernel
theorem dX10_law_10 : decode cX10_law 10 = .ok (.invokevirtual 184, 3) := by decide +kernel
theorem dX10_law_13 : decode cX10_law 13 = .ok (.i2l, 1) := by decide +kernel
theorem dX10_law_14 : decode cX10_law 14 = .ok (.lmul, 1) := by decide +kernel
theorem dX10_law_15 : decode cX10_law 15 = .ok (.ldc2_w 228, 3) := by decide +kernel
theorem dX10_law_18 : decode cX10_law 18 = .ok (.ldiv, 1) := by decide +kernel
theorem dX10_law_19 : decode cX10_law 19 = .ok (.l2i, 1) := by decide +kernel
theorem dX10_law_20 : decode cX10_law 20 = .ok (.iadd, 1) := by decide +kernel
theorem dX10_law_21 : decode cX10_law 21 = .ok (.ireturn, 1) := by decide +kernel
theorem dX10_steps_0 : decode cX10_steps 0 = .ok (.aload_n 0, 1) := by decide +kernel
theorem dX10_steps_1 : decode cX10_steps 1 = .ok (.iload_n 1, 1) := by decide +kernel
theorem dX10_steps_2 : decode cX10_steps 2 = .ok (.bipush 8, 2) := by decide +kernel
theorem dX10_steps_4 : decode cX10_steps 4 = .ok (.aload_n 0, 1) := by decide +kernel
theorem dX10_steps_5 : decode cX10_steps 5 = .ok (.iload_n 1, 1) := by decide +kernel
theorem dX10_steps_6 : decode cX10_steps 6 = .ok (.bipush 8, 2) := by decide +kernel
theorem dX10_steps_8 : decode cX10_steps 8 = .ok (.invokevirtual 184, 3) := by decide +kernel
theorem dX10_steps_11 : decode cX10_steps 11 = .ok (.aload_n 0, 1) := by decide +kernel
theorem dX10_steps_12 : decode cX10_steps 12 = .ok (.iload_n 1, 1) := by decide +kernel
theorem dX10_steps_13 : decode cX10_steps 13 = .ok (.iconst 3, 1) := by decide +kernel
theorem dX10_steps_14 : decode cX10_steps 14 = .ok (.invokevirtual 184, 3) := by decide +kernel
theorem dX10_steps_17 : decode cX10_steps 17 = .ok (.invokestatic 236, 3) := by decide +kernel
theorem dX10_steps_20 : decode cX10_steps 20 = .ok (.invokevirtual 165, 3) := by decide +kernel
theorem dX10_steps_23 : decode cX10_steps 23 = .ok (.return_, 1) := by decide +kernel
theorem dX10_drops_0 : decode cX10_drops 0 = .ok (.aload_n 0, 1) := by decide +kernel
theorem dX10_drops_1 : decode cX10_drops 1 = .ok (.iload_n 1, 1) := by decide +kernel
theorem dX10_drops_2 : decode cX10_drops 2 = .ok (.bipush 6, 2) := by decide +kernel
theorem dX10_drops_4 : decode cX10_drops 4 = .ok (.iconst 2, 1) := by decide +kernel
theorem dX10_drops_5 : decode cX10_drops 5 = .ok (.invokevirtual 197, 3) := by decide +kernel
theorem dX10_drops_8 : decode cX10_drops 8 = .ok (.aload_n 0, 1) := by decide +kernel
theorem dX10_drops_9 : decode cX10_drops 9 = .ok (.iconst 1, 1) := by decide +kernel
theorem dX10_drops_10 : decode cX10_drops 10 = .ok (.iload_n 1, 1) := by decide +kernel
theorem dX10_drops_11 : decode cX10_drops 11 = .ok (.invokevirtual 218, 3) := by decide +kernel
theorem dX10_drops_14 : decode cX10_drops 14 = .ok (.aload_n 0, 1) := by decide +kernel
theorem dX10_drops_15 : decode cX10_drops 15 = .ok (.iconst 1, 1) := by decide +kernel
theorem dX10_drops_16 : decode cX10_drops 16 = .ok (.aload_n 0, 1) := by decide +kernel
theorem dX10_drops_17 : decode cX10_drops 17 = .ok (.iload_n 1, 1) := by decide +kernel
theorem dX10_drops_18 : decode cX10_drops 18 = .ok (.iconst 0, 1) := by decide +kernel
theorem dX10_drops_19 : decode cX10_drops 19 = .ok (.invokevirtual 194, 3) := by decide +kernel
theorem dX10_drops_22 : decode cX10_drops 22 = .ok (.iconst 0, 1) := by decide +kernel
theorem dX10_drops_23 : decode cX10_drops 23 = .ok (.invokevirtual 221, 3) := by decide +kernel
theorem dX10_drops_26 : decode cX10_drops 26 = .ok (.return_, 1) := by decide +kernel
theorem dX10_marks_0 : decode cX10_marks 0 = .ok (.aload_n 0, 1) := by decide +kernel
theorem dX10_marks_1 : decode cX10_marks 1 = .ok (.iload_n 1, 1) := by decide +kernel
theorem dX10_marks_2 : decode cX10_marks 2 = .ok (.iconst 5, 1) := by decide +kernel
theorem dX10_marks_3 : decode cX10_marks 3 = .ok (.iconst 1, 1) := by decide +kernel
theorem dX10_marks_4 : decode cX10_marks 4 = .ok (.invokevirtual 197, 3) := by decide +kernel
theorem dX10_marks_7 : decode cX10_marks 7 = .ok (.aload_n 0, 1) := by decide +kernel
theorem dX10_marks_8 : decode cX10_marks 8 = .ok (.iconst 2, 1) := by decide +kernel
theorem dX10_marks_9 : decode cX10_marks 9 = .ok (.iload_n 1, 1) := by decide +kernel
theorem dX10_marks_10 : decode cX10_marks 10 = .ok (.invokevirtual 218, 3) := by decide +kernel
theorem dX10_marks_13 : decode cX10_marks 13 = .ok (.aload_n 0, 1) := by decide +kernel
theorem dX10_marks_14 : decode cX10_marks 14 = .ok (.iconst 3, 1) := by decide +kernel
theorem dX10_marks_15 : decode cX10_marks 15 = .ok (.aload_n 0, 1) := by decide +kernel
theorem dX10_marks_16 : decode cX10_marks 16 = .ok (.iload_n 1, 1) := by decide +kernel
theorem dX10_marks_17 : decode cX10_marks 17 = .ok (.iconst 1, 1) := by decide +kernel
theorem dX10_marks_18 : decode cX10_marks 18 = .ok (.invokevirtual 194, 3) := by decide +kernel
theorem dX10_marks_21 : decode cX10_marks 21 = .ok (.iconst 1, 1) := by decide +kernel
theorem dX10_marks_22 : decode cX10_marks 22 = .ok (.invokevirtual 221, 3) := by decide +kernel
theorem dX10_marks_25 : decode cX10_marks 25 = .ok (.return_, 1) := by decide +kernel
theorem dX10_sends_0 : decode cX10_sends 0 = .ok (.aload_n 0, 1) := by decide +kernel
theorem dX10_sends_1 : decode cX10_sends 1 = .ok (.iload_n 1, 1) := by decide +kernel
theorem dX10_sends_2 : decode cX10_sends 2 = .ok (.iconst 1, 1) := by decide +kernel
theorem dX10_sends_3 : decode cX10_sends 3 = .ok (.aload_n 0, 1) := by decide +kernel
theorem dX10_sends_4 : decode cX10_sends 4 = .ok (.iload_n 1, 1) := by decide +kernel
theorem dX10_sends_5 : decode cX10_sends 5 = .ok (.iconst 1, 1) := by decide +kernel
theorem dX10_sends_6 : decode cX10_sends 6 = .ok (.invokevirtual 184, 3) := by decide +kernel
theorem dX10_sends_9 : decode cX10_sends 9 = .ok (.aload_n 0, 1) := by decide +kernel
theorem dX10_sends_10 : decode cX10_sends 10 = .ok (.iload_n 2, 1) := by decide +kernel
theorem dX10_sends_11 : decode cX10_sends 11 = .ok (.iconst 1, 1) := by decide +kernel
theorem dX10_sends_12 : decode cX10_sends 12 = .ok (.invokevirtual 194, 3) := by decide +kernel
theorem dX10_sends_15 : decode cX10_sends 15 = .ok (.isub, 1) := by decide +kernel
theorem dX10_sends_16 : decode cX10_sends 16 = .ok (.invokevirtual 165, 3) := by decide +kernel
theorem dX10_sends_19 : decode cX10_sends 19 = .ok (.aload_n 0, 1) := by decide +kernel
theorem dX10_sends_20 : decode cX10_sends 20 = .ok (.iconst 0, 1) := by decide +kernel
theorem dX10_sends_21 : decode cX10_sends 21 = .ok (.iload_n 2, 1) := by decide +kernel
theorem dX10_sends_22 : decode cX10_sends 22 = .ok (.invokevirtual 218, 3) := by decide +kernel
theorem dX10_sends_25 : decode cX10_sends 25 = .ok (.aload_n 0, 1) := by decide +kernel
theorem dX10_sends_26 : decode cX10_sends 26 = .ok (.iconst 0, 1) := by decide +kernel
theorem dX10_sends_27 : decode cX10_sends 27 = .ok (.aload_n 0, 1) := by decide +kernel
theorem dX10_sends_28 : decode cX10_sends 28 = .ok (.getfield 30, 3) := by decide +kernel
theorem dX10_sends_31 : decode cX10_sends 31 = .ok (.iconst 0, 1) := by decide +kernel
theorem dX10_sends_32 : decode cX10_sends 32 = .ok (.iaload, 1) := by decide +kernel
theorem dX10_sends_33 : decode cX10_sends 33 = .ok (.aload_n 0, 1) := by decide +kernel
theorem dX10_sends_34 : decode cX10_sends 34 = .ok (.iload_n 2, 1) := by decide +kernel
theorem dX10_sends_35 : decode cX10_sends 35 = .ok (.iconst 3, 1) := by decide +kernel
theorem dX10_sends_36 : decode cX10_sends 36 = .ok (.invokevirtual 194, 3) := by decide +kernel
theorem dX10_sends_39 : decode cX10_sends 39 = .ok (.isub, 1) := by decide +kernel
theorem dX10_sends_40 : decode cX10_sends 40 = .ok (.iconst 1, 1) := by decide +kernel
theorem dX10_sends_41 : decode cX10_sends 41 = .ok (.invokevirtual 221, 3) := by decide +kernel
theorem dX10_sends_44 : decode cX10_sends 44 = .ok (.aload_n 0, 1) := by decide +kernel
theorem dX10_sends_45 : decode cX10_sends 45 = .ok (.iconst 2, 1) := by decide +kernel
theorem dX10_sends_46 : decode cX10_sends 46 = .ok (.aload_n 0, 1) := by decide +kernel
theorem dX10_sends_47 : decode cX10_sends 47 = .ok (.iload_n 1, 1) := by decide +kernel
theorem dX10_sends_48 : decode cX10_sends 48 = .ok (.iconst 1, 1) := by decide +kernel
theorem dX10_sends_49 : decode cX10_sends 49 = .ok (.invokevirtual 184, 3) := by decide +kernel
theorem dX10_sends_52 : decode cX10_sends 52 = .ok (.ineg, 1) := by decide +kernel
theorem dX10_sends_53 : decode cX10_sends 53 = .ok (.iconst 1, 1) := by decide +kernel
theorem dX10_sends_54 : decode cX10_sends 54 = .ok (.isub, 1) := by decide +kernel
theorem dX10_sends_55 : decode cX10_sends 55 = .ok (.iconst 1, 1) := by decide +kernel
theorem dX10_sends_56 : decode cX10_sends 56 = .ok (.invokevirtual 221, 3) := by decide +kernel
theorem dX10_sends_59 : decode cX10_sends 59 = .ok (.aload_n 0, 1) := by decide +kernel
theorem dX10_sends_60 : decode cX10_sends 60 = .ok (.getfield 30, 3) := by decide +kernel
theorem dX10_sends_63 : decode cX10_sends 63 = .ok (.bipush 9, 2) := by decide +kernel
theorem dX10_sends_65 : decode cX10_sends 65 = .ok (.iaload, 1) := by decide +kernel
theorem dX10_sends_66 : decode cX10_sends 66 = .ok (.istore_n 3, 1) := by decide +kernel
theorem dX10_sends_67 : decode cX10_sends 67 = .ok (.iload_n 3, 1) := by decide +kernel
theorem dX10_sends_68 : decode cX10_sends 68 = .ok (.ifCond .le 24, 3) := by decide +kernel
theorem dX10_sends_71 : decode cX10_sends 71 = .ok (.aload_n 0, 1) := by decide +kernel
theorem dX10_sends_72 : decode cX10_sends 72 = .ok (.getfield 30, 3) := by decide +kernel
theorem dX10_sends_75 : decode cX10_sends 75 = .ok (.iconst 0, 1) := by decide +kernel
theorem dX10_sends_76 : decode cX10_sends 76 = .ok (.dup2, 1) := by decide +kernel
theorem dX10_sends_77 : decode cX10_sends 77 = .ok (.iaload, 1) := by decide +kernel
theorem dX10_sends_78 : decode cX10_sends 78 = .ok (.aload_n 0, 1) := by decide +kernel
theorem dX10_sends_79 : decode cX10_sends 79 = .ok (.iload_n 2, 1) := by decide +kernel
theorem dX10_sends_80 : decode cX10_sends 80 = .ok (.iconst 1, 1) := by decide +kernel
theorem dX10_sends_81 : decode cX10_sends 81 = .ok (.invokevirtual 194, 3) := by decide +kernel
theorem dX10_sends_84 : decode cX10_sends 84 = .ok (.iload_n 3, 1) := by decide +kernel
theorem dX10_sends_85 : decode cX10_sends 85 = .ok (.iadd, 1) := by decide +kernel
theorem dX10_sends_86 : decode cX10_sends 86 = .ok (.iconst 1, 1) := by decide +kernel
theorem dX10_sends_87 : decode cX10_sends 87 = .ok (.isub, 1) := by decide +kernel
theorem dX10_sends_88 : decode cX10_sends 88 = .ok (.iload_n 3, 1) := by decide +kernel
theorem dX10_sends_89 : decode cX10_sends 89 = .ok (.idiv, 1) := by decide +kernel
theorem dX10_sends_90 : decode cX10_sends 90 = .ok (.iadd, 1) := by decide +kernel
theorem dX10_sends_91 : decode cX10_sends 91 = .ok (.iastore, 1) := by decide +kernel
theorem dX10_sends_92 : decode cX10_sends 92 = .ok (.return_, 1) := by decide +kernel
theorem dX10_hears_0 : decode cX10_hears 0 = .ok (.aload_n 0, 1) := by decide +kernel
theorem dX10_hears_1 : decode cX10_hears 1 = .ok (.iload_n 2, 1) := by decide +kernel
theorem dX10_hears_2 : decode cX10_hears 2 = .ok (.bipush 11, 2) := by decide +kernel
theorem dX10_hears_4 : decode cX10_hears 4 = .ok (.iconst 1, 1) := by decide +kernel
theorem dX10_hears_5 : decode cX10_hears 5 = .ok (.invokevirtual 197, 3) := by decide +kernel
theorem dX10_hears_8 : decode cX10_hears 8 = .ok (.aload_n 0, 1) := by decide +kernel
theorem dX10_hears_9 : decode cX10_hears 9 = .ok (.iload_n 1, 1) := by decide +kernel
theorem dX10_hears_10 : decode cX10_hears 10 = .ok (.bipush 8, 2) := by decide +kernel
theorem dX10_hears_12 : decode cX10_hears 12 = .ok (.aload_n 0, 1) := by decide +kernel
theorem dX10_hears_13 : decode cX10_hears 13 = .ok (.iload_n 1, 1) := by decide +kernel
theorem dX10_hears_14 : decode cX10_hears 14 = .ok (.bipush 8, 2) := by decide +kernel
theorem dX10_hears_16 : decode cX10_hears 16 = .ok (.invokevirtual 272, 3) := by decide +kernel
theorem dX10_hears_19 : decode cX10_hears 19 = .ok (.iconst 1, 1) := by decide +kernel
theorem dX10_hears_20 : decode cX10_hears 20 = .ok (.iadd, 1) := by decide +kernel
theorem dX10_hears_21 : decode cX10_hears 21 = .ok (.invokevirtual 170, 3) := by decide +kernel
theorem dX10_hears_24 : decode cX10_hears 24 = .ok (.aload_n 0, 1) := by decide +kernel
theorem dX10_hears_25 : decode cX10_hears 25 = .ok (.iload_n 1, 1) := by decide +kernel
theorem dX10_hears_26 : decode cX10_hears 26 = .ok (.iconst 5, 1) := by decide +kernel
theorem dX10_hears_27 : decode cX10_hears 27 = .ok (.aload_n 0, 1) := by decide +kernel
theorem dX10_hears_28 : decode cX10_hears 28 = .ok (.iload_n 1, 1) := by decide +kernel
theorem dX10_hears_29 : decode cX10_hears 29 = .ok (.iconst 5, 1) := by decide +kernel
theorem dX10_hears_30 : decode cX10_hears 30 = .ok (.invokevirtual 272, 3) := by decide +kernel
theorem dX10_hears_33 : decode cX10_hears 33 = .ok (.iconst 1, 1) := by decide +kernel
theorem dX10_hears_34 : decode cX10_hears 34 = .ok (.isub, 1) := by decide +kernel
theorem dX10_hears_35 : decode cX10_hears 35 = .ok (.invokevirtual 170, 3) := by decide +kernel
theorem dX10_hears_38 : decode cX10_hears 38 = .ok (.aload_n 0, 1) := by decide +kernel
theorem dX10_hears_39 : decode cX10_hears 39 = .ok (.iload_n 1, 1) := by decide +kernel
theorem dX10_hears_40 : decode cX10_hears 40 = .ok (.iconst 2, 1) := by decide +kernel
theorem dX10_hears_41 : decode cX10_hears 41 = .ok (.invokevirtual 272, 3) := by decide +kernel
theorem dX10_hears_44 : decode cX10_hears 44 = .ok (.istore_n 3, 1) := by decide +kernel
theorem dX10_hears_45 : decode cX10_hears 45 = .ok (.aload_n 0, 1) := by decide +kernel
theorem dX10_hears_46 : decode cX10_hears 46 = .ok (.iload_n 2, 1) := by decide +kernel
theorem dX10_hears_47 : decode cX10_hears 47 = .ok (.bipush 6, 2) := by decide +kernel
theorem dX10_hears_49 : decode cX10_hears 49 = .ok (.invokevirtual 194, 3) := by decide +kernel
theorem dX10_hears_52 : decode cX10_hears 52 = .ok (.iconst 1, 1) := by decide +kernel
theorem dX10_hears_53 : decode cX10_hears 53 = .ok (.if_icmp .ne 44, 3) := by decide +kernel
theorem dX10_hears_56 : decode cX10_hears 56 = .ok (.aload_n 0, 1) := by decide +kernel
theorem dX10_hears_57 : decode cX10_hears 57 = .ok (.iload_n 2, 1) := by decide +kernel
theorem dX10_hears_58 : decode cX10_hears 58 = .ok (.iconst 5, 1) := by decide +kernel
theorem dX10_hears_59 : decode cX10_hears 59 = .ok (.invokevirtual 194, 3) := by decide +kernel
theorem dX10_hears_62 : decode cX10_hears 62 = .ok (.ifCond .ne 35, 3) := by decide +kernel
theorem dX10_hears_65 : decode cX10_hears 65 = .ok (.iload_n 3, 1) := by decide +kernel
theorem dX10_hears_66 : decode cX10_hears 66 = .ok (.sipush 10000, 3) := by decide +kernel
theorem dX10_hears_69 : decode cX10_hears 69 = .ok (.iload_n 3, 1) := by decide +kernel
theorem dX10_hears_70 : decode cX10_hears 70 = .ok (.idiv, 1) := by decide +kernel
theorem dX10_hears_71 : decode cX10_hears 71 = .ok (.iadd, 1) := by decide +kernel
theorem dX10_hears_72 : decode cX10_hears 72 = .ok (.istore 4, 2) := by decide +kernel
theorem dX10_hears_74 : decode cX10_hears 74 = .ok (.aload_n 0, 1) := by decide +kernel
theorem dX10_hears_75 : decode cX10_hears 75 = .ok (.iload_n 1, 1) := by decide +kernel
theorem dX10_hears_76 : decode cX10_hears 76 = .ok (.iconst 2, 1) := by decide +kernel
theorem dX10_hears_77 : decode cX10_hears 77 = .ok (.iload 4, 2) := by decide +kernel
theorem dX10_hears_79 : decode cX10_hears 79 = .ok (.sipush 2000, 3) := by decide +kernel
theorem dX10_hears_82 : decode cX10_hears 82 = .ok (.if_icmp .le 9, 3) := by decide +kernel
theorem dX10_hears_85 : decode cX10_hears 85 = .ok (.sipush 2000, 3) := by decide +kernel
theorem dX10_hears_88 : decode cX10_hears 88 = .ok (.goto 5, 3) := by decide +kernel
theorem dX10_hears_91 : decode cX10_hears 91 = .ok (.iload 4, 2) := by decide +kernel
theorem dX10_hears_93 : decode cX10_hears 93 = .ok (.invokevirtual 170, 3) := by decide +kernel
theorem dX10_hears_96 : decode cX10_hears 96 = .ok (.return_, 1) := by decide +kernel
theorem dX10_hears_97 : decode cX10_hears 97 = .ok (.aload_n 0, 1) := by decide +kernel
theorem dX10_hears_98 : decode cX10_hears 98 = .ok (.iload_n 1, 1) := by decide +kernel
theorem dX10_hears_99 : decode cX10_hears 99 = .ok (.bipush 7, 2) := by decide +kernel
theorem dX10_hears_101 : decode cX10_hears 101 = .ok (.invokevirtual 272, 3) := by decide +kernel
theorem dX10_hears_104 : decode cX10_hears 104 = .ok (.bipush (-2), 2) := by decide +kernel
theorem dX10_hears_106 : decode cX10_hears 106 = .ok (.if_icmp .eq 27, 3) := by decide +kernel
theorem dX10_hears_109 : decode cX10_hears 109 = .ok (.aload_n 0, 1) := by decide +kernel
theorem dX10_hears_110 : decode cX10_hears 110 = .ok (.getfield 30, 3) := by decide +kernel
theorem dX10_hears_113 : decode cX10_hears 113 = .ok (.iconst 0, 1) := by decide +kernel
theorem dX10_hears_114 : decode cX10_hears 114 = .ok (.iaload, 1) := by decide +kernel
theorem dX10_hears_115 : decode cX10_hears 115 = .ok (.aload_n 0, 1) := by decide +kernel
theorem dX10_hears_116 : decode cX10_hears 116 = .ok (.iload_n 1, 1) := by decide +kernel
theorem dX10_hears_117 : decode cX10_hears 117 = .ok (.bipush 7, 2) := by decide +kernel
theorem dX10_hears_119 : decode cX10_hears 119 = .ok (.invokevirtual 272, 3) := by decide +kernel
theorem dX10_hears_122 : decode cX10_hears 122 = .ok (.isub, 1) := by decide +kernel
theorem dX10_hears_123 : decode cX10_hears 123 = .ok (.aload_n 0, 1) := by decide +kernel
theorem dX10_hears_124 : decode cX10_hears 124 = .ok (.iload_n 1, 1) := by decide +kernel
theorem dX10_hears_125 : decode cX10_hears 125 = .ok (.iconst 3, 1) := by decide +kernel
theorem dX10_hears_126 : decode cX10_hears 126 = .ok (.invokevirtual 272, 3) := by decide +kernel
theorem dX10_hears_129 : decode cX10_hears 129 = .ok (.if_icmp .ge 4, 3) := by decide +kernel
theorem dX10_hears_132 : decode cX10_hears 132 = .ok (.return_, 1) := by decide +kernel
theorem dX10_hears_133 : decode cX10_hears 133 = .ok (.aload_n 0, 1) := by decide +kernel
theorem dX10_hears_134 : decode cX10_hears 134 = .ok (.iload_n 1, 1) := by decide +kernel
theorem dX10_hears_135 : decode cX10_hears 135 = .ok (.iconst 2, 1) := by decide +kernel
theorem dX10_hears_136 : decode cX10_hears 136 = .ok (.iload_n 3, 1) := by decide +kernel
theorem dX10_hears_137 : decode cX10_hears 137 = .ok (.iconst 2, 1) := by decide +kernel
theorem dX10_hears_138 : decode cX10_hears 138 = .ok (.idiv, 1) := by decide +kernel
theorem dX10_hears_139 : decode cX10_hears 139 = .ok (.bipush 100, 2) := by decide +kernel
theorem dX10_hears_141 : decode cX10_hears 141 = .ok (.if_icmp .ge 8, 3) := by decide +kernel
theorem dX10_hears_144 : decode cX10_hears 144 = .ok (.bipush 100, 2) := by decide +kernel
theorem dX10_hears_146 : decode cX10_hears 146 = .ok (.goto 6, 3) := by decide +kernel
theorem dX10_hears_149 : decode cX10_hears 149 = .ok (.iload_n 3, 1) := by decide +kernel
theorem dX10_hears_150 : decode cX10_hears 150 = .ok (.iconst 2, 1) := by decide +kernel
theorem dX10_hears_151 : decode cX10_hears 151 = .ok (.idiv, 1) := by decide +kernel
theorem dX10_hears_152 : decode cX10_hears 152 = .ok (.invokevirtual 170, 3) := by decide +kernel
theorem dX10_hears_155 : decode cX10_hears 155 = .ok (.aload_n 0, 1) := by decide +kernel
theorem dX10_hears_156 : decode cX10_hears 156 = .ok (.iload_n 1, 1) := by decide +kernel
theorem dX10_hears_157 : decode cX10_hears 157 = .ok (.bipush 6, 2) := by decide +kernel
theorem dX10_hears_159 : decode cX10_hears 159 = .ok (.aload_n 0, 1) := by decide +kernel
theorem dX10_hears_160 : decode cX10_hears 160 = .ok (.iload_n 1, 1) := by decide +kernel
theorem dX10_hears_161 : decode cX10_hears 161 = .ok (.bipush 6, 2) := by decide +kernel
theorem dX10_hears_163 : decode cX10_hears 163 = .ok (.invokevirtual 272, 3) := by decide +kernel
theorem dX10_hears_166 : decode cX10_hears 166 = .ok (.iconst 1, 1) := by decide +kernel
theorem dX10_hears_167 : decode cX10_hears 167 = .ok (.iadd, 1) := by decide +kernel
theorem dX10_hears_168 : decode cX10_hears 168 = .ok (.invokevirtual 170, 3) := by decide +kernel
theorem dX10_hears_171 : decode cX10_hears 171 = .ok (.aload_n 0, 1) := by decide +kernel
theorem dX10_hears_172 : decode cX10_hears 172 = .ok (.iload_n 1, 1) := by decide +kernel
theorem dX10_hears_173 : decode cX10_hears 173 = .ok (.bipush 7, 2) := by decide +kernel
theorem dX10_hears_175 : decode cX10_hears 175 = .ok (.aload_n 0, 1) := by decide +kernel
theorem dX10_hears_176 : decode cX10_hears 176 = .ok (.getfield 30, 3) := by decide +kernel
theorem dX10_hears_179 : decode cX10_hears 179 = .ok (.iconst 0, 1) := by decide +kernel
theorem dX10_hears_180 : decode cX10_hears 180 = .ok (.iaload, 1) := by decide +kernel
theorem dX10_hears_181 : decode cX10_hears 181 = .ok (.invokevirtual 170, 3) := by decide +kernel
theorem dX10_hears_184 : decode cX10_hears 184 = .ok (.return_, 1) := by decide +kernel
theorem dX10_sender__0 : decode cX10_sender_ 0 = .ok (.aload_n 0, 1) := by decide +kernel
theorem dX10_sender__1 : decode cX10_sender_ 1 = .ok (.iconst 0, 1) := by decide +kernel
theorem dX10_sender__2 : decode cX10_sender_ 2 = .ok (.putfield 45, 3) := by decide +kernel
theorem dX10_sender__5 : decode cX10_sender_ 5 = .ok (.iload_n 1, 1) := by decide +kernel
theorem dX10_sender__6 : decode cX10_sender_ 6 = .ok (.ifCond .lt 34, 3) := by decide +kernel
theorem dX10_sender__9 : decode cX10_sender_ 9 = .ok (.iload_n 1, 1) := by decide +kernel
theorem dX10_sender__10 : decode cX10_sender_ 10 = .ok (.aload_n 0, 1) := by decide +kernel
theorem dX10_sender__11 : decode cX10_sender_ 11 = .ok (.getfield 30, 3) := by decide +kernel
theorem dX10_sender__14 : decode cX10_sender_ 14 = .ok (.sipush 3477, 3) := by decide +kernel
theorem dX10_sender__17 : decode cX10_sender_ 17 = .ok (.iaload, 1) := by decide +kernel
theorem dX10_sender__18 : decode cX10_sender_ 18 = .ok (.if_icmp .ge 22, 3) := by decide +kernel
theorem dX10_sender__21 : decode cX10_sender_ 21 = .ok (.iload_n 2, 1) := by decide +kernel
theorem dX10_sender__22 : decode cX10_sender_ 22 = .ok (.ifCond .lt 18, 3) := by decide +kernel
theorem dX10_sender__25 : decode cX10_sender_ 25 = .ok (.iload_n 2, 1) := by decide +kernel
theorem dX10_sender__26 : decode cX10_sender_ 26 = .ok (.bipush 8, 2) := by decide +kernel
theorem dX10_sender__28 : decode cX10_sender_ 28 = .ok (.if_icmp .gt 12, 3) := by decide +kernel
theorem dX10_sender__31 : decode cX10_sender_ 31 = .ok (.aload_n 0, 1) := by decide +kernel
theorem dX10_sender__32 : decode cX10_sender_ 32 = .ok (.iload_n 1, 1) := by decide +kernel
theorem dX10_sender__33 : decode cX10_sender_ 33 = .ok (.iload_n 2, 1) := by decide +kernel
theorem dX10_sender__34 : decode cX10_sender_ 34 = .ok (.invokevirtual 272, 3) := by decide +kernel
theorem dX10_sender__37 : decode cX10_sender_ 37 = .ok (.goto 4, 3) := by decide +kernel
theorem dX10_sender__40 : decode cX10_sender_ 40 = .ok (.iconst (-1), 1) := by decide +kernel
theorem dX10_sender__41 : decode cX10_sender_ 41 = .ok (.ireturn, 1) := by decide +kernel
theorem dX10_whose_0 : decode cX10_whose 0 = .ok (.aload_n 0, 1) := by decide +kernel
theorem dX10_whose_1 : decode cX10_whose 1 = .ok (.iconst 0, 1) := by decide +kernel
theorem dX10_whose_2 : decode cX10_whose 2 = .ok (.putfield 45, 3) := by decide +kernel
theorem dX10_whose_5 : decode cX10_whose 5 = .ok (.iload_n 1, 1) := by decide +kernel
theorem dX10_whose_6 : decode cX10_whose 6 = .ok (.ifCond .lt 23, 3) := by decide +kernel
theorem dX10_whose_9 : decode cX10_whose 9 = .ok (.iload_n 1, 1) := by decide +kernel
theorem dX10_whose_10 : decode cX10_whose 10 = .ok (.aload_n 0, 1) := by decide +kernel
theorem dX10_whose_11 : decode cX10_whose 11 = .ok (.getfield 30, 3) := by decide +kernel
theorem dX10_whose_14 : decode cX10_whose 14 = .ok (.iconst 1, 1) := by decide +kernel
theorem dX10_whose_15 : decode cX10_whose 15 = .ok (.iaload, 1) := by decide +kernel
theorem dX10_whose_16 : decode cX10_whose 16 = .ok (.if_icmp .ge 13, 3) := by decide +kernel
theorem dX10_whose_19 : decode cX10_whose 19 = .ok (.aload_n 0, 1) := by decide +kernel
theorem dX10_whose_20 : decode cX10_whose 20 = .ok (.iload_n 1, 1) := by decide +kernel
theorem dX10_whose_21 : decode cX10_whose 21 = .ok (.bipush 10, 2) := by decide +kernel
theorem dX10_whose_23 : decode cX10_whose 23 = .ok (.invokevirtual 194, 3) := by decide +kernel
theorem dX10_whose_26 : decode cX10_whose 26 = .ok (.goto 4, 3) := by decide +kernel
theorem dX10_whose_29 : decode cX10_whose 29 = .ok (.iconst (-1), 1) := by decide +kernel
theorem dX10_whose_30 : decode cX10_whose 30 = .ok (.ireturn, 1) := by decide +kernel
theorem dX10_windows_0 : decode cX10_windows 0 = .ok (.iconst 0, 1) := by decide +kernel
theorem dX10_windows_1 : decode cX10_windows 1 = .ok (.istore_n 1, 1) := by decide +kernel
theorem dX10_windows_2 : decode cX10_windows 2 = .ok (.iconst 0, 1) := by decide +kernel
theorem dX10_windows_3 : decode cX10_windows 3 = .ok (.istore_n 2, 1) := by decide +kernel
theorem dX10_windows_4 : decode cX10_windows 4 = .ok (.iload_n 2, 1) := by decide +kernel
theorem dX10_windows_5 : decode cX10_windows 5 = .ok (.aload_n 0, 1) := by decide +kernel
theorem dX10_windows_6 : decode cX10_windows 6 = .ok (.getfield 30, 3) := by decide +kernel
theorem dX10_windows_9 : decode cX10_windows 9 = .ok (.sipush 3477, 3) := by decide +kernel
theorem dX10_windows_12 : decode cX10_windows 12 = .ok (.iaload, 1) := by decide +kernel
theorem dX10_windows_13 : decode cX10_windows 13 = .ok (.if_icmp .ge 18, 3) := by decide +kernel
theorem dX10_windows_16 : decode cX10_windows 16 = .ok (.iload_n 1, 1) := by decide +kernel
theorem dX10_windows_17 : decode cX10_windows 17 = .ok (.aload_n 0, 1) := by decide +kernel
theorem dX10_windows_18 : decode cX10_windows 18 = .ok (.iload_n 2, 1) := by decide +kernel
theorem dX10_windows_19 : decode cX10_windows 19 = .ok (.iconst 2, 1) := by decide +kernel
theorem dX10_windows_20 : decode cX10_windows 20 = .ok (.invokevirtual 272, 3) := by decide +kernel
theorem dX10_windows_23 : decode cX10_windows 23 = .ok (.iadd, 1) := by decide +kernel
theorem dX10_windows_24 : decode cX10_windows 24 = .ok (.istore_n 1, 1) := by decide +kernel
theorem dX10_windows_25 : decode cX10_windows 25 = .ok (.iinc 2 1, 3) := by decide +kernel
theorem dX10_windows_28 : decode cX10_windows 28 = .ok (.goto (-24), 3) := by decide +kernel
theorem dX10_windows_31 : decode cX10_windows 31 = .ok (.iload_n 1, 1) := by decide +kernel
theorem dX10_windows_32 : decode cX10_windows 32 = .ok (.ireturn, 1) := by decide +kernel
theorem dX10_cuts_0 : decode cX10_cuts 0 = .ok (.iconst 0, 1) := by decide +kernel
theorem dX10_cuts_1 : decode cX10_cuts 1 = .ok (.istore_n 1, 1) := by decide +kernel
theorem dX10_cuts_2 : decode cX10_cuts 2 = .ok (.iconst 0, 1) := by decide +kernel
theorem dX10_cuts_3 : decode cX10_cuts 3 = .ok (.istore_n 2, 1) := by decide +kernel
theorem dX10_cuts_4 : decode cX10_cuts 4 = .ok (.iload_n 2, 1) := by decide +kernel
theorem dX10_cuts_5 : decode cX10_cuts 5 = .ok (.aload_n 0, 1) := by decide +kernel
theorem dX10_cuts_6 : decode cX10_cuts 6 = .ok (.getfield 30, 3) := by decide +kernel
theorem dX10_cuts_9 : decode cX10_cuts 9 = .ok (.sipush 3477, 3) := by decide +kernel
theorem dX10_cuts_12 : decode cX10_cuts 12 = .ok (.iaload, 1) := by decide +kernel
theorem dX10_cuts_13 : decode cX10_cuts 13 = .ok (.if_icmp .ge 19, 3) := by decide +kernel
theorem dX10_cuts_16 : decode cX10_cuts 16 = .ok (.iload_n 1, 1) := by decide +kernel
theorem dX10_cuts_17 : decode cX10_cuts 17 = .ok (.aload_n 0, 1) := by decide +kernel
theorem dX10_cuts_18 : decode cX10_cuts 18 = .ok (.iload_n 2, 1) := by decide +kernel
theorem dX10_cuts_19 : decode cX10_cuts 19 = .ok (.bipush 6, 2) := by decide +kernel
theorem dX10_cuts_21 : decode cX10_cuts 21 = .ok (.invokevirtual 272, 3) := by decide +kernel
theorem dX10_cuts_24 : decode cX10_cuts 24 = .ok (.iadd, 1) := by decide +kernel
theorem dX10_cuts_25 : decode cX10_cuts 25 = .ok (.istore_n 1, 1) := by decide +kernel
theorem dX10_cuts_26 : decode cX10_cuts 26 = .ok (.iinc 2 1, 3) := by decide +kernel
theorem dX10_cuts_29 : decode cX10_cuts 29 = .ok (.goto (-25), 3) := by decide +kernel
theorem dX10_cuts_32 : decode cX10_cuts 32 = .ok (.iload_n 1, 1) := by decide +kernel
theorem dX10_cuts_33 : decode cX10_cuts 33 = .ok (.ireturn, 1) := by decide +kernel
theorem dX10_bytesSent_0 : decode cX10_bytesSent 0 = .ok (.iconst 0, 1) := by decide +kernel
theorem dX10_bytesSent_1 : decode cX10_bytesSent 1 = .ok (.istore_n 2, 1) := by decide +kernel
theorem dX10_bytesSent_2 : decode cX10_bytesSent 2 = .ok (.iload_n 1, 1) := by decide +kernel
theorem dX10_bytesSent_3 : decode cX10_bytesSent 3 = .ok (.istore_n 3, 1) := by decide +kernel
theorem dX10_bytesSent_4 : decode cX10_bytesSent 4 = .ok (.iload_n 3, 1) := by decide +kernel
theorem dX10_bytesSent_5 : decode cX10_bytesSent 5 = .ok (.aload_n 0, 1) := by decide +kernel
theorem dX10_bytesSent_6 : decode cX10_bytesSent 6 = .ok (.getfield 30, 3) := by decide +kernel
theorem dX10_bytesSent_9 : decode cX10_bytesSent 9 = .ok (.bipush 14, 2) := by decide +kernel
theorem dX10_bytesSent_11 : decode cX10_bytesSent 11 = .ok (.iaload, 1) := by decide +kernel
theorem dX10_bytesSent_12 : decode cX10_bytesSent 12 = .ok (.if_icmp .ge 27, 3) := by decide +kernel
theorem dX10_bytesSent_15 : decode cX10_bytesSent 15 = .ok (.iload_n 2, 1) := by decide +kernel
theorem dX10_bytesSent_16 : decode cX10_bytesSent 16 = .ok (.aload_n 0, 1) := by decide +kernel
theorem dX10_bytesSent_17 : decode cX10_bytesSent 17 = .ok (.aload_n 0, 1) := by decide +kernel
theorem dX10_bytesSent_18 : decode cX10_bytesSent 18 = .ok (.getfield 30, 3) := by decide +kernel
theorem dX10_bytesSent_21 : decode cX10_bytesSent 21 = .ok (.sipush 2676, 3) := by decide +kernel
theorem dX10_bytesSent_24 : decode cX10_bytesSent 24 = .ok (.iload_n 3, 1) := by decide +kernel
theorem dX10_bytesSent_25 : decode cX10_bytesSent 25 = .ok (.iadd, 1) := by decide +kernel
theorem dX10_bytesSent_26 : decode cX10_bytesSent 26 = .ok (.iaload, 1) := by decide +kernel
theorem dX10_bytesSent_27 : decode cX10_bytesSent 27 = .ok (.iconst 1, 1) := by decide +kernel
theorem dX10_bytesSent_28 : decode cX10_bytesSent 28 = .ok (.invokevirtual 194, 3) := by decide +kernel
theorem dX10_bytesSent_31 : decode cX10_bytesSent 31 = .ok (.iadd, 1) := by decide +kernel
theorem dX10_bytesSent_32 : decode cX10_bytesSent 32 = .ok (.istore_n 2, 1) := by decide +kernel
theorem dX10_bytesSent_33 : decode cX10_bytesSent 33 = .ok (.iinc 3 1, 3) := by decide +kernel
theorem dX10_bytesSent_36 : decode cX10_bytesSent 36 = .ok (.goto (-32), 3) := by decide +kernel
theorem dX10_bytesSent_39 : decode cX10_bytesSent 39 = .ok (.iload_n 2, 1) := by decide +kernel
theorem dX10_bytesSent_40 : decode cX10_bytesSent 40 = .ok (.ireturn, 1) := by decide +kernel
theorem dX10_settle_0 : decode cX10_settle 0 = .ok (.aload_n 0, 1) := by decide +kernel
theorem dX10_settle_1 : decode cX10_settle 1 = .ok (.iconst 0, 1) := by decide +kernel
theorem dX10_settle_2 : decode cX10_settle 2 = .ok (.putfield 45, 3) := by decide +kernel
theorem dX10_settle_5 : decode cX10_settle 5 = .ok (.iload_n 1, 1) := by decide +kernel
theorem dX10_settle_6 : decode cX10_settle 6 = .ok (.ifCond .lt 24, 3) := by decide +kernel
theorem dX10_settle_9 : decode cX10_settle 9 = .ok (.iload_n 1, 1) := by decide +kernel
theorem dX10_settle_10 : decode cX10_settle 10 = .ok (.iconst 5, 1) := by decide +kernel
theorem dX10_settle_11 : decode cX10_settle 11 = .ok (.if_icmp .gt 19, 3) := by decide +kernel
theorem dX10_settle_14 : decode cX10_settle 14 = .ok (.iload_n 2, 1) := by decide +kernel
theorem dX10_settle_15 : decode cX10_settle 15 = .ok (.iload_n 1, 1) := by decide +kernel
theorem dX10_settle_16 : decode cX10_settle 16 = .ok (.invokestatic 111, 3) := by decide +kernel
theorem dX10_settle_19 : decode cX10_settle 19 = .ok (.if_icmp .lt 11, 3) := by decide +kernel
theorem dX10_settle_22 : decode cX10_settle 22 = .ok (.iload_n 2, 1) := by decide +kernel
theorem dX10_settle_23 : decode cX10_settle 23 = .ok (.iload_n 1, 1) := by decide +kernel
theorem dX10_settle_24 : decode cX10_settle 24 = .ok (.invokestatic 115, 3) := by decide +kernel
theorem dX10_settle_27 : decode cX10_settle 27 = .ok (.if_icmp .le 5, 3) := by decide +kernel
theorem dX10_settle_30 : decode cX10_settle 30 = .ok (.iconst (-1), 1) := by decide +kernel
theorem dX10_settle_31 : decode cX10_settle 31 = .ok (.ireturn, 1) := by decide +kernel
theorem dX10_settle_32 : decode cX10_settle 32 = .ok (.aload_n 0, 1) := by decide +kernel
theorem dX10_settle_33 : decode cX10_settle 33 = .ok (.getfield 30, 3) := by decide +kernel
theorem dX10_settle_36 : decode cX10_settle 36 = .ok (.iconst 4, 1) := by decide +kernel
theorem dX10_settle_37 : decode cX10_settle 37 = .ok (.iload_n 1, 1) := by decide +kernel
theorem dX10_settle_38 : decode cX10_settle 38 = .ok (.iadd, 1) := by decide +kernel
theorem dX10_settle_39 : decode cX10_settle 39 = .ok (.iaload, 1) := by decide +kernel
theorem dX10_settle_40 : decode cX10_settle 40 = .ok (.istore_n 3, 1) := by decide +kernel
theorem dX10_settle_41 : decode cX10_settle 41 = .ok (.aload_n 0, 1) := by decide +kernel
theorem dX10_settle_42 : decode cX10_settle 42 = .ok (.getfield 30, 3) := by decide +kernel
theorem dX10_settle_45 : decode cX10_settle 45 = .ok (.iconst 4, 1) := by decide +kernel
theorem dX10_settle_46 : decode cX10_settle 46 = .ok (.iload_n 1, 1) := by decide +kernel
theorem dX10_settle_47 : decode cX10_settle 47 = .ok (.iadd, 1) := by decide +kernel
theorem dX10_settle_48 : decode cX10_settle 48 = .ok (.iload_n 2, 1) := by decide +kernel
theorem dX10_settle_49 : decode cX10_settle 49 = .ok (.iastore, 1) := by decide +kernel
theorem dX10_settle_50 : decode cX10_settle 50 = .ok (.iload_n 3, 1) := by decide +kernel
theorem dX10_settle_51 : decode cX10_settle 51 = .ok (.ireturn, 1) := by decide +kernel
theorem dX10_isBucket_0 : decode cX10_isBucket 0 = .ok (.iload_n 1, 1) := by decide +kernel
theorem dX10_isBucket_1 : decode cX10_isBucket 1 = .ok (.ifCond .lt 15, 3) := by decide +kernel
theorem dX10_isBucket_4 : decode cX10_isBucket 4 = .ok (.iload_n 1, 1) := by decide +kernel
theorem dX10_isBucket_5 : decode cX10_isBucket 5 = .ok (.aload_n 0, 1) := by decide +kernel
theorem dX10_isBucket_6 : decode cX10_isBucket 6 = .ok (.invokevirtual 209, 3) := by decide +kernel
theorem dX10_isBucket_9 : decode cX10_isBucket 9 = .ok (.if_icmp .ge 7, 3) := by decide +kernel
theorem dX10_isBucket_12 : decode cX10_isBucket 12 = .ok (.iconst 1, 1) := by decide +kernel
theorem dX10_isBucket_13 : decode cX10_isBucket 13 = .ok (.goto 4, 3) := by decide +kernel
theorem dX10_isBucket_16 : decode cX10_isBucket 16 = .ok (.iconst 0, 1) := by decide +kernel
theorem dX10_isBucket_17 : decode cX10_isBucket 17 = .ok (.ireturn, 1) := by decide +kernel
theorem dX10_set_0 : decode cX10_set 0 = .ok (.aload_n 0, 1) := by decide +kernel
theorem dX10_set_1 : decode cX10_set 1 = .ok (.iconst 0, 1) := by decide +kernel
theorem dX10_set_2 : decode cX10_set 2 = .ok (.putfield 45, 3) := by decide +kernel
theorem dX10_set_5 : decode cX10_set 5 = .ok (.iload_n 1, 1) := by decide +kernel
theorem dX10_set_6 : decode cX10_set 6 = .ok (.invokestatic 301, 3) := by decide +kernel
theorem dX10_set_9 : decode cX10_set 9 = .ok (.ifCond .eq 17, 3) := by decide +kernel
theorem dX10_set_12 : decode cX10_set 12 = .ok (.iload_n 1, 1) := by decide +kernel
theorem dX10_set_13 : decode cX10_set 13 = .ok (.aload_n 0, 1) := by decide +kernel
theorem dX10_set_14 : decode cX10_set 14 = .ok (.getfield 30, 3) := by decide +kernel
theorem dX10_set_17 : decode cX10_set 17 = .ok (.bipush 10, 2) := by decide +kernel
theorem dX10_set_19 : decode cX10_set 19 = .ok (.iaload, 1) := by decide +kernel
theorem dX10_set_20 : decode cX10_set 20 = .ok (.invokestatic 181, 3) := by decide +kernel
theorem dX10_set_23 : decode cX10_set 23 = .ok (.goto 4, 3) := by decide +kernel
theorem dX10_set_26 : decode cX10_set 26 = .ok (.iconst (-1), 1) := by decide +kernel
theorem dX10_set_27 : decode cX10_set 27 = .ok (.ireturn, 1) := by decide +kernel
theorem dX10_standingIn_0 : decode cX10_standingIn 0 = .ok (.iconst 0, 1) := by decide +kernel
theorem dX10_standingIn_1 : decode cX10_standingIn 1 = .ok (.istore_n 2, 1) := by decide +kernel
theorem dX10_standingIn_2 : decode cX10_standingIn 2 = .ok (.iconst 0, 1) := by decide +kernel
theorem dX10_standingIn_3 : decode cX10_standingIn 3 = .ok (.istore_n 3, 1) := by decide +kernel
theorem dX10_standingIn_4 : decode cX10_standingIn 4 = .ok (.iload_n 3, 1) := by decide +kernel
theorem dX10_standingIn_5 : decode cX10_standingIn 5 = .ok (.aload_n 0, 1) := by decide +kernel
theorem dX10_standingIn_6 : decode cX10_standingIn 6 = .ok (.getfield 30, 3) := by decide +kernel
theorem dX10_standingIn_9 : decode cX10_standingIn 9 = .ok (.iconst 1, 1) := by decide +kernel
theorem dX10_standingIn_10 : decode cX10_standingIn 10 = .ok (.iaload, 1) := by decide +kernel
theorem dX10_standingIn_11 : decode cX10_standingIn 11 = .ok (.if_icmp .ge 37, 3) := by decide +kernel
theorem dX10_standingIn_14 : decode cX10_standingIn 14 = .ok (.iload_n 2, 1) := by decide +kernel
theorem dX10_standingIn_15 : decode cX10_standingIn 15 = .ok (.aload_n 0, 1) := by decide +kernel
theorem dX10_standingIn_16 : decode cX10_standingIn 16 = .ok (.iload_n 3, 1) := by decide +kernel
theorem dX10_standingIn_17 : decode cX10_standingIn 17 = .ok (.iconst 4, 1) := by decide +kernel
theorem dX10_standingIn_18 : decode cX10_standingIn 18 = .ok (.invokevirtual 194, 3) := by decide +kernel
theorem dX10_standingIn_21 : decode cX10_standingIn 21 = .ok (.iload_n 1, 1) := by decide +kernel
theorem dX10_standingIn_22 : decode cX10_standingIn 22 = .ok (.if_icmp .ne 17, 3) := by decide +kernel
theorem dX10_standingIn_25 : decode cX10_standingIn 25 = .ok (.aload_n 0, 1) := by decide +kernel
theorem dX10_standingIn_26 : decode cX10_standingIn 26 = .ok (.iload_n 3, 1) := by decide +kernel
theorem dX10_standingIn_27 : decode cX10_standingIn 27 = .ok (.bipush 6, 2) := by decide +kernel
theorem dX10_standingIn_29 : decode cX10_standingIn 29 = .ok (.invokevirtual 194, 3) := by decide +kernel
theorem dX10_standingIn_32 : decode cX10_standingIn 32 = .ok (.ifCond .ne 7, 3) := by decide +kernel
theorem dX10_standingIn_35 : decode cX10_standingIn 35 = .ok (.iconst 1, 1) := by decide +kernel
theorem dX10_standingIn_36 : decode cX10_standingIn 36 = .ok (.goto 4, 3) := by decide +kernel
theorem dX10_standingIn_39 : decode cX10_standingIn 39 = .ok (.iconst 0, 1) := by decide +kernel
theorem dX10_standingIn_40 : decode cX10_standingIn 40 = .ok (.iadd, 1) := by decide +kernel
theorem dX10_standingIn_41 : decode cX10_standingIn 41 = .ok (.istore_n 2, 1) := by decide +kernel
theorem dX10_standingIn_42 : decode cX10_standingIn 42 = .ok (.iinc 3 1, 3) := by decide +kernel
theorem dX10_standingIn_45 : decode cX10_standingIn 45 = .ok (.goto (-41), 3) := by decide +kernel
theorem dX10_standingIn_48 : decode cX10_standingIn 48 = .ok (.iload_n 2, 1) := by decide +kernel
theorem dX10_standingIn_49 : decode cX10_standingIn 49 = .ok (.ireturn, 1) := by decide +kernel
theorem dX10_order_0 : decode cX10_order 0 = .ok (.aload_n 0, 1) := by decide +kernel
theorem dX10_order_1 : decode cX10_order 1 = .ok (.iconst 0, 1) := by decide +kernel
theorem dX10_order_2 : decode cX10_order 2 = .ok (.putfield 45, 3) := by decide +kernel
theorem dX10_order_5 : decode cX10_order 5 = .ok (.iload_n 1, 1) := by decide +kernel
theorem dX10_order_6 : decode cX10_order 6 = .ok (.ifCond .ge 5, 3) := by decide +kernel
theorem dX10_order_9 : decode cX10_order 9 = .ok (.iconst (-1), 1) := by decide +kernel
theorem dX10_order_10 : decode cX10_order 10 = .ok (.ireturn, 1) := by decide +kernel
theorem dX10_order_11 : decode cX10_order 11 = .ok (.iload_n 1, 1) := by decide +kernel
theorem dX10_order_12 : decode cX10_order 12 = .ok (.aload_n 0, 1) := by decide +kernel
theorem dX10_order_13 : decode cX10_order 13 = .ok (.getfield 30, 3) := by decide +kernel
theorem dX10_order_16 : decode cX10_order 16 = .ok (.bipush 12, 2) := by decide +kernel
theorem dX10_order_18 : decode cX10_order 18 = .ok (.iaload, 1) := by decide +kernel
theorem dX10_order_19 : decode cX10_order 19 = .ok (.if_icmp .ge 12, 3) := by decide +kernel
theorem dX10_order_22 : decode cX10_order 22 = .ok (.aload_n 0, 1) := by decide +kernel
theorem dX10_order_23 : decode cX10_order 23 = .ok (.iconst 1, 1) := by decide +kernel
theorem dX10_order_24 : decode cX10_order 24 = .ok (.iload_n 1, 1) := by decide +kernel
theorem dX10_order_25 : decode cX10_order 25 = .ok (.invokevirtual 176, 3) := by decide +kernel
theorem dX10_order_28 : decode cX10_order 28 = .ok (.goto 41, 3) := by decide +kernel
theorem dX10_order_31 : decode cX10_order 31 = .ok (.iload_n 1, 1) := by decide +kernel
theorem dX10_order_32 : decode cX10_order 32 = .ok (.aload_n 0, 1) := by decide +kernel
theorem dX10_order_33 : decode cX10_order 33 = .ok (.getfield 30, 3) := by decide +kernel
theorem dX10_order_36 : decode cX10_order 36 = .ok (.bipush 12, 2) := by decide +kernel
theorem dX10_order_38 : decode cX10_order 38 = .ok (.iaload, 1) := by decide +kernel
theorem dX10_order_39 : decode cX10_order 39 = .ok (.isub, 1) := by decide +kernel
theorem dX10_order_40 : decode cX10_order 40 = .ok (.aload_n 0, 1) := by decide +kernel
theorem dX10_order_41 : decode cX10_order 41 = .ok (.getfield 30, 3) := by decide +kernel
theorem dX10_order_44 : decode cX10_order 44 = .ok (.bipush 13, 2) := by decide +kernel
theorem dX10_order_46 : decode cX10_order 46 = .ok (.iaload, 1) := by decide +kernel
theorem dX10_order_47 : decode cX10_order 47 = .ok (.if_icmp .ge 20, 3) := by decide +kernel
theorem dX10_order_50 : decode cX10_order 50 = .ok (.aload_n 0, 1) := by decide +kernel
theorem dX10_order_51 : decode cX10_order 51 = .ok (.iconst 2, 1) := by decide +kernel
theorem dX10_order_52 : decode cX10_order 52 = .ok (.iload_n 1, 1) := by decide +kernel
theorem dX10_order_53 : decode cX10_order 53 = .ok (.aload_n 0, 1) := by decide +kernel
theorem dX10_order_54 : decode cX10_order 54 = .ok (.getfield 30, 3) := by decide +kernel
theorem dX10_order_57 : decode cX10_order 57 = .ok (.bipush 12, 2) := by decide +kernel
theorem dX10_order_59 : decode cX10_order 59 = .ok (.iaload, 1) := by decide +kernel
theorem dX10_order_60 : decode cX10_order 60 = .ok (.isub, 1) := by decide +kernel
theorem dX10_order_61 : decode cX10_order 61 = .ok (.invokevirtual 176, 3) := by decide +kernel
theorem dX10_order_64 : decode cX10_order 64 = .ok (.goto 5, 3) := by decide +kernel
theorem dX10_order_67 : decode cX10_order 67 = .ok (.bipush (-2), 2) := by decide +kernel
theorem dX10_order_69 : decode cX10_order 69 = .ok (.ireturn, 1) := by decide +kernel
theorem dX10_frame_0 : decode cX10_frame 0 = .ok (.aload_n 0, 1) := by decide +kernel
theorem dX10_frame_1 : decode cX10_frame 1 = .ok (.iconst 0, 1) := by decide +kernel
theorem dX10_frame_2 : decode cX10_frame 2 = .ok (.putfield 45, 3) := by decide +kernel
theorem dX10_frame_5 : decode cX10_frame 5 = .ok (.iload_n 1, 1) := by decide +kernel
theorem dX10_frame_6 : decode cX10_frame 6 = .ok (.ifCond .lt 23, 3) := by decide +kernel
theorem dX10_frame_9 : decode cX10_frame 9 = .ok (.iload_n 1, 1) := by decide +kernel
theorem dX10_frame_10 : decode cX10_frame 10 = .ok (.aload_n 0, 1) := by decide +kernel
theorem dX10_frame_11 : decode cX10_frame 11 = .ok (.getfield 30, 3) := by decide +kernel
theorem dX10_frame_14 : decode cX10_frame 14 = .ok (.iconst 1, 1) := by decide +kernel
theorem dX10_frame_15 : decode cX10_frame 15 = .ok (.iaload, 1) := by decide +kernel
theorem dX10_frame_16 : decode cX10_frame 16 = .ok (.if_icmp .ge 13, 3) := by decide +kernel
theorem dX10_frame_19 : decode cX10_frame 19 = .ok (.iload_n 2, 1) := by decide +kernel
theorem dX10_frame_20 : decode cX10_frame 20 = .ok (.ifCond .lt 9, 3) := by decide +kernel
theorem dX10_frame_23 : decode cX10_frame 23 = .ok (.iload_n 2, 1) := by decide +kernel
theorem dX10_frame_24 : decode cX10_frame 24 = .ok (.bipush 7, 2) := by decide +kernel
theorem dX10_frame_26 : decode cX10_frame 26 = .ok (.if_icmp .le 7, 3) := by decide +kernel
theorem dX10_frame_29 : decode cX10_frame 29 = .ok (.iconst (-1), 1) := by decide +kernel
theorem dX10_frame_30 : decode cX10_frame 30 = .ok (.goto 9, 3) := by decide +kernel
theorem dX10_frame_33 : decode cX10_frame 33 = .ok (.aload_n 0, 1) := by decide +kernel
theorem dX10_frame_34 : decode cX10_frame 34 = .ok (.iload_n 1, 1) := by decide +kernel
theorem dX10_frame_35 : decode cX10_frame 35 = .ok (.iload_n 2, 1) := by decide +kernel
theorem dX10_frame_36 : decode cX10_frame 36 = .ok (.invokevirtual 194, 3) := by decide +kernel
theorem dX10_frame_39 : decode cX10_frame 39 = .ok (.ireturn, 1) := by decide +kernel
theorem dX10_rootOf_0 : decode cX10_rootOf 0 = .ok (.ldc 169, 2) := by decide +kernel
theorem dX10_rootOf_2 : decode cX10_rootOf 2 = .ok (.istore_n 1, 1) := by decide +kernel
theorem dX10_rootOf_3 : decode cX10_rootOf 3 = .ok (.iconst 2, 1) := by decide +kernel
theorem dX10_rootOf_4 : decode cX10_rootOf 4 = .ok (.istore_n 2, 1) := by decide +kernel
theorem dX10_rootOf_5 : decode cX10_rootOf 5 = .ok (.iload_n 2, 1) := by decide +kernel
theorem dX10_rootOf_6 : decode cX10_rootOf 6 = .ok (.iload_n 0, 1) := by decide +kernel
theorem dX10_rootOf_7 : decode cX10_rootOf 7 = .ok (.if_icmp .gt 15, 3) := by decide +kernel
theorem dX10_rootOf_10 : decode cX10_rootOf 10 = .ok (.iload_n 1, 1) := by decide +kernel
theorem dX10_rootOf_11 : decode cX10_rootOf 11 = .ok (.iload_n 2, 1) := by decide +kernel
theorem dX10_rootOf_12 : decode cX10_rootOf 12 = .ok (.invokestatic 236, 3) := by decide +kernel
theorem dX10_rootOf_15 : decode cX10_rootOf 15 = .ok (.istore_n 1, 1) := by decide +kernel
theorem dX10_rootOf_16 : decode cX10_rootOf 16 = .ok (.iinc 2 1, 3) := by decide +kernel
theorem dX10_rootOf_19 : decode cX10_rootOf 19 = .ok (.goto (-14), 3) := by decide +kernel
theorem dX10_rootOf_22 : decode cX10_rootOf 22 = .ok (.iload_n 1, 1) := by decide +kernel
theorem dX10_rootOf_23 : decode cX10_rootOf 23 = .ok (.ireturn, 1) := by decide +kernel
theorem dX10_exact_0 : decode cX10_exact 0 = .ok (.aload_n 0, 1) := by decide +kernel
theorem dX10_exact_1 : decode cX10_exact 1 = .ok (.iconst 0, 1) := by decide +kernel
theorem dX10_exact_2 : decode cX10_exact 2 = .ok (.putfield 45, 3) := by decide +kernel
theorem dX10_exact_5 : decode cX10_exact 5 = .ok (.iload_n 1, 1) := by decide +kernel
theorem dX10_exact_6 : decode cX10_exact 6 = .ok (.invokestatic 312, 3) := by decide +kernel
theorem dX10_exact_9 : decode cX10_exact 9 = .ok (.ifCond .eq 10, 3) := by decide +kernel
theorem dX10_exact_12 : decode cX10_exact 12 = .ok (.iload_n 1, 1) := by decide +kernel
theorem dX10_exact_13 : decode cX10_exact 13 = .ok (.invokestatic 318, 3) := by decide +kernel
theorem dX10_exact_16 : decode cX10_exact 16 = .ok (.goto 4, 3) := by decide +kernel
theorem dX10_exact_19 : decode cX10_exact 19 = .ok (.iconst (-1), 1) := by decide +kernel
theorem dX10_exact_20 : decode cX10_exact 20 = .ok (.ireturn, 1) := by decide +kernel
theorem dX10_farthest_0 : decode cX10_farthest 0 = .ok (.aload_n 0, 1) := by decide +kernel
theorem dX10_farthest_1 : decode cX10_farthest 1 = .ok (.iconst 0, 1) := by decide +kernel
theorem dX10_farthest_2 : decode cX10_farthest 2 = .ok (.putfield 45, 3) := by decide +kernel
theorem dX10_farthest_5 : decode cX10_farthest 5 = .ok (.iload_n 1, 1) := by decide +kernel
theorem dX10_farthest_6 : decode cX10_farthest 6 = .ok (.invokestatic 312, 3) := by decide +kernel
theorem dX10_farthest_9 : decode cX10_farthest 9 = .ok (.ifCond .eq 12, 3) := by decide +kernel
theorem dX10_farthest_12 : decode cX10_farthest 12 = .ok (.iload_n 2, 1) := by decide +kernel
theorem dX10_farthest_13 : decode cX10_farthest 13 = .ok (.ifCond .lt 8, 3) := by decide +kernel
theorem dX10_farthest_16 : decode cX10_farthest 16 = .ok (.iload_n 2, 1) := by decide +kernel
theorem dX10_farthest_17 : decode cX10_farthest 17 = .ok (.iconst 1, 1) := by decide +kernel
theorem dX10_farthest_18 : decode cX10_farthest 18 = .ok (.if_icmp .le 5, 3) := by decide +kernel
theorem dX10_farthest_21 : decode cX10_farthest 21 = .ok (.iconst (-1), 1) := by decide +kernel
theorem dX10_farthest_22 : decode cX10_farthest 22 = .ok (.ireturn, 1) := by decide +kernel
theorem dX10_farthest_23 : decode cX10_farthest 23 = .ok (.ldc 169, 2) := by decide +kernel
theorem dX10_farthest_25 : decode cX10_farthest 25 = .ok (.istore_n 3, 1) := by decide +kernel
theorem dX10_farthest_26 : decode cX10_farthest 26 = .ok (.ldc 169, 2) := by decide +kernel
theorem dX10_farthest_28 : decode cX10_farthest 28 = .ok (.istore 4, 2) := by decide +kernel
theorem dX10_farthest_30 : decode cX10_farthest 30 = .ok (.iconst 0, 1) := by decide +kernel
theorem dX10_farthest_31 : decode cX10_farthest 31 = .ok (.istore 5, 2) := by decide +kernel
theorem dX10_farthest_33 : decode cX10_farthest 33 = .ok (.iconst (-1), 1) := by decide +kernel
theorem dX10_farthest_34 : decode cX10_farthest 34 = .ok (.istore 6, 2) := by decide +kernel
theorem dX10_farthest_36 : decode cX10_farthest 36 = .ok (.iconst 1, 1) := by decide +kernel
theorem dX10_farthest_37 : decode cX10_farthest 37 = .ok (.istore 7, 2) := by decide +kernel
theorem dX10_farthest_39 : decode cX10_farthest 39 = .ok (.iload 7, 2) := by decide +kernel
theorem dX10_farthest_41 : decode cX10_farthest 41 = .ok (.iload_n 1, 1) := by decide +kernel
theorem dX10_farthest_42 : decode cX10_farthest 42 = .ok (.if_icmp .gt 83, 3) := by decide +kernel
theorem dX10_farthest_45 : decode cX10_farthest 45 = .ok (.iload 7, 2) := by decide +kernel
theorem dX10_farthest_47 : decode cX10_farthest 47 = .ok (.iconst 1, 1) := by decide +kernel
theorem dX10_farthest_48 : decode cX10_farthest 48 = .ok (.if_icmp .le 10, 3) := by decide +kernel
theorem dX10_farthest_51 : decode cX10_farthest 51 = .ok (.iload_n 3, 1) := by decide +kernel
theorem dX10_farthest_52 : decode cX10_farthest 52 = .ok (.iload 7, 2) := by decide +kernel
theorem dX10_farthest_54 : decode cX10_farthest 54 = .ok (.invokestatic 236, 3) := by decide +kernel
theorem dX10_farthest_57 : decode cX10_farthest 57 = .ok (.istore_n 3, 1) := by decide +kernel
theorem dX10_farthest_58 : decode cX10_farthest 58 = .ok (.iload 4, 2) := by decide +kernel
theorem dX10_farthest_60 : decode cX10_farthest 60 = .ok (.i2l, 1) := by decide +kernel
theorem dX10_farthest_61 : decode cX10_farthest 61 = .ok (.iload 4, 2) := by decide +kernel
theorem dX10_farthest_63 : decode cX10_farthest 63 = .ok (.i2l, 1) := by decide +kernel
theorem dX10_farthest_64 : decode cX10_farthest 64 = .ok (.lmul, 1) := by decide +kernel
theorem dX10_farthest_65 : decode cX10_farthest 65 = .ok (.iload 7, 2) := by decide +kernel
theorem dX10_farthest_67 : decode cX10_farthest 67 = .ok (.i2l, 1) := by decide +kernel
theorem dX10_farthest_68 : decode cX10_farthest 68 = .ok (.lmul, 1) := by decide +kernel
theorem dX10_farthest_69 : decode cX10_farthest 69 = .ok (.ldc2_w 310, 3) := by decide +kernel
theorem dX10_farthest_72 : decode cX10_farthest 72 = .ok (.lcmp, 1) := by decide +kernel
theorem dX10_farthest_73 : decode cX10_farthest 73 = .ok (.ifCond .le 9, 3) := by decide +kernel
theorem dX10_farthest_76 : decode cX10_farthest 76 = .ok (.iinc 4 (-1), 3) := by decide +kernel
theorem dX10_farthest_79 : decode cX10_farthest 79 = .ok (.goto (-21), 3) := by decide +kernel
theorem dX10_farthest_82 : decode cX10_farthest 82 = .ok (.iload_n 3, 1) := by decide +kernel
theorem dX10_farthest_83 : decode cX10_farthest 83 = .ok (.iload 4, 2) := by decide +kernel
theorem dX10_farthest_85 : decode cX10_farthest 85 = .ok (.if_icmp .ge 10, 3) := by decide +kernel
theorem dX10_farthest_88 : decode cX10_farthest 88 = .ok (.iload 4, 2) := by decide +kernel
theorem dX10_farthest_90 : decode cX10_farthest 90 = .ok (.iload_n 3, 1) := by decide +kernel
theorem dX10_farthest_91 : decode cX10_farthest 91 = .ok (.isub, 1) := by decide +kernel
theorem dX10_farthest_92 : decode cX10_farthest 92 = .ok (.goto 7, 3) := by decide +kernel
theorem dX10_farthest_95 : decode cX10_farthest 95 = .ok (.iload_n 3, 1) := by decide +kernel
theorem dX10_farthest_96 : decode cX10_farthest 96 = .ok (.iload 4, 2) := by decide +kernel
theorem dX10_farthest_98 : decode cX10_farthest 98 = .ok (.isub, 1) := by decide +kernel
theorem dX10_farthest_99 : decode cX10_farthest 99 = .ok (.istore 8, 2) := by decide +kernel
theorem dX10_farthest_101 : decode cX10_farthest 101 = .ok (.iload 8, 2) := by decide +kernel
theorem dX10_farthest_103 : decode cX10_farthest 103 = .ok (.iload 6, 2) := by decide +kernel
theorem dX10_farthest_105 : decode cX10_farthest 105 = .ok (.if_icmp .gt 6, 3) := by decide +kernel
theorem dX10_farthest_108 : decode cX10_farthest 108 = .ok (.goto 11, 3) := by decide +kernel
theorem dX10_farthest_111 : decode cX10_farthest 111 = .ok (.iload 7, 2) := by decide +kernel
theorem dX10_farthest_113 : decode cX10_farthest 113 = .ok (.istore 5, 2) := by decide +kernel
theorem dX10_farthest_115 : decode cX10_farthest 115 = .ok (.iload 8, 2) := by decide +kernel
theorem dX10_farthest_117 : decode cX10_farthest 117 = .ok (.istore 6, 2) := by decide +kernel
theorem dX10_farthest_119 : decode cX10_farthest 119 = .ok (.iinc 7 1, 3) := by decide +kernel
theorem dX10_farthest_122 : decode cX10_farthest 122 = .ok (.goto (-83), 3) := by decide +kernel
theorem dX10_farthest_125 : decode cX10_farthest 125 = .ok (.iload_n 2, 1) := by decide +kernel
theorem dX10_farthest_126 : decode cX10_farthest 126 = .ok (.ifCond .ne 8, 3) := by decide +kernel
theorem dX10_farthest_129 : decode cX10_farthest 129 = .ok (.iload 5, 2) := by decide +kernel
theorem dX10_farthest_131 : decode cX10_farthest 131 = .ok (.goto 5, 3) := by decide +kernel
theorem dX10_farthest_134 : decode cX10_farthest 134 = .ok (.iload 6, 2) := by decide +kernel
theorem dX10_farthest_136 : decode cX10_farthest 136 = .ok (.ireturn, 1) := by decide +kernel
theorem dX10_flowOf_0 : decode cX10_flowOf 0 = .ok (.iconst 0, 1) := by decide +kernel
theorem dX10_flowOf_1 : decode cX10_flowOf 1 = .ok (.istore_n 3, 1) := by decide +kernel
theorem dX10_flowOf_2 : decode cX10_flowOf 2 = .ok (.bipush (-2), 2) := by decide +kernel
theorem dX10_flowOf_4 : decode cX10_flowOf 4 = .ok (.istore 4, 2) := by decide +kernel
theorem dX10_flowOf_6 : decode cX10_flowOf 6 = .ok (.iconst 0, 1) := by decide +kernel
theorem dX10_flowOf_7 : decode cX10_flowOf 7 = .ok (.istore 5, 2) := by decide +kernel
theorem dX10_flowOf_9 : decode cX10_flowOf 9 = .ok (.iload 5, 2) := by decide +kernel
theorem dX10_flowOf_11 : decode cX10_flowOf 11 = .ok (.aload_n 0, 1) := by decide +kernel
theorem dX10_flowOf_12 : decode cX10_flowOf 12 = .ok (.getfield 30, 3) := by decide +kernel
theorem dX10_flowOf_15 : decode cX10_flowOf 15 = .ok (.iconst 1, 1) := by decide +kernel
theorem dX10_flowOf_16 : decode cX10_flowOf 16 = .ok (.iaload, 1) := by decide +kernel
theorem dX10_flowOf_17 : decode cX10_flowOf 17 = .ok (.if_icmp .ge 108, 3) := by decide +kernel
theorem dX10_flowOf_20 : decode cX10_flowOf 20 = .ok (.aload_n 0, 1) := by decide +kernel
theorem dX10_flowOf_21 : decode cX10_flowOf 21 = .ok (.iload 5, 2) := by decide +kernel
theorem dX10_flowOf_23 : decode cX10_flowOf 23 = .ok (.iconst 0, 1) := by decide +kernel
theorem dX10_flowOf_24 : decode cX10_flowOf 24 = .ok (.invokevirtual 194, 3) := by decide +kernel
theorem dX10_flowOf_27 : decode cX10_flowOf 27 = .ok (.iload_n 1, 1) := by decide +kernel
theorem dX10_flowOf_28 : decode cX10_flowOf 28 = .ok (.if_icmp .eq 6, 3) := by decide +kernel
theorem dX10_flowOf_31 : decode cX10_flowOf 31 = .ok (.goto 88, 3) := by decide +kernel
theorem dX10_flowOf_34 : decode cX10_flowOf 34 = .ok (.iload_n 2, 1) := by decide +kernel
theorem dX10_flowOf_35 : decode cX10_flowOf 35 = .ok (.iconst 1, 1) := by decide +kernel
theorem dX10_flowOf_36 : decode cX10_flowOf 36 = .ok (.if_icmp .ne 6, 3) := by decide +kernel
theorem dX10_flowOf_39 : decode cX10_flowOf 39 = .ok (.iinc 3 1, 3) := by decide +kernel
theorem dX10_flowOf_42 : decode cX10_flowOf 42 = .ok (.aload_n 0, 1) := by decide +kernel
theorem dX10_flowOf_43 : decode cX10_flowOf 43 = .ok (.iload 5, 2) := by decide +kernel
theorem dX10_flowOf_45 : decode cX10_flowOf 45 = .ok (.bipush 6, 2) := by decide +kernel
theorem dX10_flowOf_47 : decode cX10_flowOf 47 = .ok (.invokevirtual 194, 3) := by decide +kernel
theorem dX10_flowOf_50 : decode cX10_flowOf 50 = .ok (.iconst 1, 1) := by decide +kernel
theorem dX10_flowOf_51 : decode cX10_flowOf 51 = .ok (.if_icmp .eq 6, 3) := by decide +kernel
theorem dX10_flowOf_54 : decode cX10_flowOf 54 = .ok (.goto 65, 3) := by decide +kernel
theorem dX10_flowOf_57 : decode cX10_flowOf 57 = .ok (.aload_n 0, 1) := by decide +kernel
theorem dX10_flowOf_58 : decode cX10_flowOf 58 = .ok (.iload 5, 2) := by decide +kernel
theorem dX10_flowOf_60 : decode cX10_flowOf 60 = .ok (.bipush 7, 2) := by decide +kernel
theorem dX10_flowOf_62 : decode cX10_flowOf 62 = .ok (.invokevirtual 194, 3) := by decide +kernel
theorem dX10_flowOf_65 : decode cX10_flowOf 65 = .ok (.aload_n 0, 1) := by decide +kernel
theorem dX10_flowOf_66 : decode cX10_flowOf 66 = .ok (.iload 5, 2) := by decide +kernel
theorem dX10_flowOf_68 : decode cX10_flowOf 68 = .ok (.iconst 3, 1) := by decide +kernel
theorem dX10_flowOf_69 : decode cX10_flowOf 69 = .ok (.invokevirtual 194, 3) := by decide +kernel
theorem dX10_flowOf_72 : decode cX10_flowOf 72 = .ok (.isub, 1) := by decide +kernel
theorem dX10_flowOf_73 : decode cX10_flowOf 73 = .ok (.istore 6, 2) := by decide +kernel
theorem dX10_flowOf_75 : decode cX10_flowOf 75 = .ok (.iload 6, 2) := by decide +kernel
theorem dX10_flowOf_77 : decode cX10_flowOf 77 = .ok (.iload 4, 2) := by decide +kernel
theorem dX10_flowOf_79 : decode cX10_flowOf 79 = .ok (.if_icmp .le 8, 3) := by decide +kernel
theorem dX10_flowOf_82 : decode cX10_flowOf 82 = .ok (.iload 6, 2) := by decide +kernel
theorem dX10_flowOf_84 : decode cX10_flowOf 84 = .ok (.goto 5, 3) := by decide +kernel
theorem dX10_flowOf_87 : decode cX10_flowOf 87 = .ok (.iload 4, 2) := by decide +kernel
theorem dX10_flowOf_89 : decode cX10_flowOf 89 = .ok (.istore 4, 2) := by decide +kernel
theorem dX10_flowOf_91 : decode cX10_flowOf 91 = .ok (.iload_n 3, 1) := by decide +kernel
theorem dX10_flowOf_92 : decode cX10_flowOf 92 = .ok (.iload_n 2, 1) := by decide +kernel
theorem dX10_flowOf_93 : decode cX10_flowOf 93 = .ok (.ifCond .ne 13, 3) := by decide +kernel
theorem dX10_flowOf_96 : decode cX10_flowOf 96 = .ok (.aload_n 0, 1) := by decide +kernel
theorem dX10_flowOf_97 : decode cX10_flowOf 97 = .ok (.iload 5, 2) := by decide +kernel
theorem dX10_flowOf_99 : decode cX10_flowOf 99 = .ok (.iconst 1, 1) := by decide +kernel
theorem dX10_flowOf_100 : decode cX10_flowOf 100 = .ok (.invokevirtual 194, 3) := by decide +kernel
theorem dX10_flowOf_103 : decode cX10_flowOf 103 = .ok (.goto 14, 3) := by decide +kernel
theorem dX10_flowOf_106 : decode cX10_flowOf 106 = .ok (.iload_n 2, 1) := by decide +kernel
theorem dX10_flowOf_107 : decode cX10_flowOf 107 = .ok (.iconst 3, 1) := by decide +kernel
theorem dX10_flowOf_108 : decode cX10_flowOf 108 = .ok (.if_icmp .ne 8, 3) := by decide +kernel
theorem dX10_flowOf_111 : decode cX10_flowOf 111 = .ok (.iload 6, 2) := by decide +kernel
theorem dX10_flowOf_113 : decode cX10_flowOf 113 = .ok (.goto 4, 3) := by decide +kernel
theorem dX10_flowOf_116 : decode cX10_flowOf 116 = .ok (.iconst 0, 1) := by decide +kernel
theorem dX10_flowOf_117 : decode cX10_flowOf 117 = .ok (.iadd, 1) := by decide +kernel
theorem dX10_flowOf_118 : decode cX10_flowOf 118 = .ok (.istore_n 3, 1) := by decide +kernel
theorem dX10_flowOf_119 : decode cX10_flowOf 119 = .ok (.iinc 5 1, 3) := by decide +kernel
theorem dX10_flowOf_122 : decode cX10_flowOf 122 = .ok (.goto (-113), 3) := by decide +kernel
theorem dX10_flowOf_125 : decode cX10_flowOf 125 = .ok (.iload_n 2, 1) := by decide +kernel
theorem dX10_flowOf_126 : decode cX10_flowOf 126 = .ok (.iconst 2, 1) := by decide +kernel
theorem dX10_flowOf_127 : decode cX10_flowOf 127 = .ok (.if_icmp .ne 8, 3) := by decide +kernel
theorem dX10_flowOf_130 : decode cX10_flowOf 130 = .ok (.iload 4, 2) := by decide +kernel
theorem dX10_flowOf_132 : decode cX10_flowOf 132 = .ok (.goto 4, 3) := by decide +kernel
theorem dX10_flowOf_135 : decode cX10_flowOf 135 = .ok (.iload_n 3, 1) := by decide +kernel
theorem dX10_flowOf_136 : decode cX10_flowOf 136 = .ok (.ireturn, 1) := by decide +kernel
theorem dX10_waitOf_0 : decode cX10_waitOf 0 = .ok (.aload_n 0, 1) := by decide +kernel
theorem dX10_waitOf_1 : decode cX10_waitOf 1 = .ok (.getfield 30, 3) := by decide +kernel
theorem dX10_waitOf_4 : decode cX10_waitOf 4 = .ok (.sipush 2676, 3) := by decide +kernel
theorem dX10_waitOf_7 : decode cX10_waitOf 7 = .ok (.iload_n 1, 1) := by decide +kernel
theorem dX10_waitOf_8 : decode cX10_waitOf 8 = .ok (.iadd, 1) := by decide +kernel
theorem dX10_waitOf_9 : decode cX10_waitOf 9 = .ok (.iaload, 1) := by decide +kernel
theorem dX10_waitOf_10 : decode cX10_waitOf 10 = .ok (.istore_n 2, 1) := by decide +kernel
theorem dX10_waitOf_11 : decode cX10_waitOf 11 = .ok (.aload_n 0, 1) := by decide +kernel
theorem dX10_waitOf_12 : decode cX10_waitOf 12 = .ok (.iload_n 2, 1) := by decide +kernel
theorem dX10_waitOf_13 : decode cX10_waitOf 13 = .ok (.bipush 7, 2) := by decide +kernel
theorem dX10_waitOf_15 : decode cX10_waitOf 15 = .ok (.invokevirtual 194, 3) := by decide +kernel
theorem dX10_waitOf_18 : decode cX10_waitOf 18 = .ok (.aload_n 0, 1) := by decide +kernel
theorem dX10_waitOf_19 : decode cX10_waitOf 19 = .ok (.iload_n 2, 1) := by decide +kernel
theorem dX10_waitOf_20 : decode cX10_waitOf 20 = .ok (.iconst 3, 1) := by decide +kernel
theorem dX10_waitOf_21 : decode cX10_waitOf 21 = .ok (.invokevirtual 194, 3) := by decide +kernel
theorem dX10_waitOf_24 : decode cX10_waitOf 24 = .ok (.isub, 1) := by decide +kernel
theorem dX10_waitOf_25 : decode cX10_waitOf 25 = .ok (.ireturn, 1) := by decide +kernel
theorem dX10_load_0 : decode cX10_load 0 = .ok (.aload_n 0, 1) := by decide +kernel
theorem dX10_load_1 : decode cX10_load 1 = .ok (.iconst 0, 1) := by decide +kernel
theorem dX10_load_2 : decode cX10_load 2 = .ok (.putfield 45, 3) := by decide +kernel
theorem dX10_load_5 : decode cX10_load 5 = .ok (.iload_n 1, 1) := by decide +kernel
theorem dX10_load_6 : decode cX10_load 6 = .ok (.ifCond .lt 14, 3) := by decide +kernel
theorem dX10_load_9 : decode cX10_load 9 = .ok (.iload_n 1, 1) := by decide +kernel
theorem dX10_load_10 : decode cX10_load 10 = .ok (.aload_n 0, 1) := by decide +kernel
theorem dX10_load_11 : decode cX10_load 11 = .ok (.getfield 30, 3) := by decide +kernel
theorem dX10_load_14 : decode cX10_load 14 = .ok (.bipush 10, 2) := by decide +kernel
theorem dX10_load_16 : decode cX10_load 16 = .ok (.iaload, 1) := by decide +kernel
theorem dX10_load_17 : decode cX10_load 17 = .ok (.if_icmp .lt 5, 3) := by decide +kernel
theorem dX10_load_20 : decode cX10_load 20 = .ok (.iconst (-1), 1) := by decide +kernel
theorem dX10_load_21 : decode cX10_load 21 = .ok (.ireturn, 1) := by decide +kernel
theorem dX10_load_22 : decode cX10_load 22 = .ok (.iconst 0, 1) := by decide +kernel
theorem dX10_load_23 : decode cX10_load 23 = .ok (.istore_n 2, 1) := by decide +kernel
theorem dX10_load_24 : decode cX10_load 24 = .ok (.iconst 0, 1) := by decide +kernel
theorem dX10_load_25 : decode cX10_load 25 = .ok (.istore_n 3, 1) := by decide +kernel
theorem dX10_load_26 : decode cX10_load 26 = .ok (.iload_n 3, 1) := by decide +kernel
theorem dX10_load_27 : decode cX10_load 27 = .ok (.sipush 9999, 3) := by decide +kernel
theorem dX10_load_30 : decode cX10_load 30 = .ok (.if_icmp .gt 32, 3) := by decide +kernel
theorem dX10_load_33 : decode cX10_load 33 = .ok (.iload_n 2, 1) := by decide +kernel
theorem dX10_load_34 : decode cX10_load 34 = .ok (.iload_n 3, 1) := by decide +kernel
theorem dX10_load_35 : decode cX10_load 35 = .ok (.aload_n 0, 1) := by decide +kernel
theorem dX10_load_36 : decode cX10_load 36 = .ok (.getfield 30, 3) := by decide +kernel
theorem dX10_load_39 : decode cX10_load 39 = .ok (.bipush 10, 2) := by decide +kernel
theorem dX10_load_41 : decode cX10_load 41 = .ok (.iaload, 1) := by decide +kernel
theorem dX10_load_42 : decode cX10_load 42 = .ok (.invokestatic 181, 3) := by decide +kernel
theorem dX10_load_45 : decode cX10_load 45 = .ok (.iload_n 1, 1) := by decide +kernel
theorem dX10_load_46 : decode cX10_load 46 = .ok (.if_icmp .ne 7, 3) := by decide +kernel
theorem dX10_load_49 : decode cX10_load 49 = .ok (.iconst 1, 1) := by decide +kernel
theorem dX10_load_50 : decode cX10_load 50 = .ok (.goto 4, 3) := by decide +kernel
theorem dX10_load_53 : decode cX10_load 53 = .ok (.iconst 0, 1) := by decide +kernel
theorem dX10_load_54 : decode cX10_load 54 = .ok (.iadd, 1) := by decide +kernel
theorem dX10_load_55 : decode cX10_load 55 = .ok (.istore_n 2, 1) := by decide +kernel
theorem dX10_load_56 : decode cX10_load 56 = .ok (.iinc 3 1, 3) := by decide +kernel
theorem dX10_load_59 : decode cX10_load 59 = .ok (.goto (-33), 3) := by decide +kernel
theorem dX10_load_62 : decode cX10_load 62 = .ok (.iload_n 2, 1) := by decide +kernel
theorem dX10_load_63 : decode cX10_load 63 = .ok (.ireturn, 1) := by decide +kernel
theorem dX10_shared_0 : decode cX10_shared 0 = .ok (.aload_n 0, 1) := by decide +kernel
theorem dX10_shared_1 : decode cX10_shared 1 = .ok (.iconst 0, 1) := by decide +kernel
theorem dX10_shared_2 : decode cX10_shared 2 = .ok (.putfield 45, 3) := by decide +kernel
theorem dX10_shared_5 : decode cX10_shared 5 = .ok (.iconst 0, 1) := by decide +kernel
theorem dX10_shared_6 : decode cX10_shared 6 = .ok (.istore_n 1, 1) := by decide +kernel
theorem dX10_shared_7 : decode cX10_shared 7 = .ok (.iconst 0, 1) := by decide +kernel
theorem dX10_shared_8 : decode cX10_shared 8 = .ok (.istore_n 2, 1) := by decide +kernel
theorem dX10_shared_9 : decode cX10_shared 9 = .ok (.iload_n 2, 1) := by decide +kernel
theorem dX10_shared_10 : decode cX10_shared 10 = .ok (.aload_n 0, 1) := by decide +kernel
theorem dX10_shared_11 : decode cX10_shared 11 = .ok (.getfield 30, 3) := by decide +kernel
theorem dX10_shared_14 : decode cX10_shared 14 = .ok (.iconst 1, 1) := by decide +kernel
theorem dX10_shared_15 : decode cX10_shared 15 = .ok (.iaload, 1) := by decide +kernel
theorem dX10_shared_16 : decode cX10_shared 16 = .ok (.if_icmp .ge 90, 3) := by decide +kernel
theorem dX10_shared_19 : decode cX10_shared 19 = .ok (.aload_n 0, 1) := by decide +kernel
theorem dX10_shared_20 : decode cX10_shared 20 = .ok (.iload_n 2, 1) := by decide +kernel
theorem dX10_shared_21 : decode cX10_shared 21 = .ok (.bipush 9, 2) := by decide +kernel
theorem dX10_shared_23 : decode cX10_shared 23 = .ok (.invokevirtual 194, 3) := by decide +kernel
theorem dX10_shared_26 : decode cX10_shared 26 = .ok (.iconst 1, 1) := by decide +kernel
theorem dX10_shared_27 : decode cX10_shared 27 = .ok (.if_icmp .ne 7, 3) := by decide +kernel
theorem dX10_shared_30 : decode cX10_shared 30 = .ok (.iconst 1, 1) := by decide +kernel
theorem dX10_shared_31 : decode cX10_shared 31 = .ok (.goto 4, 3) := by decide +kernel
theorem dX10_shared_34 : decode cX10_shared 34 = .ok (.iconst 0, 1) := by decide +kernel
theorem dX10_shared_35 : decode cX10_shared 35 = .ok (.istore_n 3, 1) := by decide +kernel
theorem dX10_shared_36 : decode cX10_shared 36 = .ok (.iconst 0, 1) := by decide +kernel
theorem dX10_shared_37 : decode cX10_shared 37 = .ok (.istore 4, 2) := by decide +kernel
theorem dX10_shared_39 : decode cX10_shared 39 = .ok (.iload 4, 2) := by decide +kernel
theorem dX10_shared_41 : decode cX10_shared 41 = .ok (.iload_n 2, 1) := by decide +kernel
theorem dX10_shared_42 : decode cX10_shared 42 = .ok (.if_icmp .ge 46, 3) := by decide +kernel
theorem dX10_shared_45 : decode cX10_shared 45 = .ok (.iload_n 3, 1) := by decide +kernel
theorem dX10_shared_46 : decode cX10_shared 46 = .ok (.ifCond .eq 42, 3) := by decide +kernel
theorem dX10_shared_49 : decode cX10_shared 49 = .ok (.aload_n 0, 1) := by decide +kernel
theorem dX10_shared_50 : decode cX10_shared 50 = .ok (.iload 4, 2) := by decide +kernel
theorem dX10_shared_52 : decode cX10_shared 52 = .ok (.bipush 9, 2) := by decide +kernel
theorem dX10_shared_54 : decode cX10_shared 54 = .ok (.invokevirtual 194, 3) := by decide +kernel
theorem dX10_shared_57 : decode cX10_shared 57 = .ok (.ifCond .eq 19, 3) := by decide +kernel
theorem dX10_shared_60 : decode cX10_shared 60 = .ok (.aload_n 0, 1) := by decide +kernel
theorem dX10_shared_61 : decode cX10_shared 61 = .ok (.iload 4, 2) := by decide +kernel
theorem dX10_shared_63 : decode cX10_shared 63 = .ok (.iconst 0, 1) := by decide +kernel
theorem dX10_shared_64 : decode cX10_shared 64 = .ok (.invokevirtual 194, 3) := by decide +kernel
theorem dX10_shared_67 : decode cX10_shared 67 = .ok (.aload_n 0, 1) := by decide +kernel
theorem dX10_shared_68 : decode cX10_shared 68 = .ok (.iload_n 2, 1) := by decide +kernel
theorem dX10_shared_69 : decode cX10_shared 69 = .ok (.iconst 0, 1) := by decide +kernel
theorem dX10_shared_70 : decode cX10_shared 70 = .ok (.invokevirtual 194, 3) := by decide +kernel
theorem dX10_shared_73 : decode cX10_shared 73 = .ok (.if_icmp .eq 7, 3) := by decide +kernel
theorem dX10_shared_76 : decode cX10_shared 76 = .ok (.iconst 1, 1) := by decide +kernel
theorem dX10_shared_77 : decode cX10_shared 77 = .ok (.goto 4, 3) := by decide +kernel
theorem dX10_shared_80 : decode cX10_shared 80 = .ok (.iconst 0, 1) := by decide +kernel
theorem dX10_shared_81 : decode cX10_shared 81 = .ok (.istore_n 3, 1) := by decide +kernel
theorem dX10_shared_82 : decode cX10_shared 82 = .ok (.iinc 4 1, 3) := by decide +kernel
theorem dX10_shared_85 : decode cX10_shared 85 = .ok (.goto (-46), 3) := by decide +kernel
theorem dX10_shared_88 : decode cX10_shared 88 = .ok (.iload_n 1, 1) := by decide +kernel
theorem dX10_shared_89 : decode cX10_shared 89 = .ok (.iload_n 3, 1) := by decide +kernel
theorem dX10_shared_90 : decode cX10_shared 90 = .ok (.ifCond .eq 7, 3) := by decide +kernel
theorem dX10_shared_93 : decode cX10_shared 93 = .ok (.iconst 1, 1) := by decide +kernel
theorem dX10_shared_94 : decode cX10_shared 94 = .ok (.goto 4, 3) := by decide +kernel
theorem dX10_shared_97 : decode cX10_shared 97 = .ok (.iconst 0, 1) := by decide +kernel
theorem dX10_shared_98 : decode cX10_shared 98 = .ok (.iadd, 1) := by decide +kernel
theorem dX10_shared_99 : decode cX10_shared 99 = .ok (.istore_n 1, 1) := by decide +kernel
theorem dX10_shared_100 : decode cX10_shared 100 = .ok (.iinc 2 1, 3) := by decide +kernel
theorem dX10_shared_103 : decode cX10_shared 103 = .ok (.goto (-94), 3) := by decide +kernel
theorem dX10_shared_106 : decode cX10_shared 106 = .ok (.iload_n 1, 1) := by decide +kernel
theorem dX10_shared_107 : decode cX10_shared 107 = .ok (.ireturn, 1) := by decide +kernel
theorem dX10_waits_0 : decode cX10_waits 0 = .ok (.bipush (-2), 2) := by decide +kernel
theorem dX10_waits_2 : decode cX10_waits 2 = .ok (.istore_n 3, 1) := by decide +kernel
theorem dX10_waits_3 : decode cX10_waits 3 = .ok (.iconst 0, 1) := by decide +kernel
theorem dX10_waits_4 : decode cX10_waits 4 = .ok (.istore 4, 2) := by decide +kernel
theorem dX10_waits_6 : decode cX10_waits 6 = .ok (.iload_n 1, 1) := by decide +kernel
theorem dX10_waits_7 : decode cX10_waits 7 = .ok (.istore 5, 2) := by decide +kernel
theorem dX10_waits_9 : decode cX10_waits 9 = .ok (.iload 5, 2) := by decide +kernel
theorem dX10_waits_11 : decode cX10_waits 11 = .ok (.aload_n 0, 1) := by decide +kernel
theorem dX10_waits_12 : decode cX10_waits 12 = .ok (.getfield 30, 3) := by decide +kernel
theorem dX10_waits_15 : decode cX10_waits 15 = .ok (.bipush 14, 2) := by decide +kernel
theorem dX10_waits_17 : decode cX10_waits 17 = .ok (.iaload, 1) := by decide +kernel
theorem dX10_waits_18 : decode cX10_waits 18 = .ok (.if_icmp .ge 60, 3) := by decide +kernel
theorem dX10_waits_21 : decode cX10_waits 21 = .ok (.aload_n 0, 1) := by decide +kernel
theorem dX10_waits_22 : decode cX10_waits 22 = .ok (.getfield 30, 3) := by decide +kernel
theorem dX10_waits_25 : decode cX10_waits 25 = .ok (.sipush 2676, 3) := by decide +kernel
theorem dX10_waits_28 : decode cX10_waits 28 = .ok (.iload 5, 2) := by decide +kernel
theorem dX10_waits_30 : decode cX10_waits 30 = .ok (.iadd, 1) := by decide +kernel
theorem dX10_waits_31 : decode cX10_waits 31 = .ok (.iaload, 1) := by decide +kernel
theorem dX10_waits_32 : decode cX10_waits 32 = .ok (.istore 6, 2) := by decide +kernel
theorem dX10_waits_34 : decode cX10_waits 34 = .ok (.aload_n 0, 1) := by decide +kernel
theorem dX10_waits_35 : decode cX10_waits 35 = .ok (.iload 6, 2) := by decide +kernel
theorem dX10_waits_37 : decode cX10_waits 37 = .ok (.bipush 7, 2) := by decide +kernel
theorem dX10_waits_39 : decode cX10_waits 39 = .ok (.invokevirtual 194, 3) := by decide +kernel
theorem dX10_waits_42 : decode cX10_waits 42 = .ok (.aload_n 0, 1) := by decide +kernel
theorem dX10_waits_43 : decode cX10_waits 43 = .ok (.iload 6, 2) := by decide +kernel
theorem dX10_waits_45 : decode cX10_waits 45 = .ok (.iconst 3, 1) := by decide +kernel
theorem dX10_waits_46 : decode cX10_waits 46 = .ok (.invokevirtual 194, 3) := by decide +kernel
theorem dX10_waits_49 : decode cX10_waits 49 = .ok (.isub, 1) := by decide +kernel
theorem dX10_waits_50 : decode cX10_waits 50 = .ok (.istore 7, 2) := by decide +kernel
theorem dX10_waits_52 : decode cX10_waits 52 = .ok (.iload 7, 2) := by decide +kernel
theorem dX10_waits_54 : decode cX10_waits 54 = .ok (.iload_n 3, 1) := by decide +kernel
theorem dX10_waits_55 : decode cX10_waits 55 = .ok (.if_icmp .le 8, 3) := by decide +kernel
theorem dX10_waits_58 : decode cX10_waits 58 = .ok (.iload 7, 2) := by decide +kernel
theorem dX10_waits_60 : decode cX10_waits 60 = .ok (.goto 4, 3) := by decide +kernel
theorem dX10_waits_63 : decode cX10_waits 63 = .ok (.iload_n 3, 1) := by decide +kernel
theorem dX10_waits_64 : decode cX10_waits 64 = .ok (.istore_n 3, 1) := by decide +kernel
theorem dX10_waits_65 : decode cX10_waits 65 = .ok (.iload 4, 2) := by decide +kernel
theorem dX10_waits_67 : decode cX10_waits 67 = .ok (.iload 7, 2) := by decide +kernel
theorem dX10_waits_69 : decode cX10_waits 69 = .ok (.iadd, 1) := by decide +kernel
theorem dX10_waits_70 : decode cX10_waits 70 = .ok (.istore 4, 2) := by decide +kernel
theorem dX10_waits_72 : decode cX10_waits 72 = .ok (.iinc 5 1, 3) := by decide +kernel
theorem dX10_waits_75 : decode cX10_waits 75 = .ok (.goto (-66), 3) := by decide +kernel
theorem dX10_waits_78 : decode cX10_waits 78 = .ok (.iload_n 2, 1) := by decide +kernel
theorem dX10_waits_79 : decode cX10_waits 79 = .ok (.ifCond .ne 7, 3) := by decide +kernel
theorem dX10_waits_82 : decode cX10_waits 82 = .ok (.iload_n 3, 1) := by decide +kernel
theorem dX10_waits_83 : decode cX10_waits 83 = .ok (.goto 5, 3) := by decide +kernel
theorem dX10_waits_86 : decode cX10_waits 86 = .ok (.iload 4, 2) := by decide +kernel
theorem dX10_waits_88 : decode cX10_waits 88 = .ok (.ireturn, 1) := by decide +kernel
theorem dX10_bytesStanding_0 : decode cX10_bytesStanding 0 = .ok (.iconst 0, 1) := by decide +kernel
theorem dX10_bytesStanding_1 : decode cX10_bytesStanding 1 = .ok (.istore_n 1, 1) := by decide +kernel
theorem dX10_bytesStanding_2 : decode cX10_bytesStanding 2 = .ok (.iconst 0, 1) := by decide +kernel
theorem dX10_bytesStanding_3 : decode cX10_bytesStanding 3 = .ok (.istore_n 2, 1) := by decide +kernel
theorem dX10_bytesStanding_4 : decode cX10_bytesStanding 4 = .ok (.iload_n 2, 1) := by decide +kernel
theorem dX10_bytesStanding_5 : decode cX10_bytesStanding 5 = .ok (.aload_n 0, 1) := by decide +kernel
theorem dX10_bytesStanding_6 : decode cX10_bytesStanding 6 = .ok (.invokevirtual 209, 3) := by decide +kernel
theorem dX10_bytesStanding_9 : decode cX10_bytesStanding 9 = .ok (.if_icmp .ge 19, 3) := by decide +kernel
theorem dX10_bytesStanding_12 : decode cX10_bytesStanding 12 = .ok (.iload_n 1, 1) := by decide +kernel
theorem dX10_bytesStanding_13 : decode cX10_bytesStanding 13 = .ok (.aload_n 0, 1) := by decide +kernel
theorem dX10_bytesStanding_14 : decode cX10_bytesStanding 14 = .ok (.iload_n 2, 1) := by decide +kernel
theorem dX10_bytesStanding_15 : decode cX10_bytesStanding 15 = .ok (.bipush 12, 2) := by decide +kernel
theorem dX10_bytesStanding_17 : decode cX10_bytesStanding 17 = .ok (.invokevirtual 184, 3) := by decide +kernel
theorem dX10_bytesStanding_20 : decode cX10_bytesStanding 20 = .ok (.iadd, 1) := by decide +kernel
theorem dX10_bytesStanding_21 : decode cX10_bytesStanding 21 = .ok (.istore_n 1, 1) := by decide +kernel
theorem dX10_bytesStanding_22 : decode cX10_bytesStanding 22 = .ok (.iinc 2 1, 3) := by decide +kernel
theorem dX10_bytesStanding_25 : decode cX10_bytesStanding 25 = .ok (.goto (-21), 3) := by decide +kernel
theorem dX10_bytesStanding_28 : decode cX10_bytesStanding 28 = .ok (.iload_n 1, 1) := by decide +kernel
theorem dX10_bytesStanding_29 : decode cX10_bytesStanding 29 = .ok (.ireturn, 1) := by decide +kernel
theorem dX10_freeOnes_0 : decode cX10_freeOnes 0 = .ok (.iconst 0, 1) := by decide +kernel
theorem dX10_freeOnes_1 : decode cX10_freeOnes 1 = .ok (.istore_n 1, 1) := by decide +kernel
theorem dX10_freeOnes_2 : decode cX10_freeOnes 2 = .ok (.iconst 0, 1) := by decide +kernel
theorem dX10_freeOnes_3 : decode cX10_freeOnes 3 = .ok (.istore_n 2, 1) := by decide +kernel
theorem dX10_freeOnes_4 : decode cX10_freeOnes 4 = .ok (.iload_n 2, 1) := by decide +kernel
theorem dX10_freeOnes_5 : decode cX10_freeOnes 5 = .ok (.aload_n 0, 1) := by decide +kernel
theorem dX10_freeOnes_6 : decode cX10_freeOnes 6 = .ok (.invokevirtual 209, 3) := by decide +kernel
theorem dX10_freeOnes_9 : decode cX10_freeOnes 9 = .ok (.if_icmp .ge 26, 3) := by decide +kernel
theorem dX10_freeOnes_12 : decode cX10_freeOnes 12 = .ok (.iload_n 1, 1) := by decide +kernel
theorem dX10_freeOnes_13 : decode cX10_freeOnes 13 = .ok (.aload_n 0, 1) := by decide +kernel
theorem dX10_freeOnes_14 : decode cX10_freeOnes 14 = .ok (.iload_n 2, 1) := by decide +kernel
theorem dX10_freeOnes_15 : decode cX10_freeOnes 15 = .ok (.iconst 2, 1) := by decide +kernel
theorem dX10_freeOnes_16 : decode cX10_freeOnes 16 = .ok (.invokevirtual 184, 3) := by decide +kernel
theorem dX10_freeOnes_19 : decode cX10_freeOnes 19 = .ok (.ifCond .ne 7, 3) := by decide +kernel
theorem dX10_freeOnes_22 : decode cX10_freeOnes 22 = .ok (.iconst 1, 1) := by decide +kernel
theorem dX10_freeOnes_23 : decode cX10_freeOnes 23 = .ok (.goto 4, 3) := by decide +kernel
theorem dX10_freeOnes_26 : decode cX10_freeOnes 26 = .ok (.iconst 0, 1) := by decide +kernel
theorem dX10_freeOnes_27 : decode cX10_freeOnes 27 = .ok (.iadd, 1) := by decide +kernel
theorem dX10_freeOnes_28 : decode cX10_freeOnes 28 = .ok (.istore_n 1, 1) := by decide +kernel
theorem dX10_freeOnes_29 : decode cX10_freeOnes 29 = .ok (.iinc 2 1, 3) := by decide +kernel
theorem dX10_freeOnes_32 : decode cX10_freeOnes 32 = .ok (.goto (-28), 3) := by decide +kernel
theorem dX10_freeOnes_35 : decode cX10_freeOnes 35 = .ok (.iload_n 1, 1) := by decide +kernel
theorem dX10_freeOnes_36 : decode cX10_freeOnes 36 = .ok (.ireturn, 1) := by decide +kernel
theorem dX10_opens_0 : decode cX10_opens 0 = .ok (.aload_n 0, 1) := by decide +kernel
theorem dX10_opens_1 : decode cX10_opens 1 = .ok (.iload_n 1, 1) := by decide +kernel
theorem dX10_opens_2 : decode cX10_opens 2 = .ok (.iconst 0, 1) := by decide +kernel
theorem dX10_opens_3 : decode cX10_opens 3 = .ok (.iload_n 2, 1) := by decide +kernel
theorem dX10_opens_4 : decode cX10_opens 4 = .ok (.invokevirtual 165, 3) := by decide +kernel
theorem dX10_opens_7 : decode cX10_opens 7 = .ok (.aload_n 0, 1) := by decide +kernel
theorem dX10_opens_8 : decode cX10_opens 8 = .ok (.iload_n 1, 1) := by decide +kernel
theorem dX10_opens_9 : decode cX10_opens 9 = .ok (.iconst 1, 1) := by decide +kernel
theorem dX10_opens_10 : decode cX10_opens 10 = .ok (.aload_n 0, 1) := by decide +kernel
theorem dX10_opens_11 : decode cX10_opens 11 = .ok (.invokevirtual 187, 3) := by decide +kernel
theorem dX10_opens_14 : decode cX10_opens 14 = .ok (.invokevirtual 165, 3) := by decide +kernel
theorem dX10_opens_17 : decode cX10_opens 17 = .ok (.aload_n 0, 1) := by decide +kernel
theorem dX10_opens_18 : decode cX10_opens 18 = .ok (.iload_n 1, 1) := by decide +kernel
theorem dX10_opens_19 : decode cX10_opens 19 = .ok (.iconst 3, 1) := by decide +kernel
theorem dX10_opens_20 : decode cX10_opens 20 = .ok (.iconst 0, 1) := by decide +kernel
theorem dX10_opens_21 : decode cX10_opens 21 = .ok (.invokevirtual 165, 3) := by decide +kernel
theorem dX10_opens_24 : decode cX10_opens 24 = .ok (.aload_n 0, 1) := by decide +kernel
theorem dX10_opens_25 : decode cX10_opens 25 = .ok (.iload_n 1, 1) := by decide +kernel
theorem dX10_opens_26 : decode cX10_opens 26 = .ok (.iconst 4, 1) := by decide +kernel
theorem dX10_opens_27 : decode cX10_opens 27 = .ok (.iconst 0, 1) := by decide +kernel
theorem dX10_opens_28 : decode cX10_opens 28 = .ok (.invokevirtual 165, 3) := by decide +kernel
theorem dX10_opens_31 : decode cX10_opens 31 = .ok (.aload_n 0, 1) := by decide +kernel
theorem dX10_opens_32 : decode cX10_opens 32 = .ok (.iload_n 1, 1) := by decide +kernel
theorem dX10_opens_33 : decode cX10_opens 33 = .ok (.iconst 5, 1) := by decide +kernel
theorem dX10_opens_34 : decode cX10_opens 34 = .ok (.iconst 0, 1) := by decide +kernel
theorem dX10_opens_35 : decode cX10_opens 35 = .ok (.invokevirtual 165, 3) := by decide +kernel
theorem dX10_opens_38 : decode cX10_opens 38 = .ok (.aload_n 0, 1) := by decide +kernel
theorem dX10_opens_39 : decode cX10_opens 39 = .ok (.iload_n 1, 1) := by decide +kernel
theorem dX10_opens_40 : decode cX10_opens 40 = .ok (.bipush 6, 2) := by decide +kernel
theorem dX10_opens_42 : decode cX10_opens 42 = .ok (.iconst 0, 1) := by decide +kernel
theorem dX10_opens_43 : decode cX10_opens 43 = .ok (.invokevirtual 165, 3) := by decide +kernel
theorem dX10_opens_46 : decode cX10_opens 46 = .ok (.aload_n 0, 1) := by decide +kernel
theorem dX10_opens_47 : decode cX10_opens 47 = .ok (.iload_n 1, 1) := by decide +kernel
theorem dX10_opens_48 : decode cX10_opens 48 = .ok (.bipush 7, 2) := by decide +kernel
theorem dX10_opens_50 : decode cX10_opens 50 = .ok (.bipush (-2), 2) := by decide +kernel
theorem dX10_opens_52 : decode cX10_opens 52 = .ok (.invokevirtual 165, 3) := by decide +kernel
theorem dX10_opens_55 : decode cX10_opens 55 = .ok (.aload_n 0, 1) := by decide +kernel
theorem dX10_opens_56 : decode cX10_opens 56 = .ok (.iload_n 1, 1) := by decide +kernel
theorem dX10_opens_57 : decode cX10_opens 57 = .ok (.bipush 8, 2) := by decide +kernel
theorem dX10_opens_59 : decode cX10_opens 59 = .ok (.ldc 169, 2) := by decide +kernel
theorem dX10_opens_61 : decode cX10_opens 61 = .ok (.invokevirtual 165, 3) := by decide +kernel
theorem dX10_opens_64 : decode cX10_opens 64 = .ok (.aload_n 0, 1) := by decide +kernel
theorem dX10_opens_65 : decode cX10_opens 65 = .ok (.iload_n 1, 1) := by decide +kernel
theorem dX10_opens_66 : decode cX10_opens 66 = .ok (.bipush 9, 2) := by decide +kernel
theorem dX10_opens_68 : decode cX10_opens 68 = .ok (.aload_n 0, 1) := by decide +kernel
theorem dX10_opens_69 : decode cX10_opens 69 = .ok (.iload_n 1, 1) := by decide +kernel
theorem dX10_opens_70 : decode cX10_opens 70 = .ok (.bipush 9, 2) := by decide +kernel
theorem dX10_opens_72 : decode cX10_opens 72 = .ok (.invokevirtual 184, 3) := by decide +kernel
theorem dX10_opens_75 : decode cX10_opens 75 = .ok (.iconst 1, 1) := by decide +kernel
theorem dX10_opens_76 : decode cX10_opens 76 = .ok (.iadd, 1) := by decide +kernel
theorem dX10_opens_77 : decode cX10_opens 77 = .ok (.invokevirtual 165, 3) := by decide +kernel
theorem dX10_opens_80 : decode cX10_opens 80 = .ok (.aload_n 0, 1) := by decide +kernel
theorem dX10_opens_81 : decode cX10_opens 81 = .ok (.iload_n 1, 1) := by decide +kernel
theorem dX10_opens_82 : decode cX10_opens 82 = .ok (.iconst 1, 1) := by decide +kernel
theorem dX10_opens_83 : decode cX10_opens 83 = .ok (.invokevirtual 190, 3) := by decide +kernel
theorem dX10_opens_86 : decode cX10_opens 86 = .ok (.return_, 1) := by decide +kernel
theorem dX10_pushes_0 : decode cX10_pushes 0 = .ok (.iconst 0, 1) := by decide +kernel
theorem dX10_pushes_1 : decode cX10_pushes 1 = .ok (.istore_n 1, 1) := by decide +kernel
theorem dX10_pushes_2 : decode cX10_pushes 2 = .ok (.iconst 1, 1) := by decide +kernel
theorem dX10_pushes_3 : decode cX10_pushes 3 = .ok (.istore_n 2, 1) := by decide +kernel
theorem dX10_pushes_4 : decode cX10_pushes 4 = .ok (.iload_n 2, 1) := by decide +kernel
theorem dX10_pushes_5 : decode cX10_pushes 5 = .ok (.aload_n 0, 1) := by decide +kernel
theorem dX10_pushes_6 : decode cX10_pushes 6 = .ok (.invokevirtual 209, 3) := by decide +kernel
theorem dX10_pushes_9 : decode cX10_pushes 9 = .ok (.if_icmp .ge 32, 3) := by decide +kernel
theorem dX10_pushes_12 : decode cX10_pushes 12 = .ok (.aload_n 0, 1) := by decide +kernel
theorem dX10_pushes_13 : decode cX10_pushes 13 = .ok (.iload_n 2, 1) := by decide +kernel
theorem dX10_pushes_14 : decode cX10_pushes 14 = .ok (.bipush 12, 2) := by decide +kernel
theorem dX10_pushes_16 : decode cX10_pushes 16 = .ok (.invokevirtual 184, 3) := by decide +kernel
theorem dX10_pushes_19 : decode cX10_pushes 19 = .ok (.aload_n 0, 1) := by decide +kernel
theorem dX10_pushes_20 : decode cX10_pushes 20 = .ok (.iload_n 1, 1) := by decide +kernel
theorem dX10_pushes_21 : decode cX10_pushes 21 = .ok (.bipush 12, 2) := by decide +kernel
theorem dX10_pushes_23 : decode cX10_pushes 23 = .ok (.invokevirtual 184, 3) := by decide +kernel
theorem dX10_pushes_26 : decode cX10_pushes 26 = .ok (.if_icmp .le 7, 3) := by decide +kernel
theorem dX10_pushes_29 : decode cX10_pushes 29 = .ok (.iload_n 2, 1) := by decide +kernel
theorem dX10_pushes_30 : decode cX10_pushes 30 = .ok (.goto 4, 3) := by decide +kernel
theorem dX10_pushes_33 : decode cX10_pushes 33 = .ok (.iload_n 1, 1) := by decide +kernel
theorem dX10_pushes_34 : decode cX10_pushes 34 = .ok (.istore_n 1, 1) := by decide +kernel
theorem dX10_pushes_35 : decode cX10_pushes 35 = .ok (.iinc 2 1, 3) := by decide +kernel
theorem dX10_pushes_38 : decode cX10_pushes 38 = .ok (.goto (-34), 3) := by decide +kernel
theorem dX10_pushes_41 : decode cX10_pushes 41 = .ok (.aload_n 0, 1) := by decide +kernel
theorem dX10_pushes_42 : decode cX10_pushes 42 = .ok (.iload_n 1, 1) := by decide +kernel
theorem dX10_pushes_43 : decode cX10_pushes 43 = .ok (.invokevirtual 212, 3) := by decide +kernel
theorem dX10_pushes_46 : decode cX10_pushes 46 = .ok (.istore_n 2, 1) := by decide +kernel
theorem dX10_pushes_47 : decode cX10_pushes 47 = .ok (.aload_n 0, 1) := by decide +kernel
theorem dX10_pushes_48 : decode cX10_pushes 48 = .ok (.iload_n 2, 1) := by decide +kernel
theorem dX10_pushes_49 : decode cX10_pushes 49 = .ok (.iconst 3, 1) := by decide +kernel
theorem dX10_pushes_50 : decode cX10_pushes 50 = .ok (.invokevirtual 215, 3) := by decide +kernel
theorem dX10_pushes_53 : decode cX10_pushes 53 = .ok (.aload_n 0, 1) := by decide +kernel
theorem dX10_pushes_54 : decode cX10_pushes 54 = .ok (.iconst 3, 1) := by decide +kernel
theorem dX10_pushes_55 : decode cX10_pushes 55 = .ok (.iload_n 2, 1) := by decide +kernel
theorem dX10_pushes_56 : decode cX10_pushes 56 = .ok (.invokevirtual 218, 3) := by decide +kernel
theorem dX10_pushes_59 : decode cX10_pushes 59 = .ok (.aload_n 0, 1) := by decide +kernel
theorem dX10_pushes_60 : decode cX10_pushes 60 = .ok (.iconst 4, 1) := by decide +kernel
theorem dX10_pushes_61 : decode cX10_pushes 61 = .ok (.iload_n 1, 1) := by decide +kernel
theorem dX10_pushes_62 : decode cX10_pushes 62 = .ok (.iconst 0, 1) := by decide +kernel
theorem dX10_pushes_63 : decode cX10_pushes 63 = .ok (.invokevirtual 221, 3) := by decide +kernel
theorem dX10_pushes_66 : decode cX10_pushes 66 = .ok (.return_, 1) := by decide +kernel
theorem dX10_takes_0 : decode cX10_takes 0 = .ok (.aload_n 0, 1) := by decide +kernel
theorem dX10_takes_1 : decode cX10_takes 1 = .ok (.iload_n 1, 1) := by decide +kernel
theorem dX10_takes_2 : decode cX10_takes 2 = .ok (.invokevirtual 212, 3) := by decide +kernel
theorem dX10_takes_5 : decode cX10_takes 5 = .ok (.istore_n 2, 1) := by decide +kernel
theorem dX10_takes_6 : decode cX10_takes 6 = .ok (.aload_n 0, 1) := by decide +kernel
theorem dX10_takes_7 : decode cX10_takes 7 = .ok (.iload_n 1, 1) := by decide +kernel
theorem dX10_takes_8 : decode cX10_takes 8 = .ok (.bipush 11, 2) := by decide +kernel
theorem dX10_takes_10 : decode cX10_takes 10 = .ok (.iconst 0, 1) := by decide +kernel
theorem dX10_takes_11 : decode cX10_takes 11 = .ok (.invokevirtual 165, 3) := by decide +kernel
theorem dX10_takes_14 : decode cX10_takes 14 = .ok (.iload_n 2, 1) := by decide +kernel
theorem dX10_takes_15 : decode cX10_takes 15 = .ok (.iconst (-1), 1) := by decide +kernel
theorem dX10_takes_16 : decode cX10_takes 16 = .ok (.if_icmp .ne 14, 3) := by decide +kernel
theorem dX10_takes_19 : decode cX10_takes 19 = .ok (.aload_n 0, 1) := by decide +kernel
theorem dX10_takes_20 : decode cX10_takes 20 = .ok (.iload_n 1, 1) := by decide +kernel
theorem dX10_takes_21 : decode cX10_takes 21 = .ok (.bipush 7, 2) := by decide +kernel
theorem dX10_takes_23 : decode cX10_takes 23 = .ok (.bipush (-2), 2) := by decide +kernel
theorem dX10_takes_25 : decode cX10_takes 25 = .ok (.invokevirtual 165, 3) := by decide +kernel
theorem dX10_takes_28 : decode cX10_takes 28 = .ok (.iconst (-1), 1) := by decide +kernel
theorem dX10_takes_29 : decode cX10_takes 29 = .ok (.ireturn, 1) := by decide +kernel
theorem dX10_takes_30 : decode cX10_takes 30 = .ok (.aload_n 0, 1) := by decide +kernel
theorem dX10_takes_31 : decode cX10_takes 31 = .ok (.iload_n 2, 1) := by decide +kernel
theorem dX10_takes_32 : decode cX10_takes 32 = .ok (.iconst 1, 1) := by decide +kernel
theorem dX10_takes_33 : decode cX10_takes 33 = .ok (.invokevirtual 215, 3) := by decide +kernel
theorem dX10_takes_36 : decode cX10_takes 36 = .ok (.aload_n 0, 1) := by decide +kernel
theorem dX10_takes_37 : decode cX10_takes 37 = .ok (.getfield 30, 3) := by decide +kernel
theorem dX10_takes_40 : decode cX10_takes 40 = .ok (.iconst 0, 1) := by decide +kernel
theorem dX10_takes_41 : decode cX10_takes 41 = .ok (.iaload, 1) := by decide +kernel
theorem dX10_takes_42 : decode cX10_takes 42 = .ok (.aload_n 0, 1) := by decide +kernel
theorem dX10_takes_43 : decode cX10_takes 43 = .ok (.iload_n 2, 1) := by decide +kernel
theorem dX10_takes_44 : decode cX10_takes 44 = .ok (.iconst 3, 1) := by decide +kernel
theorem dX10_takes_45 : decode cX10_takes 45 = .ok (.invokevirtual 194, 3) := by decide +kernel
theorem dX10_takes_48 : decode cX10_takes 48 = .ok (.isub, 1) := by decide +kernel
theorem dX10_takes_49 : decode cX10_takes 49 = .ok (.aload_n 0, 1) := by decide +kernel
theorem dX10_takes_50 : decode cX10_takes 50 = .ok (.invokevirtual 239, 3) := by decide +kernel
theorem dX10_takes_53 : decode cX10_takes 53 = .ok (.if_icmp .lt 20, 3) := by decide +kernel
theorem dX10_takes_56 : decode cX10_takes 56 = .ok (.aload_n 0, 1) := by decide +kernel
theorem dX10_takes_57 : decode cX10_takes 57 = .ok (.iload_n 1, 1) := by decide +kernel
theorem dX10_takes_58 : decode cX10_takes 58 = .ok (.bipush 12, 2) := by decide +kernel
theorem dX10_takes_60 : decode cX10_takes 60 = .ok (.invokevirtual 184, 3) := by decide +kernel
theorem dX10_takes_63 : decode cX10_takes 63 = .ok (.aload_n 0, 1) := by decide +kernel
theorem dX10_takes_64 : decode cX10_takes 64 = .ok (.getfield 30, 3) := by decide +kernel
theorem dX10_takes_67 : decode cX10_takes 67 = .ok (.bipush 8, 2) := by decide +kernel
theorem dX10_takes_69 : decode cX10_takes 69 = .ok (.iaload, 1) := by decide +kernel
theorem dX10_takes_70 : decode cX10_takes 70 = .ok (.if_icmp .ge 15, 3) := by decide +kernel
theorem dX10_takes_73 : decode cX10_takes 73 = .ok (.aload_n 0, 1) := by decide +kernel
theorem dX10_takes_74 : decode cX10_takes 74 = .ok (.iload_n 1, 1) := by decide +kernel
theorem dX10_takes_75 : decode cX10_takes 75 = .ok (.bipush 7, 2) := by decide +kernel
theorem dX10_takes_77 : decode cX10_takes 77 = .ok (.bipush (-2), 2) := by decide +kernel
theorem dX10_takes_79 : decode cX10_takes 79 = .ok (.invokevirtual 165, 3) := by decide +kernel
theorem dX10_takes_82 : decode cX10_takes 82 = .ok (.goto 60, 3) := by decide +kernel
theorem dX10_takes_85 : decode cX10_takes 85 = .ok (.aload_n 0, 1) := by decide +kernel
theorem dX10_takes_86 : decode cX10_takes 86 = .ok (.iload_n 1, 1) := by decide +kernel
theorem dX10_takes_87 : decode cX10_takes 87 = .ok (.bipush 7, 2) := by decide +kernel
theorem dX10_takes_89 : decode cX10_takes 89 = .ok (.invokevirtual 184, 3) := by decide +kernel
theorem dX10_takes_92 : decode cX10_takes 92 = .ok (.bipush (-2), 2) := by decide +kernel
theorem dX10_takes_94 : decode cX10_takes 94 = .ok (.if_icmp .ne 24, 3) := by decide +kernel
theorem dX10_takes_97 : decode cX10_takes 97 = .ok (.aload_n 0, 1) := by decide +kernel
theorem dX10_takes_98 : decode cX10_takes 98 = .ok (.iload_n 1, 1) := by decide +kernel
theorem dX10_takes_99 : decode cX10_takes 99 = .ok (.bipush 7, 2) := by decide +kernel
theorem dX10_takes_101 : decode cX10_takes 101 = .ok (.aload_n 0, 1) := by decide +kernel
theorem dX10_takes_102 : decode cX10_takes 102 = .ok (.getfield 30, 3) := by decide +kernel
theorem dX10_takes_105 : decode cX10_takes 105 = .ok (.iconst 0, 1) := by decide +kernel
theorem dX10_takes_106 : decode cX10_takes 106 = .ok (.iaload, 1) := by decide +kernel
theorem dX10_takes_107 : decode cX10_takes 107 = .ok (.aload_n 0, 1) := by decide +kernel
theorem dX10_takes_108 : decode cX10_takes 108 = .ok (.invokevirtual 225, 3) := by decide +kernel
theorem dX10_takes_111 : decode cX10_takes 111 = .ok (.iadd, 1) := by decide +kernel
theorem dX10_takes_112 : decode cX10_takes 112 = .ok (.invokevirtual 165, 3) := by decide +kernel
theorem dX10_takes_115 : decode cX10_takes 115 = .ok (.goto 27, 3) := by decide +kernel
theorem dX10_takes_118 : decode cX10_takes 118 = .ok (.aload_n 0, 1) := by decide +kernel
theorem dX10_takes_119 : decode cX10_takes 119 = .ok (.getfield 30, 3) := by decide +kernel
theorem dX10_takes_122 : decode cX10_takes 122 = .ok (.iconst 0, 1) := by decide +kernel
theorem dX10_takes_123 : decode cX10_takes 123 = .ok (.iaload, 1) := by decide +kernel
theorem dX10_takes_124 : decode cX10_takes 124 = .ok (.aload_n 0, 1) := by decide +kernel
theorem dX10_takes_125 : decode cX10_takes 125 = .ok (.iload_n 1, 1) := by decide +kernel
theorem dX10_takes_126 : decode cX10_takes 126 = .ok (.bipush 7, 2) := by decide +kernel
theorem dX10_takes_128 : decode cX10_takes 128 = .ok (.invokevirtual 184, 3) := by decide +kernel
theorem dX10_takes_131 : decode cX10_takes 131 = .ok (.if_icmp .lt 11, 3) := by decide +kernel
theorem dX10_takes_134 : decode cX10_takes 134 = .ok (.aload_n 0, 1) := by decide +kernel
theorem dX10_takes_135 : decode cX10_takes 135 = .ok (.iload_n 1, 1) := by decide +kernel
theorem dX10_takes_136 : decode cX10_takes 136 = .ok (.bipush 11, 2) := by decide +kernel
theorem dX10_takes_138 : decode cX10_takes 138 = .ok (.iconst 1, 1) := by decide +kernel
theorem dX10_takes_139 : decode cX10_takes 139 = .ok (.invokevirtual 165, 3) := by decide +kernel
theorem dX10_takes_142 : decode cX10_takes 142 = .ok (.iload_n 2, 1) := by decide +kernel
theorem dX10_takes_143 : decode cX10_takes 143 = .ok (.ireturn, 1) := by decide +kernel
theorem dX10_hearsAll_0 : decode cX10_hearsAll 0 = .ok (.iconst 0, 1) := by decide +kernel
theorem dX10_hearsAll_1 : decode cX10_hearsAll 1 = .ok (.istore_n 2, 1) := by decide +kernel
theorem dX10_hearsAll_2 : decode cX10_hearsAll 2 = .ok (.iload_n 2, 1) := by decide +kernel
theorem dX10_hearsAll_3 : decode cX10_hearsAll 3 = .ok (.aload_n 0, 1) := by decide +kernel
theorem dX10_hearsAll_4 : decode cX10_hearsAll 4 = .ok (.getfield 30, 3) := by decide +kernel
theorem dX10_hearsAll_7 : decode cX10_hearsAll 7 = .ok (.sipush 3514, 3) := by decide +kernel
theorem dX10_hearsAll_10 : decode cX10_hearsAll 10 = .ok (.iaload, 1) := by decide +kernel
theorem dX10_hearsAll_11 : decode cX10_hearsAll 11 = .ok (.if_icmp .ge 70, 3) := by decide +kernel
theorem dX10_hearsAll_14 : decode cX10_hearsAll 14 = .ok (.aload_n 0, 1) := by decide +kernel
theorem dX10_hearsAll_15 : decode cX10_hearsAll 15 = .ok (.getfield 30, 3) := by decide +kernel
theorem dX10_hearsAll_18 : decode cX10_hearsAll 18 = .ok (.sipush 3515, 3) := by decide +kernel
theorem dX10_hearsAll_21 : decode cX10_hearsAll 21 = .ok (.iload_n 2, 1) := by decide +kernel
theorem dX10_hearsAll_22 : decode cX10_hearsAll 22 = .ok (.iadd, 1) := by decide +kernel
theorem dX10_hearsAll_23 : decode cX10_hearsAll 23 = .ok (.iaload, 1) := by decide +kernel
theorem dX10_hearsAll_24 : decode cX10_hearsAll 24 = .ok (.istore_n 3, 1) := by decide +kernel
theorem dX10_hearsAll_25 : decode cX10_hearsAll 25 = .ok (.aload_n 0, 1) := by decide +kernel
theorem dX10_hearsAll_26 : decode cX10_hearsAll 26 = .ok (.iload_n 3, 1) := by decide +kernel
theorem dX10_hearsAll_27 : decode cX10_hearsAll 27 = .ok (.bipush 10, 2) := by decide +kernel
theorem dX10_hearsAll_29 : decode cX10_hearsAll 29 = .ok (.invokevirtual 194, 3) := by decide +kernel
theorem dX10_hearsAll_32 : decode cX10_hearsAll 32 = .ok (.iload_n 1, 1) := by decide +kernel
theorem dX10_hearsAll_33 : decode cX10_hearsAll 33 = .ok (.if_icmp .ne 42, 3) := by decide +kernel
theorem dX10_hearsAll_36 : decode cX10_hearsAll 36 = .ok (.aload_n 0, 1) := by decide +kernel
theorem dX10_hearsAll_37 : decode cX10_hearsAll 37 = .ok (.iload_n 3, 1) := by decide +kernel
theorem dX10_hearsAll_38 : decode cX10_hearsAll 38 = .ok (.bipush 11, 2) := by decide +kernel
theorem dX10_hearsAll_40 : decode cX10_hearsAll 40 = .ok (.invokevirtual 194, 3) := by decide +kernel
theorem dX10_hearsAll_43 : decode cX10_hearsAll 43 = .ok (.ifCond .ne 32, 3) := by decide +kernel
theorem dX10_hearsAll_46 : decode cX10_hearsAll 46 = .ok (.aload_n 0, 1) := by decide +kernel
theorem dX10_hearsAll_47 : decode cX10_hearsAll 47 = .ok (.iload_n 3, 1) := by decide +kernel
theorem dX10_hearsAll_48 : decode cX10_hearsAll 48 = .ok (.bipush 7, 2) := by decide +kernel
theorem dX10_hearsAll_50 : decode cX10_hearsAll 50 = .ok (.invokevirtual 194, 3) := by decide +kernel
theorem dX10_hearsAll_53 : decode cX10_hearsAll 53 = .ok (.aload_n 0, 1) := by decide +kernel
theorem dX10_hearsAll_54 : decode cX10_hearsAll 54 = .ok (.iload_n 1, 1) := by decide +kernel
theorem dX10_hearsAll_55 : decode cX10_hearsAll 55 = .ok (.iconst 3, 1) := by decide +kernel
theorem dX10_hearsAll_56 : decode cX10_hearsAll 56 = .ok (.invokevirtual 272, 3) := by decide +kernel
theorem dX10_hearsAll_59 : decode cX10_hearsAll 59 = .ok (.iadd, 1) := by decide +kernel
theorem dX10_hearsAll_60 : decode cX10_hearsAll 60 = .ok (.aload_n 0, 1) := by decide +kernel
theorem dX10_hearsAll_61 : decode cX10_hearsAll 61 = .ok (.getfield 30, 3) := by decide +kernel
theorem dX10_hearsAll_64 : decode cX10_hearsAll 64 = .ok (.iconst 0, 1) := by decide +kernel
theorem dX10_hearsAll_65 : decode cX10_hearsAll 65 = .ok (.iaload, 1) := by decide +kernel
theorem dX10_hearsAll_66 : decode cX10_hearsAll 66 = .ok (.if_icmp .gt 9, 3) := by decide +kernel
theorem dX10_hearsAll_69 : decode cX10_hearsAll 69 = .ok (.aload_n 0, 1) := by decide +kernel
theorem dX10_hearsAll_70 : decode cX10_hearsAll 70 = .ok (.iload_n 1, 1) := by decide +kernel
theorem dX10_hearsAll_71 : decode cX10_hearsAll 71 = .ok (.iload_n 3, 1) := by decide +kernel
theorem dX10_hearsAll_72 : decode cX10_hearsAll 72 = .ok (.invokevirtual 275, 3) := by decide +kernel
theorem dX10_hearsAll_75 : decode cX10_hearsAll 75 = .ok (.iinc 2 1, 3) := by decide +kernel
theorem dX10_hearsAll_78 : decode cX10_hearsAll 78 = .ok (.goto (-76), 3) := by decide +kernel
theorem dX10_hearsAll_81 : decode cX10_hearsAll 81 = .ok (.return_, 1) := by decide +kernel
theorem dX10_bucketFor_0 : decode cX10_bucketFor 0 = .ok (.aload_n 0, 1) := by decide +kernel
theorem dX10_bucketFor_1 : decode cX10_bucketFor 1 = .ok (.iconst 0, 1) := by decide +kernel
theorem dX10_bucketFor_2 : decode cX10_bucketFor 2 = .ok (.putfield 45, 3) := by decide +kernel
theorem dX10_bucketFor_5 : decode cX10_bucketFor 5 = .ok (.iload_n 1, 1) := by decide +kernel
theorem dX10_bucketFor_6 : decode cX10_bucketFor 6 = .ok (.invokestatic 301, 3) := by decide +kernel
theorem dX10_bucketFor_9 : decode cX10_bucketFor 9 = .ok (.ifCond .eq 11, 3) := by decide +kernel
theorem dX10_bucketFor_12 : decode cX10_bucketFor 12 = .ok (.aload_n 0, 1) := by decide +kernel
theorem dX10_bucketFor_13 : decode cX10_bucketFor 13 = .ok (.iload_n 1, 1) := by decide +kernel
theorem dX10_bucketFor_14 : decode cX10_bucketFor 14 = .ok (.invokevirtual 200, 3) := by decide +kernel
theorem dX10_bucketFor_17 : decode cX10_bucketFor 17 = .ok (.goto 4, 3) := by decide +kernel
theorem dX10_bucketFor_20 : decode cX10_bucketFor 20 = .ok (.iconst (-1), 1) := by decide +kernel
theorem dX10_bucketFor_21 : decode cX10_bucketFor 21 = .ok (.ireturn, 1) := by decide +kernel
theorem dX10_bucket_0 : decode cX10_bucket 0 = .ok (.aload_n 0, 1) := by decide +kernel
theorem dX10_bucket_1 : decode cX10_bucket 1 = .ok (.iconst 0, 1) := by decide +kernel
theorem dX10_bucket_2 : decode cX10_bucket 2 = .ok (.putfield 45, 3) := by decide +kernel
theorem dX10_bucket_5 : decode cX10_bucket 5 = .ok (.aload_n 0, 1) := by decide +kernel
theorem dX10_bucket_6 : decode cX10_bucket 6 = .ok (.iload_n 1, 1) := by decide +kernel
theorem dX10_bucket_7 : decode cX10_bucket 7 = .ok (.invokevirtual 304, 3) := by decide +kernel
theorem dX10_bucket_10 : decode cX10_bucket 10 = .ok (.ifCond .ne 10, 3) := by decide +kernel
theorem dX10_bucket_13 : decode cX10_bucket 13 = .ok (.aload_n 0, 1) := by decide +kernel
theorem dX10_bucket_14 : decode cX10_bucket 14 = .ok (.iconst 1, 1) := by decide +kernel
theorem dX10_bucket_15 : decode cX10_bucket 15 = .ok (.putfield 45, 3) := by decide +kernel
theorem dX10_bucket_18 : decode cX10_bucket 18 = .ok (.iconst 0, 1) := by decide +kernel
theorem dX10_bucket_19 : decode cX10_bucket 19 = .ok (.ireturn, 1) := by decide +kernel
theorem dX10_bucket_20 : decode cX10_bucket 20 = .ok (.iload_n 2, 1) := by decide +kernel
theorem dX10_bucket_21 : decode cX10_bucket 21 = .ok (.tableswitch 139 0 10 #[59, 66, 72, 80, 87, 94, 101, 108, 115, 123, 131], 59) := by decide +kernel
theorem dX10_bucket_80 : decode cX10_bucket 80 = .ok (.aload_n 0, 1) := by decide +kernel
theorem dX10_bucket_81 : decode cX10_bucket 81 = .ok (.iload_n 1, 1) := by decide +kernel
theorem dX10_bucket_82 : decode cX10_bucket 82 = .ok (.iconst 0, 1) := by decide +kernel
theorem dX10_bucket_83 : decode cX10_bucket 83 = .ok (.invokevirtual 184, 3) := by decide +kernel
theorem dX10_bucket_86 : decode cX10_bucket 86 = .ok (.ireturn, 1) := by decide +kernel
theorem dX10_bucket_87 : decode cX10_bucket 87 = .ok (.aload_n 0, 1) := by decide +kernel
theorem dX10_bucket_88 : decode cX10_bucket 88 = .ok (.iload_n 1, 1) := by decide +kernel
theorem dX10_bucket_89 : decode cX10_bucket 89 = .ok (.invokevirtual 307, 3) := by decide +kernel
theorem dX10_bucket_92 : decode cX10_bucket 92 = .ok (.ireturn, 1) := by decide +kernel
theorem dX10_bucket_93 : decode cX10_bucket 93 = .ok (.aload_n 0, 1) := by decide +kernel
theorem dX10_bucket_94 : decode cX10_bucket 94 = .ok (.iload_n 1, 1) := by decide +kernel
theorem dX10_bucket_95 : decode cX10_bucket 95 = .ok (.bipush 12, 2) := by decide +kernel
theorem dX10_bucket_97 : decode cX10_bucket 97 = .ok (.invokevirtual 184, 3) := by decide +kernel
theorem dX10_bucket_100 : decode cX10_bucket 100 = .ok (.ireturn, 1) := by decide +kernel
theorem dX10_bucket_101 : decode cX10_bucket 101 = .ok (.aload_n 0, 1) := by decide +kernel
theorem dX10_bucket_102 : decode cX10_bucket 102 = .ok (.iload_n 1, 1) := by decide +kernel
theorem dX10_bucket_103 : decode cX10_bucket 103 = .ok (.iconst 1, 1) := by decide +kernel
theorem dX10_bucket_104 : decode cX10_bucket 104 = .ok (.invokevirtual 184, 3) := by decide +kernel
theorem dX10_bucket_107 : decode cX10_bucket 107 = .ok (.ireturn, 1) := by decide +kernel
theorem dX10_bucket_108 : decode cX10_bucket 108 = .ok (.aload_n 0, 1) := by decide +kernel
theorem dX10_bucket_109 : decode cX10_bucket 109 = .ok (.iload_n 1, 1) := by decide +kernel
theorem dX10_bucket_110 : decode cX10_bucket 110 = .ok (.iconst 2, 1) := by decide +kernel
theorem dX10_bucket_111 : decode cX10_bucket 111 = .ok (.invokevirtual 184, 3) := by decide +kernel
theorem dX10_bucket_114 : decode cX10_bucket 114 = .ok (.ireturn, 1) := by decide +kernel
theorem dX10_bucket_115 : decode cX10_bucket 115 = .ok (.aload_n 0, 1) := by decide +kernel
theorem dX10_bucket_116 : decode cX10_bucket 116 = .ok (.iload_n 1, 1) := by decide +kernel
theorem dX10_bucket_117 : decode cX10_bucket 117 = .ok (.iconst 3, 1) := by decide +kernel
theorem dX10_bucket_118 : decode cX10_bucket 118 = .ok (.invokevirtual 184, 3) := by decide +kernel
theorem dX10_bucket_121 : decode cX10_bucket 121 = .ok (.ireturn, 1) := by decide +kernel
theorem dX10_bucket_122 : decode cX10_bucket 122 = .ok (.aload_n 0, 1) := by decide +kernel
theorem dX10_bucket_123 : decode cX10_bucket 123 = .ok (.iload_n 1, 1) := by decide +kernel
theorem dX10_bucket_124 : decode cX10_bucket 124 = .ok (.iconst 4, 1) := by decide +kernel
theorem dX10_bucket_125 : decode cX10_bucket 125 = .ok (.invokevirtual 184, 3) := by decide +kernel
theorem dX10_bucket_128 : decode cX10_bucket 128 = .ok (.ireturn, 1) := by decide +kernel
theorem dX10_bucket_129 : decode cX10_bucket 129 = .ok (.aload_n 0, 1) := by decide +kernel
theorem dX10_bucket_130 : decode cX10_bucket 130 = .ok (.iload_n 1, 1) := by decide +kernel
theorem dX10_bucket_131 : decode cX10_bucket 131 = .ok (.iconst 5, 1) := by decide +kernel
theorem dX10_bucket_132 : decode cX10_bucket 132 = .ok (.invokevirtual 184, 3) := by decide +kernel
theorem dX10_bucket_135 : decode cX10_bucket 135 = .ok (.ireturn, 1) := by decide +kernel
theorem dX10_bucket_136 : decode cX10_bucket 136 = .ok (.aload_n 0, 1) := by decide +kernel
theorem dX10_bucket_137 : decode cX10_bucket 137 = .ok (.iload_n 1, 1) := by decide +kernel
theorem dX10_bucket_138 : decode cX10_bucket 138 = .ok (.bipush 6, 2) := by decide +kernel
theorem dX10_bucket_140 : decode cX10_bucket 140 = .ok (.invokevirtual 184, 3) := by decide +kernel
theorem dX10_bucket_143 : decode cX10_bucket 143 = .ok (.ireturn, 1) := by decide +kernel
theorem dX10_bucket_144 : decode cX10_bucket 144 = .ok (.aload_n 0, 1) := by decide +kernel
theorem dX10_bucket_145 : decode cX10_bucket 145 = .ok (.iload_n 1, 1) := by decide +kernel
theorem dX10_bucket_146 : decode cX10_bucket 146 = .ok (.bipush 7, 2) := by decide +kernel
theorem dX10_bucket_148 : decode cX10_bucket 148 = .ok (.invokevirtual 184, 3) := by decide +kernel
theorem dX10_bucket_151 : decode cX10_bucket 151 = .ok (.ireturn, 1) := by decide +kernel
theorem dX10_bucket_152 : decode cX10_bucket 152 = .ok (.aload_n 0, 1) := by decide +kernel
theorem dX10_bucket_153 : decode cX10_bucket 153 = .ok (.iload_n 1, 1) := by decide +kernel
theorem dX10_bucket_154 : decode cX10_bucket 154 = .ok (.bipush 8, 2) := by decide +kernel
theorem dX10_bucket_156 : decode cX10_bucket 156 = .ok (.invokevirtual 184, 3) := by decide +kernel
theorem dX10_bucket_159 : decode cX10_bucket 159 = .ok (.ireturn, 1) := by decide +kernel
theorem dX10_bucket_160 : decode cX10_bucket 160 = .ok (.aload_n 0, 1) := by decide +kernel
theorem dX10_bucket_161 : decode cX10_bucket 161 = .ok (.iconst 2, 1) := by decide +kernel
theorem dX10_bucket_162 : decode cX10_bucket 162 = .ok (.putfield 45, 3) := by decide +kernel
theorem dX10_bucket_165 : decode cX10_bucket 165 = .ok (.iconst 0, 1) := by decide +kernel
theorem dX10_bucket_166 : decode cX10_bucket 166 = .ok (.ireturn, 1) := by decide +kernel
theorem dX10_inBucket_0 : decode cX10_inBucket 0 = .ok (.aload_n 0, 1) := by decide +kernel
theorem dX10_inBucket_1 : decode cX10_inBucket 1 = .ok (.iconst 0, 1) := by decide +kernel
theorem dX10_inBucket_2 : decode cX10_inBucket 2 = .ok (.putfield 45, 3) := by decide +kernel
theorem dX10_inBucket_5 : decode cX10_inBucket 5 = .ok (.aload_n 0, 1) := by decide +kernel
theorem dX10_inBucket_6 : decode cX10_inBucket 6 = .ok (.iload_n 1, 1) := by decide +kernel
theorem dX10_inBucket_7 : decode cX10_inBucket 7 = .ok (.invokevirtual 304, 3) := by decide +kernel
theorem dX10_inBucket_10 : decode cX10_inBucket 10 = .ok (.ifCond .eq 7, 3) := by decide +kernel
theorem dX10_inBucket_13 : decode cX10_inBucket 13 = .ok (.iload_n 2, 1) := by decide +kernel
theorem dX10_inBucket_14 : decode cX10_inBucket 14 = .ok (.ifCond .ge 5, 3) := by decide +kernel
theorem dX10_inBucket_17 : decode cX10_inBucket 17 = .ok (.iconst (-1), 1) := by decide +kernel
theorem dX10_inBucket_18 : decode cX10_inBucket 18 = .ok (.ireturn, 1) := by decide +kernel
theorem dX10_inBucket_19 : decode cX10_inBucket 19 = .ok (.iload_n 2, 1) := by decide +kernel
theorem dX10_inBucket_20 : decode cX10_inBucket 20 = .ok (.istore_n 3, 1) := by decide +kernel
theorem dX10_inBucket_21 : decode cX10_inBucket 21 = .ok (.iconst 0, 1) := by decide +kernel
theorem dX10_inBucket_22 : decode cX10_inBucket 22 = .ok (.istore 4, 2) := by decide +kernel
theorem dX10_inBucket_24 : decode cX10_inBucket 24 = .ok (.iload 4, 2) := by decide +kernel
theorem dX10_inBucket_26 : decode cX10_inBucket 26 = .ok (.aload_n 0, 1) := by decide +kernel
theorem dX10_inBucket_27 : decode cX10_inBucket 27 = .ok (.getfield 30, 3) := by decide +kernel
theorem dX10_inBucket_30 : decode cX10_inBucket 30 = .ok (.iconst 1, 1) := by decide +kernel
theorem dX10_inBucket_31 : decode cX10_inBucket 31 = .ok (.iaload, 1) := by decide +kernel
theorem dX10_inBucket_32 : decode cX10_inBucket 32 = .ok (.if_icmp .ge 44, 3) := by decide +kernel
theorem dX10_inBucket_35 : decode cX10_inBucket 35 = .ok (.aload_n 0, 1) := by decide +kernel
theorem dX10_inBucket_36 : decode cX10_inBucket 36 = .ok (.iload 4, 2) := by decide +kernel
theorem dX10_inBucket_38 : decode cX10_inBucket 38 = .ok (.iconst 4, 1) := by decide +kernel
theorem dX10_inBucket_39 : decode cX10_inBucket 39 = .ok (.invokevirtual 194, 3) := by decide +kernel
theorem dX10_inBucket_42 : decode cX10_inBucket 42 = .ok (.iload_n 1, 1) := by decide +kernel
theorem dX10_inBucket_43 : decode cX10_inBucket 43 = .ok (.if_icmp .ne 27, 3) := by decide +kernel
theorem dX10_inBucket_46 : decode cX10_inBucket 46 = .ok (.aload_n 0, 1) := by decide +kernel
theorem dX10_inBucket_47 : decode cX10_inBucket 47 = .ok (.iload 4, 2) := by decide +kernel
theorem dX10_inBucket_49 : decode cX10_inBucket 49 = .ok (.bipush 6, 2) := by decide +kernel
theorem dX10_inBucket_51 : decode cX10_inBucket 51 = .ok (.invokevirtual 194, 3) := by decide +kernel
theorem dX10_inBucket_54 : decode cX10_inBucket 54 = .ok (.ifCond .eq 6, 3) := by decide +kernel
theorem dX10_inBucket_57 : decode cX10_inBucket 57 = .ok (.goto 13, 3) := by decide +kernel
theorem dX10_inBucket_60 : decode cX10_inBucket 60 = .ok (.iload_n 3, 1) := by decide +kernel
theorem dX10_inBucket_61 : decode cX10_inBucket 61 = .ok (.ifCond .ne 6, 3) := by decide +kernel
theorem dX10_inBucket_64 : decode cX10_inBucket 64 = .ok (.iload 4, 2) := by decide +kernel
theorem dX10_inBucket_66 : decode cX10_inBucket 66 = .ok (.ireturn, 1) := by decide +kernel
theorem dX10_inBucket_67 : decode cX10_inBucket 67 = .ok (.iinc 3 (-1), 3) := by decide +kernel
theorem dX10_inBucket_70 : decode cX10_inBucket 70 = .ok (.iinc 4 1, 3) := by decide +kernel
theorem dX10_inBucket_73 : decode cX10_inBucket 73 = .ok (.goto (-49), 3) := by decide +kernel
theorem dX10_inBucket_76 : decode cX10_inBucket 76 = .ok (.bipush (-2), 2) := by decide +kernel
theorem dX10_inBucket_78 : decode cX10_inBucket 78 = .ok (.ireturn, 1) := by decide +kernel
theorem dX10_least_0 : decode cX10_least 0 = .ok (.aload_n 0, 1) := by decide +kernel
theorem dX10_least_1 : decode cX10_least 1 = .ok (.iconst 0, 1) := by decide +kernel
theorem dX10_least_2 : decode cX10_least 2 = .ok (.putfield 45, 3) := by decide +kernel
theorem dX10_least_5 : decode cX10_least 5 = .ok (.aload_n 0, 1) := by decide +kernel
theorem dX10_least_6 : decode cX10_least 6 = .ok (.iload_n 1, 1) := by decide +kernel
theorem dX10_least_7 : decode cX10_least 7 = .ok (.invokevirtual 304, 3) := by decide +kernel
theorem dX10_least_10 : decode cX10_least 10 = .ok (.ifCond .ne 5, 3) := by decide +kernel
theorem dX10_least_13 : decode cX10_least 13 = .ok (.iconst (-1), 1) := by decide +kernel
theorem dX10_least_14 : decode cX10_least 14 = .ok (.ireturn, 1) := by decide +kernel
theorem dX10_least_15 : decode cX10_least 15 = .ok (.bipush (-2), 2) := by decide +kernel
theorem dX10_least_17 : decode cX10_least 17 = .ok (.istore_n 2, 1) := by decide +kernel
theorem dX10_least_18 : decode cX10_least 18 = .ok (.iconst 0, 1) := by decide +kernel
theorem dX10_least_19 : decode cX10_least 19 = .ok (.istore_n 3, 1) := by decide +kernel
theorem dX10_least_20 : decode cX10_least 20 = .ok (.iload_n 3, 1) := by decide +kernel
theorem dX10_least_21 : decode cX10_least 21 = .ok (.aload_n 0, 1) := by decide +kernel
theorem dX10_least_22 : decode cX10_least 22 = .ok (.getfield 30, 3) := by decide +kernel
theorem dX10_least_25 : decode cX10_least 25 = .ok (.iconst 1, 1) := by decide +kernel
theorem dX10_least_26 : decode cX10_least 26 = .ok (.iaload, 1) := by decide +kernel
theorem dX10_least_27 : decode cX10_least 27 = .ok (.if_icmp .ge 129, 3) := by decide +kernel
theorem dX10_least_30 : decode cX10_least 30 = .ok (.aload_n 0, 1) := by decide +kernel
theorem dX10_least_31 : decode cX10_least 31 = .ok (.iload_n 3, 1) := by decide +kernel
theorem dX10_least_32 : decode cX10_least 32 = .ok (.bipush 6, 2) := by decide +kernel
theorem dX10_least_34 : decode cX10_least 34 = .ok (.invokevirtual 194, 3) := by decide +kernel
theorem dX10_least_37 : decode cX10_least 37 = .ok (.iconst 1, 1) := by decide +kernel
theorem dX10_least_38 : decode cX10_least 38 = .ok (.if_icmp .eq 14, 3) := by decide +kernel
theorem dX10_least_41 : decode cX10_least 41 = .ok (.aload_n 0, 1) := by decide +kernel
theorem dX10_least_42 : decode cX10_least 42 = .ok (.iload_n 3, 1) := by decide +kernel
theorem dX10_least_43 : decode cX10_least 43 = .ok (.bipush 6, 2) := by decide +kernel
theorem dX10_least_45 : decode cX10_least 45 = .ok (.invokevirtual 194, 3) := by decide +kernel
theorem dX10_least_48 : decode cX10_least 48 = .ok (.iconst 2, 1) := by decide +kernel
theorem dX10_least_49 : decode cX10_least 49 = .ok (.if_icmp .ne 7, 3) := by decide +kernel
theorem dX10_least_52 : decode cX10_least 52 = .ok (.iconst 1, 1) := by decide +kernel
theorem dX10_least_53 : decode cX10_least 53 = .ok (.goto 4, 3) := by decide +kernel
theorem dX10_least_56 : decode cX10_least 56 = .ok (.iconst 0, 1) := by decide +kernel
theorem dX10_least_57 : decode cX10_least 57 = .ok (.istore 4, 2) := by decide +kernel
theorem dX10_least_59 : decode cX10_least 59 = .ok (.iload 4, 2) := by decide +kernel
theorem dX10_least_61 : decode cX10_least 61 = .ok (.ifCond .eq 89, 3) := by decide +kernel
theorem dX10_least_64 : decode cX10_least 64 = .ok (.aload_n 0, 1) := by decide +kernel
theorem dX10_least_65 : decode cX10_least 65 = .ok (.iload_n 3, 1) := by decide +kernel
theorem dX10_least_66 : decode cX10_least 66 = .ok (.iconst 4, 1) := by decide +kernel
theorem dX10_least_67 : decode cX10_least 67 = .ok (.invokevirtual 194, 3) := by decide +kernel
theorem dX10_least_70 : decode cX10_least 70 = .ok (.iload_n 1, 1) := by decide +kernel
theorem dX10_least_71 : decode cX10_least 71 = .ok (.if_icmp .ne 79, 3) := by decide +kernel
theorem dX10_least_74 : decode cX10_least 74 = .ok (.aload_n 0, 1) := by decide +kernel
theorem dX10_least_75 : decode cX10_least 75 = .ok (.iload_n 3, 1) := by decide +kernel
theorem dX10_least_76 : decode cX10_least 76 = .ok (.bipush 8, 2) := by decide +kernel
theorem dX10_least_78 : decode cX10_least 78 = .ok (.invokevirtual 194, 3) := by decide +kernel
theorem dX10_least_81 : decode cX10_least 81 = .ok (.aload_n 0, 1) := by decide +kernel
theorem dX10_least_82 : decode cX10_least 82 = .ok (.iload_n 1, 1) := by decide +kernel
theorem dX10_least_83 : decode cX10_least 83 = .ok (.bipush 9, 2) := by decide +kernel
theorem dX10_least_85 : decode cX10_least 85 = .ok (.invokevirtual 184, 3) := by decide +kernel
theorem dX10_least_88 : decode cX10_least 88 = .ok (.if_icmp .ne 62, 3) := by decide +kernel
theorem dX10_least_91 : decode cX10_least 91 = .ok (.aload_n 0, 1) := by decide +kernel
theorem dX10_least_92 : decode cX10_least 92 = .ok (.getfield 30, 3) := by decide +kernel
theorem dX10_least_95 : decode cX10_least 95 = .ok (.iconst 0, 1) := by decide +kernel
theorem dX10_least_96 : decode cX10_least 96 = .ok (.iaload, 1) := by decide +kernel
theorem dX10_least_97 : decode cX10_least 97 = .ok (.aload_n 0, 1) := by decide +kernel
theorem dX10_least_98 : decode cX10_least 98 = .ok (.iload_n 3, 1) := by decide +kernel
theorem dX10_least_99 : decode cX10_least 99 = .ok (.bipush 7, 2) := by decide +kernel
theorem dX10_least_101 : decode cX10_least 101 = .ok (.invokevirtual 194, 3) := by decide +kernel
theorem dX10_least_104 : decode cX10_least 104 = .ok (.isub, 1) := by decide +kernel
theorem dX10_least_105 : decode cX10_least 105 = .ok (.aload_n 0, 1) := by decide +kernel
theorem dX10_least_106 : decode cX10_least 106 = .ok (.invokevirtual 225, 3) := by decide +kernel
theorem dX10_least_109 : decode cX10_least 109 = .ok (.if_icmp .lt 6, 3) := by decide +kernel
theorem dX10_least_112 : decode cX10_least 112 = .ok (.goto 38, 3) := by decide +kernel
theorem dX10_least_115 : decode cX10_least 115 = .ok (.aload_n 0, 1) := by decide +kernel
theorem dX10_least_116 : decode cX10_least 116 = .ok (.iload_n 3, 1) := by decide +kernel
theorem dX10_least_117 : decode cX10_least 117 = .ok (.bipush 7, 2) := by decide +kernel
theorem dX10_least_119 : decode cX10_least 119 = .ok (.invokevirtual 194, 3) := by decide +kernel
theorem dX10_least_122 : decode cX10_least 122 = .ok (.aload_n 0, 1) := by decide +kernel
theorem dX10_least_123 : decode cX10_least 123 = .ok (.iload_n 3, 1) := by decide +kernel
theorem dX10_least_124 : decode cX10_least 124 = .ok (.iconst 3, 1) := by decide +kernel
theorem dX10_least_125 : decode cX10_least 125 = .ok (.invokevirtual 194, 3) := by decide +kernel
theorem dX10_least_128 : decode cX10_least 128 = .ok (.isub, 1) := by decide +kernel
theorem dX10_least_129 : decode cX10_least 129 = .ok (.istore 5, 2) := by decide +kernel
theorem dX10_least_131 : decode cX10_least 131 = .ok (.iload_n 2, 1) := by decide +kernel
theorem dX10_least_132 : decode cX10_least 132 = .ok (.bipush (-2), 2) := by decide +kernel
theorem dX10_least_134 : decode cX10_least 134 = .ok (.if_icmp .eq 9, 3) := by decide +kernel
theorem dX10_least_137 : decode cX10_least 137 = .ok (.iload 5, 2) := by decide +kernel
theorem dX10_least_139 : decode cX10_least 139 = .ok (.iload_n 2, 1) := by decide +kernel
theorem dX10_least_140 : decode cX10_least 140 = .ok (.if_icmp .ge 8, 3) := by decide +kernel
theorem dX10_least_143 : decode cX10_least 143 = .ok (.iload 5, 2) := by decide +kernel
theorem dX10_least_145 : decode cX10_least 145 = .ok (.goto 4, 3) := by decide +kernel
theorem dX10_least_148 : decode cX10_least 148 = .ok (.iload_n 2, 1) := by decide +kernel
theorem dX10_least_149 : decode cX10_least 149 = .ok (.istore_n 2, 1) := by decide +kernel
theorem dX10_least_150 : decode cX10_least 150 = .ok (.iinc 3 1, 3) := by decide +kernel
theorem dX10_least_153 : decode cX10_least 153 = .ok (.goto (-133), 3) := by decide +kernel
theorem dX10_least_156 : decode cX10_least 156 = .ok (.iload_n 2, 1) := by decide +kernel
theorem dX10_least_157 : decode cX10_least 157 = .ok (.ireturn, 1) := by decide +kernel
theorem dX10_rootBy_0 : decode cX10_rootBy 0 = .ok (.aload_n 0, 1) := by decide +kernel
theorem dX10_rootBy_1 : decode cX10_rootBy 1 = .ok (.iconst 0, 1) := by decide +kernel
theorem dX10_rootBy_2 : decode cX10_rootBy 2 = .ok (.putfield 45, 3) := by decide +kernel
theorem dX10_rootBy_5 : decode cX10_rootBy 5 = .ok (.iload_n 1, 1) := by decide +kernel
theorem dX10_rootBy_6 : decode cX10_rootBy 6 = .ok (.invokestatic 312, 3) := by decide +kernel
theorem dX10_rootBy_9 : decode cX10_rootBy 9 = .ok (.ifCond .eq 10, 3) := by decide +kernel
theorem dX10_rootBy_12 : decode cX10_rootBy 12 = .ok (.iload_n 1, 1) := by decide +kernel
theorem dX10_rootBy_13 : decode cX10_rootBy 13 = .ok (.invokestatic 315, 3) := by decide +kernel
theorem dX10_rootBy_16 : decode cX10_rootBy 16 = .ok (.goto 4, 3) := by decide +kernel
theorem dX10_rootBy_19 : decode cX10_rootBy 19 = .ok (.iconst (-1), 1) := by decide +kernel
theorem dX10_rootBy_20 : decode cX10_rootBy 20 = .ok (.ireturn, 1) := by decide +kernel
theorem dX10_flow_0 : decode cX10_flow 0 = .ok (.aload_n 0, 1) := by decide +kernel
theorem dX10_flow_1 : decode cX10_flow 1 = .ok (.iconst 0, 1) := by decide +kernel
theorem dX10_flow_2 : decode cX10_flow 2 = .ok (.putfield 45, 3) := by decide +kernel
theorem dX10_flow_5 : decode cX10_flow 5 = .ok (.iload_n 1, 1) := by decide +kernel
theorem dX10_flow_6 : decode cX10_flow 6 = .ok (.invokestatic 301, 3) := by decide +kernel
theorem dX10_flow_9 : decode cX10_flow 9 = .ok (.ifCond .eq 21, 3) := by decide +kernel
theorem dX10_flow_12 : decode cX10_flow 12 = .ok (.iload_n 2, 1) := by decide +kernel
theorem dX10_flow_13 : decode cX10_flow 13 = .ok (.ifCond .lt 17, 3) := by decide +kernel
theorem dX10_flow_16 : decode cX10_flow 16 = .ok (.iload_n 2, 1) := by decide +kernel
theorem dX10_flow_17 : decode cX10_flow 17 = .ok (.iconst 3, 1) := by decide +kernel
theorem dX10_flow_18 : decode cX10_flow 18 = .ok (.if_icmp .gt 12, 3) := by decide +kernel
theorem dX10_flow_21 : decode cX10_flow 21 = .ok (.aload_n 0, 1) := by decide +kernel
theorem dX10_flow_22 : decode cX10_flow 22 = .ok (.iload_n 1, 1) := by decide +kernel
theorem dX10_flow_23 : decode cX10_flow 23 = .ok (.iload_n 2, 1) := by decide +kernel
theorem dX10_flow_24 : decode cX10_flow 24 = .ok (.invokevirtual 321, 3) := by decide +kernel
theorem dX10_flow_27 : decode cX10_flow 27 = .ok (.goto 4, 3) := by decide +kernel
theorem dX10_flow_30 : decode cX10_flow 30 = .ok (.iconst (-1), 1) := by decide +kernel
theorem dX10_flow_31 : decode cX10_flow 31 = .ok (.ireturn, 1) := by decide +kernel
theorem dX10_uneven_0 : decode cX10_uneven 0 = .ok (.aload_n 0, 1) := by decide +kernel
theorem dX10_uneven_1 : decode cX10_uneven 1 = .ok (.iconst 0, 1) := by decide +kernel
theorem dX10_uneven_2 : decode cX10_uneven 2 = .ok (.putfield 45, 3) := by decide +kernel
theorem dX10_uneven_5 : decode cX10_uneven 5 = .ok (.bipush (-2), 2) := by decide +kernel
theorem dX10_uneven_7 : decode cX10_uneven 7 = .ok (.istore_n 1, 1) := by decide +kernel
theorem dX10_uneven_8 : decode cX10_uneven 8 = .ok (.bipush (-2), 2) := by decide +kernel
theorem dX10_uneven_10 : decode cX10_uneven 10 = .ok (.istore_n 2, 1) := by decide +kernel
theorem dX10_uneven_11 : decode cX10_uneven 11 = .ok (.iconst 0, 1) := by decide +kernel
theorem dX10_uneven_12 : decode cX10_uneven 12 = .ok (.istore_n 3, 1) := by decide +kernel
theorem dX10_uneven_13 : decode cX10_uneven 13 = .ok (.iload_n 3, 1) := by decide +kernel
theorem dX10_uneven_14 : decode cX10_uneven 14 = .ok (.aload_n 0, 1) := by decide +kernel
theorem dX10_uneven_15 : decode cX10_uneven 15 = .ok (.getfield 30, 3) := by decide +kernel
theorem dX10_uneven_18 : decode cX10_uneven 18 = .ok (.iconst 1, 1) := by decide +kernel
theorem dX10_uneven_19 : decode cX10_uneven 19 = .ok (.iaload, 1) := by decide +kernel
theorem dX10_uneven_20 : decode cX10_uneven 20 = .ok (.if_icmp .ge 54, 3) := by decide +kernel
theorem dX10_uneven_23 : decode cX10_uneven 23 = .ok (.aload_n 0, 1) := by decide +kernel
theorem dX10_uneven_24 : decode cX10_uneven 24 = .ok (.aload_n 0, 1) := by decide +kernel
theorem dX10_uneven_25 : decode cX10_uneven 25 = .ok (.iload_n 3, 1) := by decide +kernel
theorem dX10_uneven_26 : decode cX10_uneven 26 = .ok (.iconst 0, 1) := by decide +kernel
theorem dX10_uneven_27 : decode cX10_uneven 27 = .ok (.invokevirtual 194, 3) := by decide +kernel
theorem dX10_uneven_30 : decode cX10_uneven 30 = .ok (.iconst 0, 1) := by decide +kernel
theorem dX10_uneven_31 : decode cX10_uneven 31 = .ok (.invokevirtual 321, 3) := by decide +kernel
theorem dX10_uneven_34 : decode cX10_uneven 34 = .ok (.istore 4, 2) := by decide +kernel
theorem dX10_uneven_36 : decode cX10_uneven 36 = .ok (.iload_n 1, 1) := by decide +kernel
theorem dX10_uneven_37 : decode cX10_uneven 37 = .ok (.bipush (-2), 2) := by decide +kernel
theorem dX10_uneven_39 : decode cX10_uneven 39 = .ok (.if_icmp .eq 9, 3) := by decide +kernel
theorem dX10_uneven_42 : decode cX10_uneven 42 = .ok (.iload 4, 2) := by decide +kernel
theorem dX10_uneven_44 : decode cX10_uneven 44 = .ok (.iload_n 1, 1) := by decide +kernel
theorem dX10_uneven_45 : decode cX10_uneven 45 = .ok (.if_icmp .ge 8, 3) := by decide +kernel
theorem dX10_uneven_48 : decode cX10_uneven 48 = .ok (.iload 4, 2) := by decide +kernel
theorem dX10_uneven_50 : decode cX10_uneven 50 = .ok (.goto 4, 3) := by decide +kernel
theorem dX10_uneven_53 : decode cX10_uneven 53 = .ok (.iload_n 1, 1) := by decide +kernel
theorem dX10_uneven_54 : decode cX10_uneven 54 = .ok (.istore_n 1, 1) := by decide +kernel
theorem dX10_uneven_55 : decode cX10_uneven 55 = .ok (.iload 4, 2) := by decide +kernel
theorem dX10_uneven_57 : decode cX10_uneven 57 = .ok (.iload_n 2, 1) := by decide +kernel
theorem dX10_uneven_58 : decode cX10_uneven 58 = .ok (.if_icmp .le 8, 3) := by decide +kernel
theorem dX10_uneven_61 : decode cX10_uneven 61 = .ok (.iload 4, 2) := by decide +kernel
theorem dX10_uneven_63 : decode cX10_uneven 63 = .ok (.goto 4, 3) := by decide +kernel
theorem dX10_uneven_66 : decode cX10_uneven 66 = .ok (.iload_n 2, 1) := by decide +kernel
theorem dX10_uneven_67 : decode cX10_uneven 67 = .ok (.istore_n 2, 1) := by decide +kernel
theorem dX10_uneven_68 : decode cX10_uneven 68 = .ok (.iinc 3 1, 3) := by decide +kernel
theorem dX10_uneven_71 : decode cX10_uneven 71 = .ok (.goto (-58), 3) := by decide +kernel
theorem dX10_uneven_74 : decode cX10_uneven 74 = .ok (.iload_n 1, 1) := by decide +kernel
theorem dX10_uneven_75 : decode cX10_uneven 75 = .ok (.bipush (-2), 2) := by decide +kernel
theorem dX10_uneven_77 : decode cX10_uneven 77 = .ok (.if_icmp .ne 8, 3) := by decide +kernel
theorem dX10_uneven_80 : decode cX10_uneven 80 = .ok (.bipush (-2), 2) := by decide +kernel
theorem dX10_uneven_82 : decode cX10_uneven 82 = .ok (.goto 6, 3) := by decide +kernel
theorem dX10_uneven_85 : decode cX10_uneven 85 = .ok (.iload_n 2, 1) := by decide +kernel
theorem dX10_uneven_86 : decode cX10_uneven 86 = .ok (.iload_n 1, 1) := by decide +kernel
theorem dX10_uneven_87 : decode cX10_uneven 87 = .ok (.isub, 1) := by decide +kernel
theorem dX10_uneven_88 : decode cX10_uneven 88 = .ok (.ireturn, 1) := by decide +kernel
theorem dX10_within_0 : decode cX10_within 0 = .ok (.aload_n 0, 1) := by decide +kernel
theorem dX10_within_1 : decode cX10_within 1 = .ok (.iconst 0, 1) := by decide +kernel
theorem dX10_within_2 : decode cX10_within 2 = .ok (.putfield 45, 3) := by decide +kernel
theorem dX10_within_5 : decode cX10_within 5 = .ok (.iload_n 1, 1) := by decide +kernel
theorem dX10_within_6 : decode cX10_within 6 = .ok (.ifCond .lt 15, 3) := by decide +kernel
theorem dX10_within_9 : decode cX10_within 9 = .ok (.iload_n 2, 1) := by decide +kernel
theorem dX10_within_10 : decode cX10_within 10 = .ok (.iload_n 1, 1) := by decide +kernel
theorem dX10_within_11 : decode cX10_within 11 = .ok (.if_icmp .lt 10, 3) := by decide +kernel
theorem dX10_within_14 : decode cX10_within 14 = .ok (.iload_n 2, 1) := by decide +kernel
theorem dX10_within_15 : decode cX10_within 15 = .ok (.ldc_w 324, 3) := by decide +kernel
theorem dX10_within_18 : decode cX10_within 18 = .ok (.if_icmp .le 5, 3) := by decide +kernel
theorem dX10_within_21 : decode cX10_within 21 = .ok (.iconst (-1), 1) := by decide +kernel
theorem dX10_within_22 : decode cX10_within 22 = .ok (.ireturn, 1) := by decide +kernel
theorem dX10_within_23 : decode cX10_within 23 = .ok (.iconst 0, 1) := by decide +kernel
theorem dX10_within_24 : decode cX10_within 24 = .ok (.istore_n 3, 1) := by decide +kernel
theorem dX10_within_25 : decode cX10_within 25 = .ok (.iconst 0, 1) := by decide +kernel
theorem dX10_within_26 : decode cX10_within 26 = .ok (.istore 4, 2) := by decide +kernel
theorem dX10_within_28 : decode cX10_within 28 = .ok (.iload 4, 2) := by decide +kernel
theorem dX10_within_30 : decode cX10_within 30 = .ok (.aload_n 0, 1) := by decide +kernel
theorem dX10_within_31 : decode cX10_within 31 = .ok (.getfield 30, 3) := by decide +kernel
theorem dX10_within_34 : decode cX10_within 34 = .ok (.bipush 14, 2) := by decide +kernel
theorem dX10_within_36 : decode cX10_within 36 = .ok (.iaload, 1) := by decide +kernel
theorem dX10_within_37 : decode cX10_within 37 = .ok (.if_icmp .ge 37, 3) := by decide +kernel
theorem dX10_within_40 : decode cX10_within 40 = .ok (.iload_n 3, 1) := by decide +kernel
theorem dX10_within_41 : decode cX10_within 41 = .ok (.aload_n 0, 1) := by decide +kernel
theorem dX10_within_42 : decode cX10_within 42 = .ok (.iload 4, 2) := by decide +kernel
theorem dX10_within_44 : decode cX10_within 44 = .ok (.invokevirtual 325, 3) := by decide +kernel
theorem dX10_within_47 : decode cX10_within 47 = .ok (.iload_n 1, 1) := by decide +kernel
theorem dX10_within_48 : decode cX10_within 48 = .ok (.if_icmp .lt 17, 3) := by decide +kernel
theorem dX10_within_51 : decode cX10_within 51 = .ok (.aload_n 0, 1) := by decide +kernel
theorem dX10_within_52 : decode cX10_within 52 = .ok (.iload 4, 2) := by decide +kernel
theorem dX10_within_54 : decode cX10_within 54 = .ok (.invokevirtual 325, 3) := by decide +kernel
theorem dX10_within_57 : decode cX10_within 57 = .ok (.iload_n 2, 1) := by decide +kernel
theorem dX10_within_58 : decode cX10_within 58 = .ok (.if_icmp .gt 7, 3) := by decide +kernel
theorem dX10_within_61 : decode cX10_within 61 = .ok (.iconst 1, 1) := by decide +kernel
theorem dX10_within_62 : decode cX10_within 62 = .ok (.goto 4, 3) := by decide +kernel
theorem dX10_within_65 : decode cX10_within 65 = .ok (.iconst 0, 1) := by decide +kernel
theorem dX10_within_66 : decode cX10_within 66 = .ok (.iadd, 1) := by decide +kernel
theorem dX10_within_67 : decode cX10_within 67 = .ok (.istore_n 3, 1) := by decide +kernel
theorem dX10_within_68 : decode cX10_within 68 = .ok (.iinc 4 1, 3) := by decide +kernel
theorem dX10_within_71 : decode cX10_within 71 = .ok (.goto (-43), 3) := by decide +kernel
theorem dX10_within_74 : decode cX10_within 74 = .ok (.iload_n 3, 1) := by decide +kernel
theorem dX10_within_75 : decode cX10_within 75 = .ok (.ireturn, 1) := by decide +kernel
theorem dX10_middle_0 : decode cX10_middle 0 = .ok (.aload_n 0, 1) := by decide +kernel
theorem dX10_middle_1 : decode cX10_middle 1 = .ok (.iconst 0, 1) := by decide +kernel
theorem dX10_middle_2 : decode cX10_middle 2 = .ok (.putfield 45, 3) := by decide +kernel
theorem dX10_middle_5 : decode cX10_middle 5 = .ok (.aload_n 0, 1) := by decide +kernel
theorem dX10_middle_6 : decode cX10_middle 6 = .ok (.getfield 30, 3) := by decide +kernel
theorem dX10_middle_9 : decode cX10_middle 9 = .ok (.bipush 14, 2) := by decide +kernel
theorem dX10_middle_11 : decode cX10_middle 11 = .ok (.iaload, 1) := by decide +kernel
theorem dX10_middle_12 : decode cX10_middle 12 = .ok (.istore_n 1, 1) := by decide +kernel
theorem dX10_middle_13 : decode cX10_middle 13 = .ok (.iconst 0, 1) := by decide +kernel
theorem dX10_middle_14 : decode cX10_middle 14 = .ok (.istore_n 2, 1) := by decide +kernel
theorem dX10_middle_15 : decode cX10_middle 15 = .ok (.iload_n 2, 1) := by decide +kernel
theorem dX10_middle_16 : decode cX10_middle 16 = .ok (.iload_n 1, 1) := by decide +kernel
theorem dX10_middle_17 : decode cX10_middle 17 = .ok (.if_icmp .ge 98, 3) := by decide +kernel
theorem dX10_middle_20 : decode cX10_middle 20 = .ok (.iconst 0, 1) := by decide +kernel
theorem dX10_middle_21 : decode cX10_middle 21 = .ok (.istore_n 3, 1) := by decide +kernel
theorem dX10_middle_22 : decode cX10_middle 22 = .ok (.iconst 0, 1) := by decide +kernel
theorem dX10_middle_23 : decode cX10_middle 23 = .ok (.istore 4, 2) := by decide +kernel
theorem dX10_middle_25 : decode cX10_middle 25 = .ok (.iconst 0, 1) := by decide +kernel
theorem dX10_middle_26 : decode cX10_middle 26 = .ok (.istore 5, 2) := by decide +kernel
theorem dX10_middle_28 : decode cX10_middle 28 = .ok (.iload 5, 2) := by decide +kernel
theorem dX10_middle_30 : decode cX10_middle 30 = .ok (.iload_n 1, 1) := by decide +kernel
theorem dX10_middle_31 : decode cX10_middle 31 = .ok (.if_icmp .ge 55, 3) := by decide +kernel
theorem dX10_middle_34 : decode cX10_middle 34 = .ok (.iload_n 3, 1) := by decide +kernel
theorem dX10_middle_35 : decode cX10_middle 35 = .ok (.aload_n 0, 1) := by decide +kernel
theorem dX10_middle_36 : decode cX10_middle 36 = .ok (.iload 5, 2) := by decide +kernel
theorem dX10_middle_38 : decode cX10_middle 38 = .ok (.invokevirtual 325, 3) := by decide +kernel
theorem dX10_middle_41 : decode cX10_middle 41 = .ok (.aload_n 0, 1) := by decide +kernel
theorem dX10_middle_42 : decode cX10_middle 42 = .ok (.iload_n 2, 1) := by decide +kernel
theorem dX10_middle_43 : decode cX10_middle 43 = .ok (.invokevirtual 325, 3) := by decide +kernel
theorem dX10_middle_46 : decode cX10_middle 46 = .ok (.if_icmp .ge 7, 3) := by decide +kernel
theorem dX10_middle_49 : decode cX10_middle 49 = .ok (.iconst 1, 1) := by decide +kernel
theorem dX10_middle_50 : decode cX10_middle 50 = .ok (.goto 4, 3) := by decide +kernel
theorem dX10_middle_53 : decode cX10_middle 53 = .ok (.iconst 0, 1) := by decide +kernel
theorem dX10_middle_54 : decode cX10_middle 54 = .ok (.iadd, 1) := by decide +kernel
theorem dX10_middle_55 : decode cX10_middle 55 = .ok (.istore_n 3, 1) := by decide +kernel
theorem dX10_middle_56 : decode cX10_middle 56 = .ok (.iload 4, 2) := by decide +kernel
theorem dX10_middle_58 : decode cX10_middle 58 = .ok (.aload_n 0, 1) := by decide +kernel
theorem dX10_middle_59 : decode cX10_middle 59 = .ok (.iload 5, 2) := by decide +kernel
theorem dX10_middle_61 : decode cX10_middle 61 = .ok (.invokevirtual 325, 3) := by decide +kernel
theorem dX10_middle_64 : decode cX10_middle 64 = .ok (.aload_n 0, 1) := by decide +kernel
theorem dX10_middle_65 : decode cX10_middle 65 = .ok (.iload_n 2, 1) := by decide +kernel
theorem dX10_middle_66 : decode cX10_middle 66 = .ok (.invokevirtual 325, 3) := by decide +kernel
theorem dX10_middle_69 : decode cX10_middle 69 = .ok (.if_icmp .ne 7, 3) := by decide +kernel
theorem dX10_middle_72 : decode cX10_middle 72 = .ok (.iconst 1, 1) := by decide +kernel
theorem dX10_middle_73 : decode cX10_middle 73 = .ok (.goto 4, 3) := by decide +kernel
theorem dX10_middle_76 : decode cX10_middle 76 = .ok (.iconst 0, 1) := by decide +kernel
theorem dX10_middle_77 : decode cX10_middle 77 = .ok (.iadd, 1) := by decide +kernel
theorem dX10_middle_78 : decode cX10_middle 78 = .ok (.istore 4, 2) := by decide +kernel
theorem dX10_middle_80 : decode cX10_middle 80 = .ok (.iinc 5 1, 3) := by decide +kernel
theorem dX10_middle_83 : decode cX10_middle 83 = .ok (.goto (-55), 3) := by decide +kernel
theorem dX10_middle_86 : decode cX10_middle 86 = .ok (.iload_n 3, 1) := by decide +kernel
theorem dX10_middle_87 : decode cX10_middle 87 = .ok (.iload_n 1, 1) := by decide +kernel
theorem dX10_middle_88 : decode cX10_middle 88 = .ok (.iconst 2, 1) := by decide +kernel
theorem dX10_middle_89 : decode cX10_middle 89 = .ok (.idiv, 1) := by decide +kernel
theorem dX10_middle_90 : decode cX10_middle 90 = .ok (.if_icmp .gt 19, 3) := by decide +kernel
theorem dX10_middle_93 : decode cX10_middle 93 = .ok (.iload_n 1, 1) := by decide +kernel
theorem dX10_middle_94 : decode cX10_middle 94 = .ok (.iconst 2, 1) := by decide +kernel
theorem dX10_middle_95 : decode cX10_middle 95 = .ok (.idiv, 1) := by decide +kernel
theorem dX10_middle_96 : decode cX10_middle 96 = .ok (.iload_n 3, 1) := by decide +kernel
theorem dX10_middle_97 : decode cX10_middle 97 = .ok (.iload 4, 2) := by decide +kernel
theorem dX10_middle_99 : decode cX10_middle 99 = .ok (.iadd, 1) := by decide +kernel
theorem dX10_middle_100 : decode cX10_middle 100 = .ok (.if_icmp .ge 9, 3) := by decide +kernel
theorem dX10_middle_103 : decode cX10_middle 103 = .ok (.aload_n 0, 1) := by decide +kernel
theorem dX10_middle_104 : decode cX10_middle 104 = .ok (.iload_n 2, 1) := by decide +kernel
theorem dX10_middle_105 : decode cX10_middle 105 = .ok (.invokevirtual 325, 3) := by decide +kernel
theorem dX10_middle_108 : decode cX10_middle 108 = .ok (.ireturn, 1) := by decide +kernel
theorem dX10_middle_109 : decode cX10_middle 109 = .ok (.iinc 2 1, 3) := by decide +kernel
theorem dX10_middle_112 : decode cX10_middle 112 = .ok (.goto (-97), 3) := by decide +kernel
theorem dX10_middle_115 : decode cX10_middle 115 = .ok (.bipush (-2), 2) := by decide +kernel
theorem dX10_middle_117 : decode cX10_middle 117 = .ok (.ireturn, 1) := by decide +kernel
theorem dX10_eldest_0 : decode cX10_eldest 0 = .ok (.aload_n 0, 1) := by decide +kernel
theorem dX10_eldest_1 : decode cX10_eldest 1 = .ok (.iconst 0, 1) := by decide +kernel
theorem dX10_eldest_2 : decode cX10_eldest 2 = .ok (.putfield 45, 3) := by decide +kernel
theorem dX10_eldest_5 : decode cX10_eldest 5 = .ok (.aload_n 0, 1) := by decide +kernel
theorem dX10_eldest_6 : decode cX10_eldest 6 = .ok (.iload_n 1, 1) := by decide +kernel
theorem dX10_eldest_7 : decode cX10_eldest 7 = .ok (.invokevirtual 304, 3) := by decide +kernel
theorem dX10_eldest_10 : decode cX10_eldest 10 = .ok (.ifCond .eq 12, 3) := by decide +kernel
theorem dX10_eldest_13 : decode cX10_eldest 13 = .ok (.iload_n 2, 1) := by decide +kernel
theorem dX10_eldest_14 : decode cX10_eldest 14 = .ok (.ifCond .lt 8, 3) := by decide +kernel
theorem dX10_eldest_17 : decode cX10_eldest 17 = .ok (.iload_n 2, 1) := by decide +kernel
theorem dX10_eldest_18 : decode cX10_eldest 18 = .ok (.iconst 1, 1) := by decide +kernel
theorem dX10_eldest_19 : decode cX10_eldest 19 = .ok (.if_icmp .le 5, 3) := by decide +kernel
theorem dX10_eldest_22 : decode cX10_eldest 22 = .ok (.iconst (-1), 1) := by decide +kernel
theorem dX10_eldest_23 : decode cX10_eldest 23 = .ok (.ireturn, 1) := by decide +kernel
theorem dX10_eldest_24 : decode cX10_eldest 24 = .ok (.aload_n 0, 1) := by decide +kernel
theorem dX10_eldest_25 : decode cX10_eldest 25 = .ok (.iload_n 1, 1) := by decide +kernel
theorem dX10_eldest_26 : decode cX10_eldest 26 = .ok (.invokevirtual 212, 3) := by decide +kernel
theorem dX10_eldest_29 : decode cX10_eldest 29 = .ok (.istore_n 3, 1) := by decide +kernel
theorem dX10_eldest_30 : decode cX10_eldest 30 = .ok (.iload_n 3, 1) := by decide +kernel
theorem dX10_eldest_31 : decode cX10_eldest 31 = .ok (.iconst (-1), 1) := by decide +kernel
theorem dX10_eldest_32 : decode cX10_eldest 32 = .ok (.if_icmp .ne 8, 3) := by decide +kernel
theorem dX10_eldest_35 : decode cX10_eldest 35 = .ok (.bipush (-2), 2) := by decide +kernel
theorem dX10_eldest_37 : decode cX10_eldest 37 = .ok (.goto 24, 3) := by decide +kernel
theorem dX10_eldest_40 : decode cX10_eldest 40 = .ok (.iload_n 2, 1) := by decide +kernel
theorem dX10_eldest_41 : decode cX10_eldest 41 = .ok (.ifCond .ne 19, 3) := by decide +kernel
theorem dX10_eldest_44 : decode cX10_eldest 44 = .ok (.aload_n 0, 1) := by decide +kernel
theorem dX10_eldest_45 : decode cX10_eldest 45 = .ok (.getfield 30, 3) := by decide +kernel
theorem dX10_eldest_48 : decode cX10_eldest 48 = .ok (.iconst 0, 1) := by decide +kernel
theorem dX10_eldest_49 : decode cX10_eldest 49 = .ok (.iaload, 1) := by decide +kernel
theorem dX10_eldest_50 : decode cX10_eldest 50 = .ok (.aload_n 0, 1) := by decide +kernel
theorem dX10_eldest_51 : decode cX10_eldest 51 = .ok (.iload_n 3, 1) := by decide +kernel
theorem dX10_eldest_52 : decode cX10_eldest 52 = .ok (.iconst 3, 1) := by decide +kernel
theorem dX10_eldest_53 : decode cX10_eldest 53 = .ok (.invokevirtual 194, 3) := by decide +kernel
theorem dX10_eldest_56 : decode cX10_eldest 56 = .ok (.isub, 1) := by decide +kernel
theorem dX10_eldest_57 : decode cX10_eldest 57 = .ok (.goto 4, 3) := by decide +kernel
theorem dX10_eldest_60 : decode cX10_eldest 60 = .ok (.iload_n 3, 1) := by decide +kernel
theorem dX10_eldest_61 : decode cX10_eldest 61 = .ok (.ireturn, 1) := by decide +kernel
theorem dX10_count_0 : decode cX10_count 0 = .ok (.aload_n 0, 1) := by decide +kernel
theorem dX10_count_1 : decode cX10_count 1 = .ok (.iconst 0, 1) := by decide +kernel
theorem dX10_count_2 : decode cX10_count 2 = .ok (.putfield 45, 3) := by decide +kernel
theorem dX10_count_5 : decode cX10_count 5 = .ok (.iload_n 1, 1) := by decide +kernel
theorem dX10_count_6 : decode cX10_count 6 = .ok (.iconst 4, 1) := by decide +kernel
theorem dX10_count_7 : decode cX10_count 7 = .ok (.if_icmp .lt 21, 3) := by decide +kernel
theorem dX10_count_10 : decode cX10_count 10 = .ok (.iload_n 1, 1) := by decide +kernel
theorem dX10_count_11 : decode cX10_count 11 = .ok (.bipush 7, 2) := by decide +kernel
theorem dX10_count_13 : decode cX10_count 13 = .ok (.if_icmp .gt 15, 3) := by decide +kernel
theorem dX10_count_16 : decode cX10_count 16 = .ok (.aload_n 0, 1) := by decide +kernel
theorem dX10_count_17 : decode cX10_count 17 = .ok (.getfield 30, 3) := by decide +kernel
theorem dX10_count_20 : decode cX10_count 20 = .ok (.bipush 14, 2) := by decide +kernel
theorem dX10_count_22 : decode cX10_count 22 = .ok (.iload_n 1, 1) := by decide +kernel
theorem dX10_count_23 : decode cX10_count 23 = .ok (.iadd, 1) := by decide +kernel
theorem dX10_count_24 : decode cX10_count 24 = .ok (.iconst 4, 1) := by decide +kernel
theorem dX10_count_25 : decode cX10_count 25 = .ok (.isub, 1) := by decide +kernel
theorem dX10_count_26 : decode cX10_count 26 = .ok (.iaload, 1) := by decide +kernel
theorem dX10_count_27 : decode cX10_count 27 = .ok (.ireturn, 1) := by decide +kernel
theorem dX10_count_28 : decode cX10_count 28 = .ok (.iload_n 1, 1) := by decide +kernel
theorem dX10_count_29 : decode cX10_count 29 = .ok (.bipush 11, 2) := by decide +kernel
theorem dX10_count_31 : decode cX10_count 31 = .ok (.if_icmp .lt 21, 3) := by decide +kernel
theorem dX10_count_34 : decode cX10_count 34 = .ok (.iload_n 1, 1) := by decide +kernel
theorem dX10_count_35 : decode cX10_count 35 = .ok (.bipush 15, 2) := by decide +kernel
theorem dX10_count_37 : decode cX10_count 37 = .ok (.if_icmp .gt 15, 3) := by decide +kernel
theorem dX10_count_40 : decode cX10_count 40 = .ok (.aload_n 0, 1) := by decide +kernel
theorem dX10_count_41 : decode cX10_count 41 = .ok (.getfield 30, 3) := by decide +kernel
theorem dX10_count_44 : decode cX10_count 44 = .ok (.iconst 4, 1) := by decide +kernel
theorem dX10_count_45 : decode cX10_count 45 = .ok (.iload_n 1, 1) := by decide +kernel
theorem dX10_count_46 : decode cX10_count 46 = .ok (.iadd, 1) := by decide +kernel
theorem dX10_count_47 : decode cX10_count 47 = .ok (.bipush 11, 2) := by decide +kernel
theorem dX10_count_49 : decode cX10_count 49 = .ok (.isub, 1) := by decide +kernel
theorem dX10_count_50 : decode cX10_count 50 = .ok (.iaload, 1) := by decide +kernel
theorem dX10_count_51 : decode cX10_count 51 = .ok (.ireturn, 1) := by decide +kernel
theorem dX10_count_52 : decode cX10_count 52 = .ok (.iload_n 1, 1) := by decide +kernel
theorem dX10_count_53 : decode cX10_count 53 = .ok (.tableswitch 169 0 19 #[95, 102, 109, 116, 169, 169, 169, 169, 121, 126, 131, 169, 169, 169, 169, 169, 138, 143, 151, 160], 95) := by decide +kernel
theorem dX10_count_148 : decode cX10_count 148 = .ok (.aload_n 0, 1) := by decide +kernel
theorem dX10_count_149 : decode cX10_count 149 = .ok (.getfield 30, 3) := by decide +kernel
theorem dX10_count_152 : decode cX10_count 152 = .ok (.iconst 0, 1) := by decide +kernel
theorem dX10_count_153 : decode cX10_count 153 = .ok (.iaload, 1) := by decide +kernel
theorem dX10_count_154 : decode cX10_count 154 = .ok (.ireturn, 1) := by decide +kernel
theorem dX10_count_155 : decode cX10_count 155 = .ok (.aload_n 0, 1) := by decide +kernel
theorem dX10_count_156 : decode cX10_count 156 = .ok (.getfield 30, 3) := by decide +kernel
theorem dX10_count_159 : decode cX10_count 159 = .ok (.iconst 1, 1) := by decide +kernel
theorem dX10_count_160 : decode cX10_count 160 = .ok (.iaload, 1) := by decide +kernel
theorem dX10_count_161 : decode cX10_count 161 = .ok (.ireturn, 1) := by decide +kernel
theorem dX10_count_162 : decode cX10_count 162 = .ok (.aload_n 0, 1) := by decide +kernel
theorem dX10_count_163 : decode cX10_count 163 = .ok (.getfield 30, 3) := by decide +kernel
theorem dX10_count_166 : decode cX10_count 166 = .ok (.iconst 2, 1) := by decide +kernel
theorem dX10_count_167 : decode cX10_count 167 = .ok (.iaload, 1) := by decide +kernel
theorem dX10_count_168 : decode cX10_count 168 = .ok (.ireturn, 1) := by decide +kernel
theorem dX10_count_169 : decode cX10_count 169 = .ok (.aload_n 0, 1) := by decide +kernel
theorem dX10_count_170 : decode cX10_count 170 = .ok (.invokevirtual 337, 3) := by decide +kernel
theorem dX10_count_173 : decode cX10_count 173 = .ok (.ireturn, 1) := by decide +kernel
theorem dX10_count_174 : decode cX10_count 174 = .ok (.aload_n 0, 1) := by decide +kernel
theorem dX10_count_175 : decode cX10_count 175 = .ok (.invokevirtual 209, 3) := by decide +kernel
theorem dX10_count_178 : decode cX10_count 178 = .ok (.ireturn, 1) := by decide +kernel
theorem dX10_count_179 : decode cX10_count 179 = .ok (.aload_n 0, 1) := by decide +kernel
theorem dX10_count_180 : decode cX10_count 180 = .ok (.invokevirtual 340, 3) := by decide +kernel
theorem dX10_count_183 : decode cX10_count 183 = .ok (.ireturn, 1) := by decide +kernel
theorem dX10_count_184 : decode cX10_count 184 = .ok (.aload_n 0, 1) := by decide +kernel
theorem dX10_count_185 : decode cX10_count 185 = .ok (.getfield 30, 3) := by decide +kernel
theorem dX10_count_188 : decode cX10_count 188 = .ok (.iconst 3, 1) := by decide +kernel
theorem dX10_count_189 : decode cX10_count 189 = .ok (.iaload, 1) := by decide +kernel
theorem dX10_count_190 : decode cX10_count 190 = .ok (.ireturn, 1) := by decide +kernel
theorem dX10_count_191 : decode cX10_count 191 = .ok (.aload_n 0, 1) := by decide +kernel
theorem dX10_count_192 : decode cX10_count 192 = .ok (.getfield 48, 3) := by decide +kernel
theorem dX10_count_195 : decode cX10_count 195 = .ok (.ireturn, 1) := by decide +kernel
theorem dX10_count_196 : decode cX10_count 196 = .ok (.aload_n 0, 1) := by decide +kernel
theorem dX10_count_197 : decode cX10_count 197 = .ok (.getfield 30, 3) := by decide +kernel
theorem dX10_count_200 : decode cX10_count 200 = .ok (.bipush 9, 2) := by decide +kernel
theorem dX10_count_202 : decode cX10_count 202 = .ok (.iaload, 1) := by decide +kernel
theorem dX10_count_203 : decode cX10_count 203 = .ok (.ireturn, 1) := by decide +kernel
theorem dX10_count_204 : decode cX10_count 204 = .ok (.aload_n 0, 1) := by decide +kernel
theorem dX10_count_205 : decode cX10_count 205 = .ok (.getfield 30, 3) := by decide +kernel
theorem dX10_count_208 : decode cX10_count 208 = .ok (.sipush 3476, 3) := by decide +kernel
theorem dX10_count_211 : decode cX10_count 211 = .ok (.iaload, 1) := by decide +kernel
theorem dX10_count_212 : decode cX10_count 212 = .ok (.ireturn, 1) := by decide +kernel
theorem dX10_count_213 : decode cX10_count 213 = .ok (.aload_n 0, 1) := by decide +kernel
theorem dX10_count_214 : decode cX10_count 214 = .ok (.getfield 30, 3) := by decide +kernel
theorem dX10_count_217 : decode cX10_count 217 = .ok (.sipush 3477, 3) := by decide +kernel
theorem dX10_count_220 : decode cX10_count 220 = .ok (.iaload, 1) := by decide +kernel
theorem dX10_count_221 : decode cX10_count 221 = .ok (.ireturn, 1) := by decide +kernel
theorem dX10_count_222 : decode cX10_count 222 = .ok (.iconst (-1), 1) := by decide +kernel
theorem dX10_count_223 : decode cX10_count 223 = .ok (.ireturn, 1) := by decide +kernel
theorem dX10_comesIn_0 : decode cX10_comesIn 0 = .ok (.aload_n 0, 1) := by decide +kernel
theorem dX10_comesIn_1 : decode cX10_comesIn 1 = .ok (.iload_n 1, 1) := by decide +kernel
theorem dX10_comesIn_2 : decode cX10_comesIn 2 = .ok (.invokevirtual 200, 3) := by decide +kernel
theorem dX10_comesIn_5 : decode cX10_comesIn 5 = .ok (.istore 4, 2) := by decide +kernel
theorem dX10_comesIn_7 : decode cX10_comesIn 7 = .ok (.aload_n 0, 1) := by decide +kernel
theorem dX10_comesIn_8 : decode cX10_comesIn 8 = .ok (.iload 4, 2) := by decide +kernel
theorem dX10_comesIn_10 : decode cX10_comesIn 10 = .ok (.iconst 2, 1) := by decide +kernel
theorem dX10_comesIn_11 : decode cX10_comesIn 11 = .ok (.invokevirtual 184, 3) := by decide +kernel
theorem dX10_comesIn_14 : decode cX10_comesIn 14 = .ok (.ifCond .ne 10, 3) := by decide +kernel
theorem dX10_comesIn_17 : decode cX10_comesIn 17 = .ok (.aload_n 0, 1) := by decide +kernel
theorem dX10_comesIn_18 : decode cX10_comesIn 18 = .ok (.iload 4, 2) := by decide +kernel
theorem dX10_comesIn_20 : decode cX10_comesIn 20 = .ok (.iload_n 1, 1) := by decide +kernel
theorem dX10_comesIn_21 : decode cX10_comesIn 21 = .ok (.invokevirtual 203, 3) := by decide +kernel
theorem dX10_comesIn_24 : decode cX10_comesIn 24 = .ok (.aload_n 0, 1) := by decide +kernel
theorem dX10_comesIn_25 : decode cX10_comesIn 25 = .ok (.getfield 30, 3) := by decide +kernel
theorem dX10_comesIn_28 : decode cX10_comesIn 28 = .ok (.iconst 1, 1) := by decide +kernel
theorem dX10_comesIn_29 : decode cX10_comesIn 29 = .ok (.iaload, 1) := by decide +kernel
theorem dX10_comesIn_30 : decode cX10_comesIn 30 = .ok (.istore 5, 2) := by decide +kernel
theorem dX10_comesIn_32 : decode cX10_comesIn 32 = .ok (.aload_n 0, 1) := by decide +kernel
theorem dX10_comesIn_33 : decode cX10_comesIn 33 = .ok (.iload 5, 2) := by decide +kernel
theorem dX10_comesIn_35 : decode cX10_comesIn 35 = .ok (.bipush 9, 2) := by decide +kernel
theorem dX10_comesIn_37 : decode cX10_comesIn 37 = .ok (.aload_n 0, 1) := by decide +kernel
theorem dX10_comesIn_38 : decode cX10_comesIn 38 = .ok (.iload 4, 2) := by decide +kernel
theorem dX10_comesIn_40 : decode cX10_comesIn 40 = .ok (.iconst 0, 1) := by decide +kernel
theorem dX10_comesIn_41 : decode cX10_comesIn 41 = .ok (.invokevirtual 184, 3) := by decide +kernel
theorem dX10_comesIn_44 : decode cX10_comesIn 44 = .ok (.iload_n 1, 1) := by decide +kernel
theorem dX10_comesIn_45 : decode cX10_comesIn 45 = .ok (.if_icmp .ne 7, 3) := by decide +kernel
theorem dX10_comesIn_48 : decode cX10_comesIn 48 = .ok (.iconst 0, 1) := by decide +kernel
theorem dX10_comesIn_49 : decode cX10_comesIn 49 = .ok (.goto 4, 3) := by decide +kernel
theorem dX10_comesIn_52 : decode cX10_comesIn 52 = .ok (.iconst 1, 1) := by decide +kernel
theorem dX10_comesIn_53 : decode cX10_comesIn 53 = .ok (.invokevirtual 197, 3) := by decide +kernel
theorem dX10_comesIn_56 : decode cX10_comesIn 56 = .ok (.aload_n 0, 1) := by decide +kernel
theorem dX10_comesIn_57 : decode cX10_comesIn 57 = .ok (.iload 5, 2) := by decide +kernel
theorem dX10_comesIn_59 : decode cX10_comesIn 59 = .ok (.bipush 10, 2) := by decide +kernel
theorem dX10_comesIn_61 : decode cX10_comesIn 61 = .ok (.aload_n 0, 1) := by decide +kernel
theorem dX10_comesIn_62 : decode cX10_comesIn 62 = .ok (.getfield 36, 3) := by decide +kernel
theorem dX10_comesIn_65 : decode cX10_comesIn 65 = .ok (.invokevirtual 197, 3) := by decide +kernel
theorem dX10_comesIn_68 : decode cX10_comesIn 68 = .ok (.aload_n 0, 1) := by decide +kernel
theorem dX10_comesIn_69 : decode cX10_comesIn 69 = .ok (.iload 5, 2) := by decide +kernel
theorem dX10_comesIn_71 : decode cX10_comesIn 71 = .ok (.bipush 11, 2) := by decide +kernel
theorem dX10_comesIn_73 : decode cX10_comesIn 73 = .ok (.iconst 0, 1) := by decide +kernel
theorem dX10_comesIn_74 : decode cX10_comesIn 74 = .ok (.invokevirtual 197, 3) := by decide +kernel
theorem dX10_comesIn_77 : decode cX10_comesIn 77 = .ok (.aload_n 0, 1) := by decide +kernel
theorem dX10_comesIn_78 : decode cX10_comesIn 78 = .ok (.iload 5, 2) := by decide +kernel
theorem dX10_comesIn_80 : decode cX10_comesIn 80 = .ok (.iconst 0, 1) := by decide +kernel
theorem dX10_comesIn_81 : decode cX10_comesIn 81 = .ok (.iload_n 1, 1) := by decide +kernel
theorem dX10_comesIn_82 : decode cX10_comesIn 82 = .ok (.invokevirtual 197, 3) := by decide +kernel
theorem dX10_comesIn_85 : decode cX10_comesIn 85 = .ok (.aload_n 0, 1) := by decide +kernel
theorem dX10_comesIn_86 : decode cX10_comesIn 86 = .ok (.iload 5, 2) := by decide +kernel
theorem dX10_comesIn_88 : decode cX10_comesIn 88 = .ok (.iconst 1, 1) := by decide +kernel
theorem dX10_comesIn_89 : decode cX10_comesIn 89 = .ok (.iload_n 2, 1) := by decide +kernel
theorem dX10_comesIn_90 : decode cX10_comesIn 90 = .ok (.invokevirtual 197, 3) := by decide +kernel
theorem dX10_comesIn_93 : decode cX10_comesIn 93 = .ok (.aload_n 0, 1) := by decide +kernel
theorem dX10_comesIn_94 : decode cX10_comesIn 94 = .ok (.iload 5, 2) := by decide +kernel
theorem dX10_comesIn_96 : decode cX10_comesIn 96 = .ok (.iconst 2, 1) := by decide +kernel
theorem dX10_comesIn_97 : decode cX10_comesIn 97 = .ok (.iload_n 3, 1) := by decide +kernel
theorem dX10_comesIn_98 : decode cX10_comesIn 98 = .ok (.invokevirtual 197, 3) := by decide +kernel
theorem dX10_comesIn_101 : decode cX10_comesIn 101 = .ok (.aload_n 0, 1) := by decide +kernel
theorem dX10_comesIn_102 : decode cX10_comesIn 102 = .ok (.iload 5, 2) := by decide +kernel
theorem dX10_comesIn_104 : decode cX10_comesIn 104 = .ok (.iconst 3, 1) := by decide +kernel
theorem dX10_comesIn_105 : decode cX10_comesIn 105 = .ok (.aload_n 0, 1) := by decide +kernel
theorem dX10_comesIn_106 : decode cX10_comesIn 106 = .ok (.getfield 30, 3) := by decide +kernel
theorem dX10_comesIn_109 : decode cX10_comesIn 109 = .ok (.iconst 0, 1) := by decide +kernel
theorem dX10_comesIn_110 : decode cX10_comesIn 110 = .ok (.iaload, 1) := by decide +kernel
theorem dX10_comesIn_111 : decode cX10_comesIn 111 = .ok (.invokevirtual 197, 3) := by decide +kernel
theorem dX10_comesIn_114 : decode cX10_comesIn 114 = .ok (.aload_n 0, 1) := by decide +kernel
theorem dX10_comesIn_115 : decode cX10_comesIn 115 = .ok (.iload 5, 2) := by decide +kernel
theorem dX10_comesIn_117 : decode cX10_comesIn 117 = .ok (.iconst 4, 1) := by decide +kernel
theorem dX10_comesIn_118 : decode cX10_comesIn 118 = .ok (.iload 4, 2) := by decide +kernel
theorem dX10_comesIn_120 : decode cX10_comesIn 120 = .ok (.invokevirtual 197, 3) := by decide +kernel
theorem dX10_comesIn_123 : decode cX10_comesIn 123 = .ok (.aload_n 0, 1) := by decide +kernel
theorem dX10_comesIn_124 : decode cX10_comesIn 124 = .ok (.iload 5, 2) := by decide +kernel
theorem dX10_comesIn_126 : decode cX10_comesIn 126 = .ok (.bipush 7, 2) := by decide +kernel
theorem dX10_comesIn_128 : decode cX10_comesIn 128 = .ok (.bipush (-2), 2) := by decide +kernel
theorem dX10_comesIn_130 : decode cX10_comesIn 130 = .ok (.invokevirtual 197, 3) := by decide +kernel
theorem dX10_comesIn_133 : decode cX10_comesIn 133 = .ok (.aload_n 0, 1) := by decide +kernel
theorem dX10_comesIn_134 : decode cX10_comesIn 134 = .ok (.iload 5, 2) := by decide +kernel
theorem dX10_comesIn_136 : decode cX10_comesIn 136 = .ok (.bipush 8, 2) := by decide +kernel
theorem dX10_comesIn_138 : decode cX10_comesIn 138 = .ok (.aload_n 0, 1) := by decide +kernel
theorem dX10_comesIn_139 : decode cX10_comesIn 139 = .ok (.iload 4, 2) := by decide +kernel
theorem dX10_comesIn_141 : decode cX10_comesIn 141 = .ok (.bipush 9, 2) := by decide +kernel
theorem dX10_comesIn_143 : decode cX10_comesIn 143 = .ok (.invokevirtual 184, 3) := by decide +kernel
theorem dX10_comesIn_146 : decode cX10_comesIn 146 = .ok (.invokevirtual 197, 3) := by decide +kernel
theorem dX10_comesIn_149 : decode cX10_comesIn 149 = .ok (.aload_n 0, 1) := by decide +kernel
theorem dX10_comesIn_150 : decode cX10_comesIn 150 = .ok (.getfield 30, 3) := by decide +kernel
theorem dX10_comesIn_153 : decode cX10_comesIn 153 = .ok (.iconst 1, 1) := by decide +kernel
theorem dX10_comesIn_154 : decode cX10_comesIn 154 = .ok (.dup2, 1) := by decide +kernel
theorem dX10_comesIn_155 : decode cX10_comesIn 155 = .ok (.iaload, 1) := by decide +kernel
theorem dX10_comesIn_156 : decode cX10_comesIn 156 = .ok (.iconst 1, 1) := by decide +kernel
theorem dX10_comesIn_157 : decode cX10_comesIn 157 = .ok (.iadd, 1) := by decide +kernel
theorem dX10_comesIn_158 : decode cX10_comesIn 158 = .ok (.iastore, 1) := by decide +kernel
theorem dX10_comesIn_159 : decode cX10_comesIn 159 = .ok (.aload_n 0, 1) := by decide +kernel
theorem dX10_comesIn_160 : decode cX10_comesIn 160 = .ok (.getfield 30, 3) := by decide +kernel
theorem dX10_comesIn_163 : decode cX10_comesIn 163 = .ok (.iconst 2, 1) := by decide +kernel
theorem dX10_comesIn_164 : decode cX10_comesIn 164 = .ok (.dup2, 1) := by decide +kernel
theorem dX10_comesIn_165 : decode cX10_comesIn 165 = .ok (.iaload, 1) := by decide +kernel
theorem dX10_comesIn_166 : decode cX10_comesIn 166 = .ok (.iconst 1, 1) := by decide +kernel
theorem dX10_comesIn_167 : decode cX10_comesIn 167 = .ok (.iadd, 1) := by decide +kernel
theorem dX10_comesIn_168 : decode cX10_comesIn 168 = .ok (.iastore, 1) := by decide +kernel
theorem dX10_comesIn_169 : decode cX10_comesIn 169 = .ok (.aload_n 0, 1) := by decide +kernel
theorem dX10_comesIn_170 : decode cX10_comesIn 170 = .ok (.iload 4, 2) := by decide +kernel
theorem dX10_comesIn_172 : decode cX10_comesIn 172 = .ok (.bipush 12, 2) := by decide +kernel
theorem dX10_comesIn_174 : decode cX10_comesIn 174 = .ok (.aload_n 0, 1) := by decide +kernel
theorem dX10_comesIn_175 : decode cX10_comesIn 175 = .ok (.iload 4, 2) := by decide +kernel
theorem dX10_comesIn_177 : decode cX10_comesIn 177 = .ok (.bipush 12, 2) := by decide +kernel
theorem dX10_comesIn_179 : decode cX10_comesIn 179 = .ok (.invokevirtual 184, 3) := by decide +kernel
theorem dX10_comesIn_182 : decode cX10_comesIn 182 = .ok (.iload_n 2, 1) := by decide +kernel
theorem dX10_comesIn_183 : decode cX10_comesIn 183 = .ok (.iadd, 1) := by decide +kernel
theorem dX10_comesIn_184 : decode cX10_comesIn 184 = .ok (.invokevirtual 165, 3) := by decide +kernel
theorem dX10_comesIn_187 : decode cX10_comesIn 187 = .ok (.aload_n 0, 1) := by decide +kernel
theorem dX10_comesIn_188 : decode cX10_comesIn 188 = .ok (.getfield 30, 3) := by decide +kernel
theorem dX10_comesIn_191 : decode cX10_comesIn 191 = .ok (.sipush 3476, 3) := by decide +kernel
theorem dX10_comesIn_194 : decode cX10_comesIn 194 = .ok (.aload_n 0, 1) := by decide +kernel
theorem dX10_comesIn_195 : decode cX10_comesIn 195 = .ok (.getfield 30, 3) := by decide +kernel
theorem dX10_comesIn_198 : decode cX10_comesIn 198 = .ok (.iconst 2, 1) := by decide +kernel
theorem dX10_comesIn_199 : decode cX10_comesIn 199 = .ok (.iaload, 1) := by decide +kernel
theorem dX10_comesIn_200 : decode cX10_comesIn 200 = .ok (.aload_n 0, 1) := by decide +kernel
theorem dX10_comesIn_201 : decode cX10_comesIn 201 = .ok (.getfield 30, 3) := by decide +kernel
theorem dX10_comesIn_204 : decode cX10_comesIn 204 = .ok (.sipush 3476, 3) := by decide +kernel
theorem dX10_comesIn_207 : decode cX10_comesIn 207 = .ok (.iaload, 1) := by decide +kernel
theorem dX10_comesIn_208 : decode cX10_comesIn 208 = .ok (.if_icmp .le 12, 3) := by decide +kernel
theorem dX10_comesIn_211 : decode cX10_comesIn 211 = .ok (.aload_n 0, 1) := by decide +kernel
theorem dX10_comesIn_212 : decode cX10_comesIn 212 = .ok (.getfield 30, 3) := by decide +kernel
theorem dX10_comesIn_215 : decode cX10_comesIn 215 = .ok (.iconst 2, 1) := by decide +kernel
theorem dX10_comesIn_216 : decode cX10_comesIn 216 = .ok (.iaload, 1) := by decide +kernel
theorem dX10_comesIn_217 : decode cX10_comesIn 217 = .ok (.goto 11, 3) := by decide +kernel
theorem dX10_comesIn_220 : decode cX10_comesIn 220 = .ok (.aload_n 0, 1) := by decide +kernel
theorem dX10_comesIn_221 : decode cX10_comesIn 221 = .ok (.getfield 30, 3) := by decide +kernel
theorem dX10_comesIn_224 : decode cX10_comesIn 224 = .ok (.sipush 3476, 3) := by decide +kernel
theorem dX10_comesIn_227 : decode cX10_comesIn 227 = .ok (.iaload, 1) := by decide +kernel
theorem dX10_comesIn_228 : decode cX10_comesIn 228 = .ok (.iastore, 1) := by decide +kernel
theorem dX10_comesIn_229 : decode cX10_comesIn 229 = .ok (.aload_n 0, 1) := by decide +kernel
theorem dX10_comesIn_230 : decode cX10_comesIn 230 = .ok (.getfield 30, 3) := by decide +kernel
theorem dX10_comesIn_233 : decode cX10_comesIn 233 = .ok (.iconst 2, 1) := by decide +kernel
theorem dX10_comesIn_234 : decode cX10_comesIn 234 = .ok (.iaload, 1) := by decide +kernel
theorem dX10_comesIn_235 : decode cX10_comesIn 235 = .ok (.aload_n 0, 1) := by decide +kernel
theorem dX10_comesIn_236 : decode cX10_comesIn 236 = .ok (.getfield 30, 3) := by decide +kernel
theorem dX10_comesIn_239 : decode cX10_comesIn 239 = .ok (.bipush 7, 2) := by decide +kernel
theorem dX10_comesIn_241 : decode cX10_comesIn 241 = .ok (.iaload, 1) := by decide +kernel
theorem dX10_comesIn_242 : decode cX10_comesIn 242 = .ok (.if_icmp .le 7, 3) := by decide +kernel
theorem dX10_comesIn_245 : decode cX10_comesIn 245 = .ok (.aload_n 0, 1) := by decide +kernel
theorem dX10_comesIn_246 : decode cX10_comesIn 246 = .ok (.invokevirtual 206, 3) := by decide +kernel
theorem dX10_comesIn_249 : decode cX10_comesIn 249 = .ok (.iload 5, 2) := by decide +kernel
theorem dX10_comesIn_251 : decode cX10_comesIn 251 = .ok (.ireturn, 1) := by decide +kernel
theorem dX10_dropsOn_0 : decode cX10_dropsOn 0 = .ok (.iload_n 2, 1) := by decide +kernel
theorem dX10_dropsOn_1 : decode cX10_dropsOn 1 = .ok (.istore_n 3, 1) := by decide +kernel
theorem dX10_dropsOn_2 : decode cX10_dropsOn 2 = .ok (.aload_n 0, 1) := by decide +kernel
theorem dX10_dropsOn_3 : decode cX10_dropsOn 3 = .ok (.iload_n 1, 1) := by decide +kernel
theorem dX10_dropsOn_4 : decode cX10_dropsOn 4 = .ok (.iconst 5, 1) := by decide +kernel
theorem dX10_dropsOn_5 : decode cX10_dropsOn 5 = .ok (.invokevirtual 184, 3) := by decide +kernel
theorem dX10_dropsOn_8 : decode cX10_dropsOn 8 = .ok (.iconst 1, 1) := by decide +kernel
theorem dX10_dropsOn_9 : decode cX10_dropsOn 9 = .ok (.if_icmp .ne 145, 3) := by decide +kernel
theorem dX10_dropsOn_12 : decode cX10_dropsOn 12 = .ok (.aload_n 0, 1) := by decide +kernel
theorem dX10_dropsOn_13 : decode cX10_dropsOn 13 = .ok (.getfield 30, 3) := by decide +kernel
theorem dX10_dropsOn_16 : decode cX10_dropsOn 16 = .ok (.iconst 0, 1) := by decide +kernel
theorem dX10_dropsOn_17 : decode cX10_dropsOn 17 = .ok (.iaload, 1) := by decide +kernel
theorem dX10_dropsOn_18 : decode cX10_dropsOn 18 = .ok (.aload_n 0, 1) := by decide +kernel
theorem dX10_dropsOn_19 : decode cX10_dropsOn 19 = .ok (.iload_n 1, 1) := by decide +kernel
theorem dX10_dropsOn_20 : decode cX10_dropsOn 20 = .ok (.bipush 6, 2) := by decide +kernel
theorem dX10_dropsOn_22 : decode cX10_dropsOn 22 = .ok (.invokevirtual 184, 3) := by decide +kernel
theorem dX10_dropsOn_25 : decode cX10_dropsOn 25 = .ok (.if_icmp .lt 129, 3) := by decide +kernel
theorem dX10_dropsOn_28 : decode cX10_dropsOn 28 = .ok (.aload_n 0, 1) := by decide +kernel
theorem dX10_dropsOn_29 : decode cX10_dropsOn 29 = .ok (.iload_n 1, 1) := by decide +kernel
theorem dX10_dropsOn_30 : decode cX10_dropsOn 30 = .ok (.iconst 3, 1) := by decide +kernel
theorem dX10_dropsOn_31 : decode cX10_dropsOn 31 = .ok (.aload_n 0, 1) := by decide +kernel
theorem dX10_dropsOn_32 : decode cX10_dropsOn 32 = .ok (.iload_n 1, 1) := by decide +kernel
theorem dX10_dropsOn_33 : decode cX10_dropsOn 33 = .ok (.iconst 3, 1) := by decide +kernel
theorem dX10_dropsOn_34 : decode cX10_dropsOn 34 = .ok (.invokevirtual 184, 3) := by decide +kernel
theorem dX10_dropsOn_37 : decode cX10_dropsOn 37 = .ok (.sipush 999, 3) := by decide +kernel
theorem dX10_dropsOn_40 : decode cX10_dropsOn 40 = .ok (.if_icmp .ge 14, 3) := by decide +kernel
theorem dX10_dropsOn_43 : decode cX10_dropsOn 43 = .ok (.aload_n 0, 1) := by decide +kernel
theorem dX10_dropsOn_44 : decode cX10_dropsOn 44 = .ok (.iload_n 1, 1) := by decide +kernel
theorem dX10_dropsOn_45 : decode cX10_dropsOn 45 = .ok (.iconst 3, 1) := by decide +kernel
theorem dX10_dropsOn_46 : decode cX10_dropsOn 46 = .ok (.invokevirtual 184, 3) := by decide +kernel
theorem dX10_dropsOn_49 : decode cX10_dropsOn 49 = .ok (.iconst 1, 1) := by decide +kernel
theorem dX10_dropsOn_50 : decode cX10_dropsOn 50 = .ok (.iadd, 1) := by decide +kernel
theorem dX10_dropsOn_51 : decode cX10_dropsOn 51 = .ok (.goto 6, 3) := by decide +kernel
theorem dX10_dropsOn_54 : decode cX10_dropsOn 54 = .ok (.sipush 999, 3) := by decide +kernel
theorem dX10_dropsOn_57 : decode cX10_dropsOn 57 = .ok (.invokevirtual 165, 3) := by decide +kernel
theorem dX10_dropsOn_60 : decode cX10_dropsOn 60 = .ok (.aload_n 0, 1) := by decide +kernel
theorem dX10_dropsOn_61 : decode cX10_dropsOn 61 = .ok (.iload_n 1, 1) := by decide +kernel
theorem dX10_dropsOn_62 : decode cX10_dropsOn 62 = .ok (.invokevirtual 242, 3) := by decide +kernel
theorem dX10_dropsOn_65 : decode cX10_dropsOn 65 = .ok (.aload_n 0, 1) := by decide +kernel
theorem dX10_dropsOn_66 : decode cX10_dropsOn 66 = .ok (.iload_n 3, 1) := by decide +kernel
theorem dX10_dropsOn_67 : decode cX10_dropsOn 67 = .ok (.iconst 2, 1) := by decide +kernel
theorem dX10_dropsOn_68 : decode cX10_dropsOn 68 = .ok (.invokevirtual 194, 3) := by decide +kernel
theorem dX10_dropsOn_71 : decode cX10_dropsOn 71 = .ok (.iconst 1, 1) := by decide +kernel
theorem dX10_dropsOn_72 : decode cX10_dropsOn 72 = .ok (.if_icmp .ne 29, 3) := by decide +kernel
theorem dX10_dropsOn_75 : decode cX10_dropsOn 75 = .ok (.aload_n 0, 1) := by decide +kernel
theorem dX10_dropsOn_76 : decode cX10_dropsOn 76 = .ok (.iload_n 3, 1) := by decide +kernel
theorem dX10_dropsOn_77 : decode cX10_dropsOn 77 = .ok (.invokevirtual 245, 3) := by decide +kernel
theorem dX10_dropsOn_80 : decode cX10_dropsOn 80 = .ok (.aload_n 0, 1) := by decide +kernel
theorem dX10_dropsOn_81 : decode cX10_dropsOn 81 = .ok (.iload_n 1, 1) := by decide +kernel
theorem dX10_dropsOn_82 : decode cX10_dropsOn 82 = .ok (.bipush 6, 2) := by decide +kernel
theorem dX10_dropsOn_84 : decode cX10_dropsOn 84 = .ok (.aload_n 0, 1) := by decide +kernel
theorem dX10_dropsOn_85 : decode cX10_dropsOn 85 = .ok (.iload_n 1, 1) := by decide +kernel
theorem dX10_dropsOn_86 : decode cX10_dropsOn 86 = .ok (.aload_n 0, 1) := by decide +kernel
theorem dX10_dropsOn_87 : decode cX10_dropsOn 87 = .ok (.iload_n 1, 1) := by decide +kernel
theorem dX10_dropsOn_88 : decode cX10_dropsOn 88 = .ok (.bipush 6, 2) := by decide +kernel
theorem dX10_dropsOn_90 : decode cX10_dropsOn 90 = .ok (.invokevirtual 184, 3) := by decide +kernel
theorem dX10_dropsOn_93 : decode cX10_dropsOn 93 = .ok (.invokevirtual 248, 3) := by decide +kernel
theorem dX10_dropsOn_96 : decode cX10_dropsOn 96 = .ok (.invokevirtual 165, 3) := by decide +kernel
theorem dX10_dropsOn_99 : decode cX10_dropsOn 99 = .ok (.iload_n 3, 1) := by decide +kernel
theorem dX10_dropsOn_100 : decode cX10_dropsOn 100 = .ok (.ireturn, 1) := by decide +kernel
theorem dX10_dropsOn_101 : decode cX10_dropsOn 101 = .ok (.aload_n 0, 1) := by decide +kernel
theorem dX10_dropsOn_102 : decode cX10_dropsOn 102 = .ok (.iload_n 3, 1) := by decide +kernel
theorem dX10_dropsOn_103 : decode cX10_dropsOn 103 = .ok (.invokevirtual 251, 3) := by decide +kernel
theorem dX10_dropsOn_106 : decode cX10_dropsOn 106 = .ok (.aload_n 0, 1) := by decide +kernel
theorem dX10_dropsOn_107 : decode cX10_dropsOn 107 = .ok (.iload_n 1, 1) := by decide +kernel
theorem dX10_dropsOn_108 : decode cX10_dropsOn 108 = .ok (.invokevirtual 254, 3) := by decide +kernel
theorem dX10_dropsOn_111 : decode cX10_dropsOn 111 = .ok (.istore_n 3, 1) := by decide +kernel
theorem dX10_dropsOn_112 : decode cX10_dropsOn 112 = .ok (.aload_n 0, 1) := by decide +kernel
theorem dX10_dropsOn_113 : decode cX10_dropsOn 113 = .ok (.iload_n 1, 1) := by decide +kernel
theorem dX10_dropsOn_114 : decode cX10_dropsOn 114 = .ok (.bipush 11, 2) := by decide +kernel
theorem dX10_dropsOn_116 : decode cX10_dropsOn 116 = .ok (.invokevirtual 184, 3) := by decide +kernel
theorem dX10_dropsOn_119 : decode cX10_dropsOn 119 = .ok (.ifCond .ne 13, 3) := by decide +kernel
theorem dX10_dropsOn_122 : decode cX10_dropsOn 122 = .ok (.aload_n 0, 1) := by decide +kernel
theorem dX10_dropsOn_123 : decode cX10_dropsOn 123 = .ok (.iload_n 1, 1) := by decide +kernel
theorem dX10_dropsOn_124 : decode cX10_dropsOn 124 = .ok (.iconst 5, 1) := by decide +kernel
theorem dX10_dropsOn_125 : decode cX10_dropsOn 125 = .ok (.iconst 0, 1) := by decide +kernel
theorem dX10_dropsOn_126 : decode cX10_dropsOn 126 = .ok (.invokevirtual 165, 3) := by decide +kernel
theorem dX10_dropsOn_129 : decode cX10_dropsOn 129 = .ok (.goto (-127), 3) := by decide +kernel
theorem dX10_dropsOn_132 : decode cX10_dropsOn 132 = .ok (.aload_n 0, 1) := by decide +kernel
theorem dX10_dropsOn_133 : decode cX10_dropsOn 133 = .ok (.iload_n 1, 1) := by decide +kernel
theorem dX10_dropsOn_134 : decode cX10_dropsOn 134 = .ok (.bipush 6, 2) := by decide +kernel
theorem dX10_dropsOn_136 : decode cX10_dropsOn 136 = .ok (.aload_n 0, 1) := by decide +kernel
theorem dX10_dropsOn_137 : decode cX10_dropsOn 137 = .ok (.iload_n 1, 1) := by decide +kernel
theorem dX10_dropsOn_138 : decode cX10_dropsOn 138 = .ok (.aload_n 0, 1) := by decide +kernel
theorem dX10_dropsOn_139 : decode cX10_dropsOn 139 = .ok (.iload_n 1, 1) := by decide +kernel
theorem dX10_dropsOn_140 : decode cX10_dropsOn 140 = .ok (.bipush 6, 2) := by decide +kernel
theorem dX10_dropsOn_142 : decode cX10_dropsOn 142 = .ok (.invokevirtual 184, 3) := by decide +kernel
theorem dX10_dropsOn_145 : decode cX10_dropsOn 145 = .ok (.invokevirtual 248, 3) := by decide +kernel
theorem dX10_dropsOn_148 : decode cX10_dropsOn 148 = .ok (.invokevirtual 165, 3) := by decide +kernel
theorem dX10_dropsOn_151 : decode cX10_dropsOn 151 = .ok (.goto (-149), 3) := by decide +kernel
theorem dX10_dropsOn_154 : decode cX10_dropsOn 154 = .ok (.iload_n 3, 1) := by decide +kernel
theorem dX10_dropsOn_155 : decode cX10_dropsOn 155 = .ok (.ireturn, 1) := by decide +kernel
theorem dX10_dropsFirst_0 : decode cX10_dropsFirst 0 = .ok (.iload_n 2, 1) := by decide +kernel
theorem dX10_dropsFirst_1 : decode cX10_dropsFirst 1 = .ok (.istore_n 3, 1) := by decide +kernel
theorem dX10_dropsFirst_2 : decode cX10_dropsFirst 2 = .ok (.aload_n 0, 1) := by decide +kernel
theorem dX10_dropsFirst_3 : decode cX10_dropsFirst 3 = .ok (.iload_n 3, 1) := by decide +kernel
theorem dX10_dropsFirst_4 : decode cX10_dropsFirst 4 = .ok (.iconst 2, 1) := by decide +kernel
theorem dX10_dropsFirst_5 : decode cX10_dropsFirst 5 = .ok (.invokevirtual 194, 3) := by decide +kernel
theorem dX10_dropsFirst_8 : decode cX10_dropsFirst 8 = .ok (.iconst 1, 1) := by decide +kernel
theorem dX10_dropsFirst_9 : decode cX10_dropsFirst 9 = .ok (.if_icmp .ne 11, 3) := by decide +kernel
theorem dX10_dropsFirst_12 : decode cX10_dropsFirst 12 = .ok (.aload_n 0, 1) := by decide +kernel
theorem dX10_dropsFirst_13 : decode cX10_dropsFirst 13 = .ok (.iload_n 3, 1) := by decide +kernel
theorem dX10_dropsFirst_14 : decode cX10_dropsFirst 14 = .ok (.invokevirtual 245, 3) := by decide +kernel
theorem dX10_dropsFirst_17 : decode cX10_dropsFirst 17 = .ok (.goto 14, 3) := by decide +kernel
theorem dX10_dropsFirst_20 : decode cX10_dropsFirst 20 = .ok (.aload_n 0, 1) := by decide +kernel
theorem dX10_dropsFirst_21 : decode cX10_dropsFirst 21 = .ok (.iload_n 3, 1) := by decide +kernel
theorem dX10_dropsFirst_22 : decode cX10_dropsFirst 22 = .ok (.invokevirtual 251, 3) := by decide +kernel
theorem dX10_dropsFirst_25 : decode cX10_dropsFirst 25 = .ok (.aload_n 0, 1) := by decide +kernel
theorem dX10_dropsFirst_26 : decode cX10_dropsFirst 26 = .ok (.iload_n 1, 1) := by decide +kernel
theorem dX10_dropsFirst_27 : decode cX10_dropsFirst 27 = .ok (.invokevirtual 254, 3) := by decide +kernel
theorem dX10_dropsFirst_30 : decode cX10_dropsFirst 30 = .ok (.istore_n 3, 1) := by decide +kernel
theorem dX10_dropsFirst_31 : decode cX10_dropsFirst 31 = .ok (.aload_n 0, 1) := by decide +kernel
theorem dX10_dropsFirst_32 : decode cX10_dropsFirst 32 = .ok (.iload_n 1, 1) := by decide +kernel
theorem dX10_dropsFirst_33 : decode cX10_dropsFirst 33 = .ok (.iconst 5, 1) := by decide +kernel
theorem dX10_dropsFirst_34 : decode cX10_dropsFirst 34 = .ok (.iconst 1, 1) := by decide +kernel
theorem dX10_dropsFirst_35 : decode cX10_dropsFirst 35 = .ok (.invokevirtual 165, 3) := by decide +kernel
theorem dX10_dropsFirst_38 : decode cX10_dropsFirst 38 = .ok (.aload_n 0, 1) := by decide +kernel
theorem dX10_dropsFirst_39 : decode cX10_dropsFirst 39 = .ok (.iload_n 1, 1) := by decide +kernel
theorem dX10_dropsFirst_40 : decode cX10_dropsFirst 40 = .ok (.iconst 3, 1) := by decide +kernel
theorem dX10_dropsFirst_41 : decode cX10_dropsFirst 41 = .ok (.invokevirtual 184, 3) := by decide +kernel
theorem dX10_dropsFirst_44 : decode cX10_dropsFirst 44 = .ok (.aload_n 0, 1) := by decide +kernel
theorem dX10_dropsFirst_45 : decode cX10_dropsFirst 45 = .ok (.iload_n 1, 1) := by decide +kernel
theorem dX10_dropsFirst_46 : decode cX10_dropsFirst 46 = .ok (.iconst 4, 1) := by decide +kernel
theorem dX10_dropsFirst_47 : decode cX10_dropsFirst 47 = .ok (.invokevirtual 184, 3) := by decide +kernel
theorem dX10_dropsFirst_50 : decode cX10_dropsFirst 50 = .ok (.isub, 1) := by decide +kernel
theorem dX10_dropsFirst_51 : decode cX10_dropsFirst 51 = .ok (.istore 4, 2) := by decide +kernel
theorem dX10_dropsFirst_53 : decode cX10_dropsFirst 53 = .ok (.iload 4, 2) := by decide +kernel
theorem dX10_dropsFirst_55 : decode cX10_dropsFirst 55 = .ok (.iconst 1, 1) := by decide +kernel
theorem dX10_dropsFirst_56 : decode cX10_dropsFirst 56 = .ok (.if_icmp .le 43, 3) := by decide +kernel
theorem dX10_dropsFirst_59 : decode cX10_dropsFirst 59 = .ok (.aload_n 0, 1) := by decide +kernel
theorem dX10_dropsFirst_60 : decode cX10_dropsFirst 60 = .ok (.getfield 30, 3) := by decide +kernel
theorem dX10_dropsFirst_63 : decode cX10_dropsFirst 63 = .ok (.iconst 0, 1) := by decide +kernel
theorem dX10_dropsFirst_64 : decode cX10_dropsFirst 64 = .ok (.iaload, 1) := by decide +kernel
theorem dX10_dropsFirst_65 : decode cX10_dropsFirst 65 = .ok (.aload_n 0, 1) := by decide +kernel
theorem dX10_dropsFirst_66 : decode cX10_dropsFirst 66 = .ok (.iload_n 1, 1) := by decide +kernel
theorem dX10_dropsFirst_67 : decode cX10_dropsFirst 67 = .ok (.bipush 6, 2) := by decide +kernel
theorem dX10_dropsFirst_69 : decode cX10_dropsFirst 69 = .ok (.invokevirtual 184, 3) := by decide +kernel
theorem dX10_dropsFirst_72 : decode cX10_dropsFirst 72 = .ok (.isub, 1) := by decide +kernel
theorem dX10_dropsFirst_73 : decode cX10_dropsFirst 73 = .ok (.bipush 16, 2) := by decide +kernel
theorem dX10_dropsFirst_75 : decode cX10_dropsFirst 75 = .ok (.aload_n 0, 1) := by decide +kernel
theorem dX10_dropsFirst_76 : decode cX10_dropsFirst 76 = .ok (.invokevirtual 225, 3) := by decide +kernel
theorem dX10_dropsFirst_79 : decode cX10_dropsFirst 79 = .ok (.imul, 1) := by decide +kernel
theorem dX10_dropsFirst_80 : decode cX10_dropsFirst 80 = .ok (.if_icmp .ge 19, 3) := by decide +kernel
theorem dX10_dropsFirst_83 : decode cX10_dropsFirst 83 = .ok (.aload_n 0, 1) := by decide +kernel
theorem dX10_dropsFirst_84 : decode cX10_dropsFirst 84 = .ok (.iload_n 1, 1) := by decide +kernel
theorem dX10_dropsFirst_85 : decode cX10_dropsFirst 85 = .ok (.iconst 3, 1) := by decide +kernel
theorem dX10_dropsFirst_86 : decode cX10_dropsFirst 86 = .ok (.iload 4, 2) := by decide +kernel
theorem dX10_dropsFirst_88 : decode cX10_dropsFirst 88 = .ok (.invokevirtual 165, 3) := by decide +kernel
theorem dX10_dropsFirst_91 : decode cX10_dropsFirst 91 = .ok (.aload_n 0, 1) := by decide +kernel
theorem dX10_dropsFirst_92 : decode cX10_dropsFirst 92 = .ok (.iload_n 1, 1) := by decide +kernel
theorem dX10_dropsFirst_93 : decode cX10_dropsFirst 93 = .ok (.invokevirtual 242, 3) := by decide +kernel
theorem dX10_dropsFirst_96 : decode cX10_dropsFirst 96 = .ok (.goto 19, 3) := by decide +kernel
theorem dX10_dropsFirst_99 : decode cX10_dropsFirst 99 = .ok (.aload_n 0, 1) := by decide +kernel
theorem dX10_dropsFirst_100 : decode cX10_dropsFirst 100 = .ok (.iload_n 1, 1) := by decide +kernel
theorem dX10_dropsFirst_101 : decode cX10_dropsFirst 101 = .ok (.iconst 3, 1) := by decide +kernel
theorem dX10_dropsFirst_102 : decode cX10_dropsFirst 102 = .ok (.iconst 1, 1) := by decide +kernel
theorem dX10_dropsFirst_103 : decode cX10_dropsFirst 103 = .ok (.invokevirtual 165, 3) := by decide +kernel
theorem dX10_dropsFirst_106 : decode cX10_dropsFirst 106 = .ok (.aload_n 0, 1) := by decide +kernel
theorem dX10_dropsFirst_107 : decode cX10_dropsFirst 107 = .ok (.iload_n 1, 1) := by decide +kernel
theorem dX10_dropsFirst_108 : decode cX10_dropsFirst 108 = .ok (.bipush 8, 2) := by decide +kernel
theorem dX10_dropsFirst_110 : decode cX10_dropsFirst 110 = .ok (.ldc 169, 2) := by decide +kernel
theorem dX10_dropsFirst_112 : decode cX10_dropsFirst 112 = .ok (.invokevirtual 165, 3) := by decide +kernel
theorem dX10_dropsFirst_115 : decode cX10_dropsFirst 115 = .ok (.aload_n 0, 1) := by decide +kernel
theorem dX10_dropsFirst_116 : decode cX10_dropsFirst 116 = .ok (.iload_n 1, 1) := by decide +kernel
theorem dX10_dropsFirst_117 : decode cX10_dropsFirst 117 = .ok (.iconst 4, 1) := by decide +kernel
theorem dX10_dropsFirst_118 : decode cX10_dropsFirst 118 = .ok (.aload_n 0, 1) := by decide +kernel
theorem dX10_dropsFirst_119 : decode cX10_dropsFirst 119 = .ok (.iload_n 1, 1) := by decide +kernel
theorem dX10_dropsFirst_120 : decode cX10_dropsFirst 120 = .ok (.iconst 3, 1) := by decide +kernel
theorem dX10_dropsFirst_121 : decode cX10_dropsFirst 121 = .ok (.invokevirtual 184, 3) := by decide +kernel
theorem dX10_dropsFirst_124 : decode cX10_dropsFirst 124 = .ok (.invokevirtual 165, 3) := by decide +kernel
theorem dX10_dropsFirst_127 : decode cX10_dropsFirst 127 = .ok (.aload_n 0, 1) := by decide +kernel
theorem dX10_dropsFirst_128 : decode cX10_dropsFirst 128 = .ok (.iload_n 1, 1) := by decide +kernel
theorem dX10_dropsFirst_129 : decode cX10_dropsFirst 129 = .ok (.bipush 6, 2) := by decide +kernel
theorem dX10_dropsFirst_131 : decode cX10_dropsFirst 131 = .ok (.aload_n 0, 1) := by decide +kernel
theorem dX10_dropsFirst_132 : decode cX10_dropsFirst 132 = .ok (.iload_n 1, 1) := by decide +kernel
theorem dX10_dropsFirst_133 : decode cX10_dropsFirst 133 = .ok (.aload_n 0, 1) := by decide +kernel
theorem dX10_dropsFirst_134 : decode cX10_dropsFirst 134 = .ok (.getfield 30, 3) := by decide +kernel
theorem dX10_dropsFirst_137 : decode cX10_dropsFirst 137 = .ok (.iconst 0, 1) := by decide +kernel
theorem dX10_dropsFirst_138 : decode cX10_dropsFirst 138 = .ok (.iaload, 1) := by decide +kernel
theorem dX10_dropsFirst_139 : decode cX10_dropsFirst 139 = .ok (.invokevirtual 248, 3) := by decide +kernel
theorem dX10_dropsFirst_142 : decode cX10_dropsFirst 142 = .ok (.invokevirtual 165, 3) := by decide +kernel
theorem dX10_dropsFirst_145 : decode cX10_dropsFirst 145 = .ok (.iload_n 3, 1) := by decide +kernel
theorem dX10_dropsFirst_146 : decode cX10_dropsFirst 146 = .ok (.ireturn, 1) := by decide +kernel
theorem dX10_keeps_0 : decode cX10_keeps 0 = .ok (.aload_n 0, 1) := by decide +kernel
theorem dX10_keeps_1 : decode cX10_keeps 1 = .ok (.iload_n 1, 1) := by decide +kernel
theorem dX10_keeps_2 : decode cX10_keeps 2 = .ok (.invokevirtual 254, 3) := by decide +kernel
theorem dX10_keeps_5 : decode cX10_keeps 5 = .ok (.istore_n 2, 1) := by decide +kernel
theorem dX10_keeps_6 : decode cX10_keeps 6 = .ok (.aload_n 0, 1) := by decide +kernel
theorem dX10_keeps_7 : decode cX10_keeps 7 = .ok (.iload_n 1, 1) := by decide +kernel
theorem dX10_keeps_8 : decode cX10_keeps 8 = .ok (.iconst 5, 1) := by decide +kernel
theorem dX10_keeps_9 : decode cX10_keeps 9 = .ok (.invokevirtual 184, 3) := by decide +kernel
theorem dX10_keeps_12 : decode cX10_keeps 12 = .ok (.iconst 1, 1) := by decide +kernel
theorem dX10_keeps_13 : decode cX10_keeps 13 = .ok (.if_icmp .ne 29, 3) := by decide +kernel
theorem dX10_keeps_16 : decode cX10_keeps 16 = .ok (.aload_n 0, 1) := by decide +kernel
theorem dX10_keeps_17 : decode cX10_keeps 17 = .ok (.iload_n 1, 1) := by decide +kernel
theorem dX10_keeps_18 : decode cX10_keeps 18 = .ok (.bipush 11, 2) := by decide +kernel
theorem dX10_keeps_20 : decode cX10_keeps 20 = .ok (.invokevirtual 184, 3) := by decide +kernel
theorem dX10_keeps_23 : decode cX10_keeps 23 = .ok (.ifCond .ne 12, 3) := by decide +kernel
theorem dX10_keeps_26 : decode cX10_keeps 26 = .ok (.aload_n 0, 1) := by decide +kernel
theorem dX10_keeps_27 : decode cX10_keeps 27 = .ok (.iload_n 1, 1) := by decide +kernel
theorem dX10_keeps_28 : decode cX10_keeps 28 = .ok (.iconst 5, 1) := by decide +kernel
theorem dX10_keeps_29 : decode cX10_keeps 29 = .ok (.iconst 0, 1) := by decide +kernel
theorem dX10_keeps_30 : decode cX10_keeps 30 = .ok (.invokevirtual 165, 3) := by decide +kernel
theorem dX10_keeps_33 : decode cX10_keeps 33 = .ok (.iload_n 2, 1) := by decide +kernel
theorem dX10_keeps_34 : decode cX10_keeps 34 = .ok (.ireturn, 1) := by decide +kernel
theorem dX10_keeps_35 : decode cX10_keeps 35 = .ok (.aload_n 0, 1) := by decide +kernel
theorem dX10_keeps_36 : decode cX10_keeps 36 = .ok (.iload_n 1, 1) := by decide +kernel
theorem dX10_keeps_37 : decode cX10_keeps 37 = .ok (.iload_n 2, 1) := by decide +kernel
theorem dX10_keeps_38 : decode cX10_keeps 38 = .ok (.invokevirtual 257, 3) := by decide +kernel
theorem dX10_keeps_41 : decode cX10_keeps 41 = .ok (.ireturn, 1) := by decide +kernel
theorem dX10_keeps_42 : decode cX10_keeps 42 = .ok (.aload_n 0, 1) := by decide +kernel
theorem dX10_keeps_43 : decode cX10_keeps 43 = .ok (.iload_n 1, 1) := by decide +kernel
theorem dX10_keeps_44 : decode cX10_keeps 44 = .ok (.bipush 11, 2) := by decide +kernel
theorem dX10_keeps_46 : decode cX10_keeps 46 = .ok (.invokevirtual 184, 3) := by decide +kernel
theorem dX10_keeps_49 : decode cX10_keeps 49 = .ok (.iconst 1, 1) := by decide +kernel
theorem dX10_keeps_50 : decode cX10_keeps 50 = .ok (.if_icmp .ne 12, 3) := by decide +kernel
theorem dX10_keeps_53 : decode cX10_keeps 53 = .ok (.aload_n 0, 1) := by decide +kernel
theorem dX10_keeps_54 : decode cX10_keeps 54 = .ok (.iload_n 1, 1) := by decide +kernel
theorem dX10_keeps_55 : decode cX10_keeps 55 = .ok (.iload_n 2, 1) := by decide +kernel
theorem dX10_keeps_56 : decode cX10_keeps 56 = .ok (.invokevirtual 260, 3) := by decide +kernel
theorem dX10_keeps_59 : decode cX10_keeps 59 = .ok (.goto 4, 3) := by decide +kernel
theorem dX10_keeps_62 : decode cX10_keeps 62 = .ok (.iload_n 2, 1) := by decide +kernel
theorem dX10_keeps_63 : decode cX10_keeps 63 = .ok (.ireturn, 1) := by decide +kernel
theorem dX10_come_0 : decode cX10_come 0 = .ok (.aload_n 0, 1) := by decide +kernel
theorem dX10_come_1 : decode cX10_come 1 = .ok (.iconst 0, 1) := by decide +kernel
theorem dX10_come_2 : decode cX10_come 2 = .ok (.putfield 45, 3) := by decide +kernel
theorem dX10_come_5 : decode cX10_come 5 = .ok (.iload_n 1, 1) := by decide +kernel
theorem dX10_come_6 : decode cX10_come 6 = .ok (.ifCond .lt 31, 3) := by decide +kernel
theorem dX10_come_9 : decode cX10_come 9 = .ok (.iload_n 1, 1) := by decide +kernel
theorem dX10_come_10 : decode cX10_come 10 = .ok (.sipush 9999, 3) := by decide +kernel
theorem dX10_come_13 : decode cX10_come 13 = .ok (.if_icmp .gt 24, 3) := by decide +kernel
theorem dX10_come_16 : decode cX10_come 16 = .ok (.iload_n 2, 1) := by decide +kernel
theorem dX10_come_17 : decode cX10_come 17 = .ok (.iconst 1, 1) := by decide +kernel
theorem dX10_come_18 : decode cX10_come 18 = .ok (.if_icmp .lt 19, 3) := by decide +kernel
theorem dX10_come_21 : decode cX10_come 21 = .ok (.iload_n 2, 1) := by decide +kernel
theorem dX10_come_22 : decode cX10_come 22 = .ok (.sipush 1500, 3) := by decide +kernel
theorem dX10_come_25 : decode cX10_come 25 = .ok (.if_icmp .gt 12, 3) := by decide +kernel
theorem dX10_come_28 : decode cX10_come 28 = .ok (.iload_n 3, 1) := by decide +kernel
theorem dX10_come_29 : decode cX10_come 29 = .ok (.ifCond .lt 8, 3) := by decide +kernel
theorem dX10_come_32 : decode cX10_come 32 = .ok (.iload_n 3, 1) := by decide +kernel
theorem dX10_come_33 : decode cX10_come 33 = .ok (.iconst 1, 1) := by decide +kernel
theorem dX10_come_34 : decode cX10_come 34 = .ok (.if_icmp .le 5, 3) := by decide +kernel
theorem dX10_come_37 : decode cX10_come 37 = .ok (.iconst (-1), 1) := by decide +kernel
theorem dX10_come_38 : decode cX10_come 38 = .ok (.ireturn, 1) := by decide +kernel
theorem dX10_come_39 : decode cX10_come 39 = .ok (.aload_n 0, 1) := by decide +kernel
theorem dX10_come_40 : decode cX10_come 40 = .ok (.getfield 30, 3) := by decide +kernel
theorem dX10_come_43 : decode cX10_come 43 = .ok (.iconst 1, 1) := by decide +kernel
theorem dX10_come_44 : decode cX10_come 44 = .ok (.iaload, 1) := by decide +kernel
theorem dX10_come_45 : decode cX10_come 45 = .ok (.sipush 200, 3) := by decide +kernel
theorem dX10_come_48 : decode cX10_come 48 = .ok (.if_icmp .ne 8, 3) := by decide +kernel
theorem dX10_come_51 : decode cX10_come 51 = .ok (.bipush (-2), 2) := by decide +kernel
theorem dX10_come_53 : decode cX10_come 53 = .ok (.goto 10, 3) := by decide +kernel
theorem dX10_come_56 : decode cX10_come 56 = .ok (.aload_n 0, 1) := by decide +kernel
theorem dX10_come_57 : decode cX10_come 57 = .ok (.iload_n 1, 1) := by decide +kernel
theorem dX10_come_58 : decode cX10_come 58 = .ok (.iload_n 2, 1) := by decide +kernel
theorem dX10_come_59 : decode cX10_come 59 = .ok (.iload_n 3, 1) := by decide +kernel
theorem dX10_come_60 : decode cX10_come 60 = .ok (.invokevirtual 146, 3) := by decide +kernel
theorem dX10_come_63 : decode cX10_come 63 = .ok (.ireturn, 1) := by decide +kernel
theorem dX10_serves_0 : decode cX10_serves 0 = .ok (.aload_n 0, 1) := by decide +kernel
theorem dX10_serves_1 : decode cX10_serves 1 = .ok (.getfield 30, 3) := by decide +kernel
theorem dX10_serves_4 : decode cX10_serves 4 = .ok (.bipush 12, 2) := by decide +kernel
theorem dX10_serves_6 : decode cX10_serves 6 = .ok (.iaload, 1) := by decide +kernel
theorem dX10_serves_7 : decode cX10_serves 7 = .ok (.aload_n 0, 1) := by decide +kernel
theorem dX10_serves_8 : decode cX10_serves 8 = .ok (.getfield 30, 3) := by decide +kernel
theorem dX10_serves_11 : decode cX10_serves 11 = .ok (.bipush 13, 2) := by decide +kernel
theorem dX10_serves_13 : decode cX10_serves 13 = .ok (.iaload, 1) := by decide +kernel
theorem dX10_serves_14 : decode cX10_serves 14 = .ok (.iadd, 1) := by decide +kernel
theorem dX10_serves_15 : decode cX10_serves 15 = .ok (.ifCond .le 141, 3) := by decide +kernel
theorem dX10_serves_18 : decode cX10_serves 18 = .ok (.aload_n 0, 1) := by decide +kernel
theorem dX10_serves_19 : decode cX10_serves 19 = .ok (.getfield 30, 3) := by decide +kernel
theorem dX10_serves_22 : decode cX10_serves 22 = .ok (.bipush 12, 2) := by decide +kernel
theorem dX10_serves_24 : decode cX10_serves 24 = .ok (.iaload, 1) := by decide +kernel
theorem dX10_serves_25 : decode cX10_serves 25 = .ok (.ifCond .le 7, 3) := by decide +kernel
theorem dX10_serves_28 : decode cX10_serves 28 = .ok (.iconst 1, 1) := by decide +kernel
theorem dX10_serves_29 : decode cX10_serves 29 = .ok (.goto 4, 3) := by decide +kernel
theorem dX10_serves_32 : decode cX10_serves 32 = .ok (.iconst 2, 1) := by decide +kernel
theorem dX10_serves_33 : decode cX10_serves 33 = .ok (.istore_n 1, 1) := by decide +kernel
theorem dX10_serves_34 : decode cX10_serves 34 = .ok (.aload_n 0, 1) := by decide +kernel
theorem dX10_serves_35 : decode cX10_serves 35 = .ok (.iload_n 1, 1) := by decide +kernel
theorem dX10_serves_36 : decode cX10_serves 36 = .ok (.iconst 0, 1) := by decide +kernel
theorem dX10_serves_37 : decode cX10_serves 37 = .ok (.invokevirtual 176, 3) := by decide +kernel
theorem dX10_serves_40 : decode cX10_serves 40 = .ok (.istore_n 2, 1) := by decide +kernel
theorem dX10_serves_41 : decode cX10_serves 41 = .ok (.aload_n 0, 1) := by decide +kernel
theorem dX10_serves_42 : decode cX10_serves 42 = .ok (.iload_n 2, 1) := by decide +kernel
theorem dX10_serves_43 : decode cX10_serves 43 = .ok (.iconst 1, 1) := by decide +kernel
theorem dX10_serves_44 : decode cX10_serves 44 = .ok (.invokevirtual 184, 3) := by decide +kernel
theorem dX10_serves_47 : decode cX10_serves 47 = .ok (.ifCond .gt 34, 3) := by decide +kernel
theorem dX10_serves_50 : decode cX10_serves 50 = .ok (.aload_n 0, 1) := by decide +kernel
theorem dX10_serves_51 : decode cX10_serves 51 = .ok (.iload_n 2, 1) := by decide +kernel
theorem dX10_serves_52 : decode cX10_serves 52 = .ok (.iconst 1, 1) := by decide +kernel
theorem dX10_serves_53 : decode cX10_serves 53 = .ok (.aload_n 0, 1) := by decide +kernel
theorem dX10_serves_54 : decode cX10_serves 54 = .ok (.iload_n 2, 1) := by decide +kernel
theorem dX10_serves_55 : decode cX10_serves 55 = .ok (.iconst 1, 1) := by decide +kernel
theorem dX10_serves_56 : decode cX10_serves 56 = .ok (.invokevirtual 184, 3) := by decide +kernel
theorem dX10_serves_59 : decode cX10_serves 59 = .ok (.aload_n 0, 1) := by decide +kernel
theorem dX10_serves_60 : decode cX10_serves 60 = .ok (.invokevirtual 187, 3) := by decide +kernel
theorem dX10_serves_63 : decode cX10_serves 63 = .ok (.iadd, 1) := by decide +kernel
theorem dX10_serves_64 : decode cX10_serves 64 = .ok (.invokevirtual 165, 3) := by decide +kernel
theorem dX10_serves_67 : decode cX10_serves 67 = .ok (.aload_n 0, 1) := by decide +kernel
theorem dX10_serves_68 : decode cX10_serves 68 = .ok (.iload_n 1, 1) := by decide +kernel
theorem dX10_serves_69 : decode cX10_serves 69 = .ok (.invokevirtual 263, 3) := by decide +kernel
theorem dX10_serves_72 : decode cX10_serves 72 = .ok (.aload_n 0, 1) := by decide +kernel
theorem dX10_serves_73 : decode cX10_serves 73 = .ok (.iload_n 2, 1) := by decide +kernel
theorem dX10_serves_74 : decode cX10_serves 74 = .ok (.iconst 2, 1) := by decide +kernel
theorem dX10_serves_75 : decode cX10_serves 75 = .ok (.invokevirtual 190, 3) := by decide +kernel
theorem dX10_serves_78 : decode cX10_serves 78 = .ok (.goto (-78), 3) := by decide +kernel
theorem dX10_serves_81 : decode cX10_serves 81 = .ok (.aload_n 0, 1) := by decide +kernel
theorem dX10_serves_82 : decode cX10_serves 82 = .ok (.iload_n 2, 1) := by decide +kernel
theorem dX10_serves_83 : decode cX10_serves 83 = .ok (.invokevirtual 266, 3) := by decide +kernel
theorem dX10_serves_86 : decode cX10_serves 86 = .ok (.istore_n 3, 1) := by decide +kernel
theorem dX10_serves_87 : decode cX10_serves 87 = .ok (.iload_n 3, 1) := by decide +kernel
theorem dX10_serves_88 : decode cX10_serves 88 = .ok (.iconst (-1), 1) := by decide +kernel
theorem dX10_serves_89 : decode cX10_serves 89 = .ok (.if_icmp .eq 11, 3) := by decide +kernel
theorem dX10_serves_92 : decode cX10_serves 92 = .ok (.aload_n 0, 1) := by decide +kernel
theorem dX10_serves_93 : decode cX10_serves 93 = .ok (.iload_n 2, 1) := by decide +kernel
theorem dX10_serves_94 : decode cX10_serves 94 = .ok (.iload_n 3, 1) := by decide +kernel
theorem dX10_serves_95 : decode cX10_serves 95 = .ok (.invokevirtual 269, 3) := by decide +kernel
theorem dX10_serves_98 : decode cX10_serves 98 = .ok (.iload_n 3, 1) := by decide +kernel
theorem dX10_serves_99 : decode cX10_serves 99 = .ok (.ireturn, 1) := by decide +kernel
theorem dX10_serves_100 : decode cX10_serves 100 = .ok (.iload_n 1, 1) := by decide +kernel
theorem dX10_serves_101 : decode cX10_serves 101 = .ok (.iconst 1, 1) := by decide +kernel
theorem dX10_serves_102 : decode cX10_serves 102 = .ok (.if_icmp .ne 17, 3) := by decide +kernel
theorem dX10_serves_105 : decode cX10_serves 105 = .ok (.aload_n 0, 1) := by decide +kernel
theorem dX10_serves_106 : decode cX10_serves 106 = .ok (.getfield 30, 3) := by decide +kernel
theorem dX10_serves_109 : decode cX10_serves 109 = .ok (.bipush 13, 2) := by decide +kernel
theorem dX10_serves_111 : decode cX10_serves 111 = .ok (.iaload, 1) := by decide +kernel
theorem dX10_serves_112 : decode cX10_serves 112 = .ok (.ifCond .le 7, 3) := by decide +kernel
theorem dX10_serves_115 : decode cX10_serves 115 = .ok (.iconst 1, 1) := by decide +kernel
theorem dX10_serves_116 : decode cX10_serves 116 = .ok (.goto 4, 3) := by decide +kernel
theorem dX10_serves_119 : decode cX10_serves 119 = .ok (.iconst 0, 1) := by decide +kernel
theorem dX10_serves_120 : decode cX10_serves 120 = .ok (.istore 4, 2) := by decide +kernel
theorem dX10_serves_122 : decode cX10_serves 122 = .ok (.aload_n 0, 1) := by decide +kernel
theorem dX10_serves_123 : decode cX10_serves 123 = .ok (.iload_n 1, 1) := by decide +kernel
theorem dX10_serves_124 : decode cX10_serves 124 = .ok (.invokevirtual 263, 3) := by decide +kernel
theorem dX10_serves_127 : decode cX10_serves 127 = .ok (.iload 4, 2) := by decide +kernel
theorem dX10_serves_129 : decode cX10_serves 129 = .ok (.ifCond .eq 12, 3) := by decide +kernel
theorem dX10_serves_132 : decode cX10_serves 132 = .ok (.aload_n 0, 1) := by decide +kernel
theorem dX10_serves_133 : decode cX10_serves 133 = .ok (.iload_n 2, 1) := by decide +kernel
theorem dX10_serves_134 : decode cX10_serves 134 = .ok (.iconst 2, 1) := by decide +kernel
theorem dX10_serves_135 : decode cX10_serves 135 = .ok (.invokevirtual 190, 3) := by decide +kernel
theorem dX10_serves_138 : decode cX10_serves 138 = .ok (.goto 15, 3) := by decide +kernel
theorem dX10_serves_141 : decode cX10_serves 141 = .ok (.aload_n 0, 1) := by decide +kernel
theorem dX10_serves_142 : decode cX10_serves 142 = .ok (.iconst 5, 1) := by decide +kernel
theorem dX10_serves_143 : decode cX10_serves 143 = .ok (.aload_n 0, 1) := by decide +kernel
theorem dX10_serves_144 : decode cX10_serves 144 = .ok (.iload_n 2, 1) := by decide +kernel
theorem dX10_serves_145 : decode cX10_serves 145 = .ok (.iconst 0, 1) := by decide +kernel
theorem dX10_serves_146 : decode cX10_serves 146 = .ok (.invokevirtual 184, 3) := by decide +kernel
theorem dX10_serves_149 : decode cX10_serves 149 = .ok (.iconst 0, 1) := by decide +kernel
theorem dX10_serves_150 : decode cX10_serves 150 = .ok (.invokevirtual 221, 3) := by decide +kernel
theorem dX10_serves_153 : decode cX10_serves 153 = .ok (.goto (-153), 3) := by decide +kernel
theorem dX10_serves_156 : decode cX10_serves 156 = .ok (.bipush (-2), 2) := by decide +kernel
theorem dX10_serves_158 : decode cX10_serves 158 = .ok (.ireturn, 1) := by decide +kernel
theorem dX10_ticks_0 : decode cX10_ticks 0 = .ok (.iconst 0, 1) := by decide +kernel
theorem dX10_ticks_1 : decode cX10_ticks 1 = .ok (.istore_n 1, 1) := by decide +kernel
theorem dX10_ticks_2 : decode cX10_ticks 2 = .ok (.iload_n 1, 1) := by decide +kernel
theorem dX10_ticks_3 : decode cX10_ticks 3 = .ok (.aload_n 0, 1) := by decide +kernel
theorem dX10_ticks_4 : decode cX10_ticks 4 = .ok (.getfield 30, 3) := by decide +kernel
theorem dX10_ticks_7 : decode cX10_ticks 7 = .ok (.sipush 3477, 3) := by decide +kernel
theorem dX10_ticks_10 : decode cX10_ticks 10 = .ok (.iaload, 1) := by decide +kernel
theorem dX10_ticks_11 : decode cX10_ticks 11 = .ok (.if_icmp .ge 14, 3) := by decide +kernel
theorem dX10_ticks_14 : decode cX10_ticks 14 = .ok (.aload_n 0, 1) := by decide +kernel
theorem dX10_ticks_15 : decode cX10_ticks 15 = .ok (.iload_n 1, 1) := by decide +kernel
theorem dX10_ticks_16 : decode cX10_ticks 16 = .ok (.invokevirtual 278, 3) := by decide +kernel
theorem dX10_ticks_19 : decode cX10_ticks 19 = .ok (.iinc 1 1, 3) := by decide +kernel
theorem dX10_ticks_22 : decode cX10_ticks 22 = .ok (.goto (-20), 3) := by decide +kernel
theorem dX10_ticks_25 : decode cX10_ticks 25 = .ok (.iconst 0, 1) := by decide +kernel
theorem dX10_ticks_26 : decode cX10_ticks 26 = .ok (.istore_n 1, 1) := by decide +kernel
theorem dX10_ticks_27 : decode cX10_ticks 27 = .ok (.iload_n 1, 1) := by decide +kernel
theorem dX10_ticks_28 : decode cX10_ticks 28 = .ok (.aload_n 0, 1) := by decide +kernel
theorem dX10_ticks_29 : decode cX10_ticks 29 = .ok (.getfield 30, 3) := by decide +kernel
theorem dX10_ticks_32 : decode cX10_ticks 32 = .ok (.sipush 3477, 3) := by decide +kernel
theorem dX10_ticks_35 : decode cX10_ticks 35 = .ok (.iaload, 1) := by decide +kernel
theorem dX10_ticks_36 : decode cX10_ticks 36 = .ok (.if_icmp .ge 93, 3) := by decide +kernel
theorem dX10_ticks_39 : decode cX10_ticks 39 = .ok (.bipush 100, 2) := by decide +kernel
theorem dX10_ticks_41 : decode cX10_ticks 41 = .ok (.aload_n 0, 1) := by decide +kernel
theorem dX10_ticks_42 : decode cX10_ticks 42 = .ok (.iload_n 1, 1) := by decide +kernel
theorem dX10_ticks_43 : decode cX10_ticks 43 = .ok (.iconst 5, 1) := by decide +kernel
theorem dX10_ticks_44 : decode cX10_ticks 44 = .ok (.invokevirtual 272, 3) := by decide +kernel
theorem dX10_ticks_47 : decode cX10_ticks 47 = .ok (.imul, 1) := by decide +kernel
theorem dX10_ticks_48 : decode cX10_ticks 48 = .ok (.aload_n 0, 1) := by decide +kernel
theorem dX10_ticks_49 : decode cX10_ticks 49 = .ok (.iload_n 1, 1) := by decide +kernel
theorem dX10_ticks_50 : decode cX10_ticks 50 = .ok (.iconst 2, 1) := by decide +kernel
theorem dX10_ticks_51 : decode cX10_ticks 51 = .ok (.invokevirtual 272, 3) := by decide +kernel
theorem dX10_ticks_54 : decode cX10_ticks 54 = .ok (.bipush 99, 2) := by decide +kernel
theorem dX10_ticks_56 : decode cX10_ticks 56 = .ok (.isub, 1) := by decide +kernel
theorem dX10_ticks_57 : decode cX10_ticks 57 = .ok (.if_icmp .ge 66, 3) := by decide +kernel
theorem dX10_ticks_60 : decode cX10_ticks 60 = .ok (.aload_n 0, 1) := by decide +kernel
theorem dX10_ticks_61 : decode cX10_ticks 61 = .ok (.getfield 30, 3) := by decide +kernel
theorem dX10_ticks_64 : decode cX10_ticks 64 = .ok (.iconst 1, 1) := by decide +kernel
theorem dX10_ticks_65 : decode cX10_ticks 65 = .ok (.iaload, 1) := by decide +kernel
theorem dX10_ticks_66 : decode cX10_ticks 66 = .ok (.sipush 200, 3) := by decide +kernel
theorem dX10_ticks_69 : decode cX10_ticks 69 = .ok (.if_icmp .ge 54, 3) := by decide +kernel
theorem dX10_ticks_72 : decode cX10_ticks 72 = .ok (.aload_n 0, 1) := by decide +kernel
theorem dX10_ticks_73 : decode cX10_ticks 73 = .ok (.iload_n 1, 1) := by decide +kernel
theorem dX10_ticks_74 : decode cX10_ticks 74 = .ok (.iconst 5, 1) := by decide +kernel
theorem dX10_ticks_75 : decode cX10_ticks 75 = .ok (.aload_n 0, 1) := by decide +kernel
theorem dX10_ticks_76 : decode cX10_ticks 76 = .ok (.iload_n 1, 1) := by decide +kernel
theorem dX10_ticks_77 : decode cX10_ticks 77 = .ok (.iconst 5, 1) := by decide +kernel
theorem dX10_ticks_78 : decode cX10_ticks 78 = .ok (.invokevirtual 272, 3) := by decide +kernel
theorem dX10_ticks_81 : decode cX10_ticks 81 = .ok (.iconst 1, 1) := by decide +kernel
theorem dX10_ticks_82 : decode cX10_ticks 82 = .ok (.iadd, 1) := by decide +kernel
theorem dX10_ticks_83 : decode cX10_ticks 83 = .ok (.invokevirtual 170, 3) := by decide +kernel
theorem dX10_ticks_86 : decode cX10_ticks 86 = .ok (.aload_n 0, 1) := by decide +kernel
theorem dX10_ticks_87 : decode cX10_ticks 87 = .ok (.iload_n 1, 1) := by decide +kernel
theorem dX10_ticks_88 : decode cX10_ticks 88 = .ok (.putfield 36, 3) := by decide +kernel
theorem dX10_ticks_91 : decode cX10_ticks 91 = .ok (.aload_n 0, 1) := by decide +kernel
theorem dX10_ticks_92 : decode cX10_ticks 92 = .ok (.aload_n 0, 1) := by decide +kernel
theorem dX10_ticks_93 : decode cX10_ticks 93 = .ok (.iload_n 1, 1) := by decide +kernel
theorem dX10_ticks_94 : decode cX10_ticks 94 = .ok (.iconst 0, 1) := by decide +kernel
theorem dX10_ticks_95 : decode cX10_ticks 95 = .ok (.invokevirtual 272, 3) := by decide +kernel
theorem dX10_ticks_98 : decode cX10_ticks 98 = .ok (.aload_n 0, 1) := by decide +kernel
theorem dX10_ticks_99 : decode cX10_ticks 99 = .ok (.iload_n 1, 1) := by decide +kernel
theorem dX10_ticks_100 : decode cX10_ticks 100 = .ok (.iconst 1, 1) := by decide +kernel
theorem dX10_ticks_101 : decode cX10_ticks 101 = .ok (.invokevirtual 272, 3) := by decide +kernel
theorem dX10_ticks_104 : decode cX10_ticks 104 = .ok (.aload_n 0, 1) := by decide +kernel
theorem dX10_ticks_105 : decode cX10_ticks 105 = .ok (.iload_n 1, 1) := by decide +kernel
theorem dX10_ticks_106 : decode cX10_ticks 106 = .ok (.iconst 4, 1) := by decide +kernel
theorem dX10_ticks_107 : decode cX10_ticks 107 = .ok (.invokevirtual 272, 3) := by decide +kernel
theorem dX10_ticks_110 : decode cX10_ticks 110 = .ok (.invokevirtual 146, 3) := by decide +kernel
theorem dX10_ticks_113 : decode cX10_ticks 113 = .ok (.pop, 1) := by decide +kernel
theorem dX10_ticks_114 : decode cX10_ticks 114 = .ok (.aload_n 0, 1) := by decide +kernel
theorem dX10_ticks_115 : decode cX10_ticks 115 = .ok (.bipush (-2), 2) := by decide +kernel
theorem dX10_ticks_117 : decode cX10_ticks 117 = .ok (.putfield 36, 3) := by decide +kernel
theorem dX10_ticks_120 : decode cX10_ticks 120 = .ok (.goto (-81), 3) := by decide +kernel
theorem dX10_ticks_123 : decode cX10_ticks 123 = .ok (.iinc 1 1, 3) := by decide +kernel
theorem dX10_ticks_126 : decode cX10_ticks 126 = .ok (.goto (-99), 3) := by decide +kernel
theorem dX10_ticks_129 : decode cX10_ticks 129 = .ok (.aload_n 0, 1) := by decide +kernel
theorem dX10_ticks_130 : decode cX10_ticks 130 = .ok (.invokevirtual 150, 3) := by decide +kernel
theorem dX10_ticks_133 : decode cX10_ticks 133 = .ok (.pop, 1) := by decide +kernel
theorem dX10_ticks_134 : decode cX10_ticks 134 = .ok (.aload_n 0, 1) := by decide +kernel
theorem dX10_ticks_135 : decode cX10_ticks 135 = .ok (.getfield 30, 3) := by decide +kernel
theorem dX10_ticks_138 : decode cX10_ticks 138 = .ok (.iconst 0, 1) := by decide +kernel
theorem dX10_ticks_139 : decode cX10_ticks 139 = .ok (.dup2, 1) := by decide +kernel
theorem dX10_ticks_140 : decode cX10_ticks 140 = .ok (.iaload, 1) := by decide +kernel
theorem dX10_ticks_141 : decode cX10_ticks 141 = .ok (.iconst 1, 1) := by decide +kernel
theorem dX10_ticks_142 : decode cX10_ticks 142 = .ok (.iadd, 1) := by decide +kernel
theorem dX10_ticks_143 : decode cX10_ticks 143 = .ok (.iastore, 1) := by decide +kernel
theorem dX10_ticks_144 : decode cX10_ticks 144 = .ok (.return_, 1) := by decide +kernel
theorem dX10_go_0 : decode cX10_go 0 = .ok (.aload_n 0, 1) := by decide +kernel
theorem dX10_go_1 : decode cX10_go 1 = .ok (.iconst 0, 1) := by decide +kernel
theorem dX10_go_2 : decode cX10_go 2 = .ok (.putfield 45, 3) := by decide +kernel
theorem dX10_go_5 : decode cX10_go 5 = .ok (.aload_n 0, 1) := by decide +kernel
theorem dX10_go_6 : decode cX10_go 6 = .ok (.invokevirtual 150, 3) := by decide +kernel
theorem dX10_go_9 : decode cX10_go 9 = .ok (.ireturn, 1) := by decide +kernel
theorem dX10_ahead_0 : decode cX10_ahead 0 = .ok (.aload_n 0, 1) := by decide +kernel
theorem dX10_ahead_1 : decode cX10_ahead 1 = .ok (.iconst 0, 1) := by decide +kernel
theorem dX10_ahead_2 : decode cX10_ahead 2 = .ok (.putfield 45, 3) := by decide +kernel
theorem dX10_ahead_5 : decode cX10_ahead 5 = .ok (.iload_n 1, 1) := by decide +kernel
theorem dX10_ahead_6 : decode cX10_ahead 6 = .ok (.ifCond .ge 5, 3) := by decide +kernel
theorem dX10_ahead_9 : decode cX10_ahead 9 = .ok (.iconst (-1), 1) := by decide +kernel
theorem dX10_ahead_10 : decode cX10_ahead 10 = .ok (.ireturn, 1) := by decide +kernel
theorem dX10_ahead_11 : decode cX10_ahead 11 = .ok (.aload_n 0, 1) := by decide +kernel
theorem dX10_ahead_12 : decode cX10_ahead 12 = .ok (.getfield 30, 3) := by decide +kernel
theorem dX10_ahead_15 : decode cX10_ahead 15 = .ok (.aload_n 0, 1) := by decide +kernel
theorem dX10_ahead_16 : decode cX10_ahead 16 = .ok (.getfield 33, 3) := by decide +kernel
theorem dX10_ahead_19 : decode cX10_ahead 19 = .ok (.invokestatic 287, 3) := by decide +kernel
theorem dX10_ahead_22 : decode cX10_ahead 22 = .ok (.iconst 0, 1) := by decide +kernel
theorem dX10_ahead_23 : decode cX10_ahead 23 = .ok (.istore_n 2, 1) := by decide +kernel
theorem dX10_ahead_24 : decode cX10_ahead 24 = .ok (.iconst 0, 1) := by decide +kernel
theorem dX10_ahead_25 : decode cX10_ahead 25 = .ok (.istore_n 3, 1) := by decide +kernel
theorem dX10_ahead_26 : decode cX10_ahead 26 = .ok (.iload_n 3, 1) := by decide +kernel
theorem dX10_ahead_27 : decode cX10_ahead 27 = .ok (.iload_n 1, 1) := by decide +kernel
theorem dX10_ahead_28 : decode cX10_ahead 28 = .ok (.if_icmp .gt 18, 3) := by decide +kernel
theorem dX10_ahead_31 : decode cX10_ahead 31 = .ok (.iload_n 2, 1) := by decide +kernel
theorem dX10_ahead_32 : decode cX10_ahead 32 = .ok (.ifCond .lt 14, 3) := by decide +kernel
theorem dX10_ahead_35 : decode cX10_ahead 35 = .ok (.aload_n 0, 1) := by decide +kernel
theorem dX10_ahead_36 : decode cX10_ahead 36 = .ok (.invokevirtual 150, 3) := by decide +kernel
theorem dX10_ahead_39 : decode cX10_ahead 39 = .ok (.istore_n 2, 1) := by decide +kernel
theorem dX10_ahead_40 : decode cX10_ahead 40 = .ok (.iinc 3 1, 3) := by decide +kernel
theorem dX10_ahead_43 : decode cX10_ahead 43 = .ok (.goto (-17), 3) := by decide +kernel
theorem dX10_ahead_46 : decode cX10_ahead 46 = .ok (.aload_n 0, 1) := by decide +kernel
theorem dX10_ahead_47 : decode cX10_ahead 47 = .ok (.getfield 33, 3) := by decide +kernel
theorem dX10_ahead_50 : decode cX10_ahead 50 = .ok (.aload_n 0, 1) := by decide +kernel
theorem dX10_ahead_51 : decode cX10_ahead 51 = .ok (.getfield 30, 3) := by decide +kernel
theorem dX10_ahead_54 : decode cX10_ahead 54 = .ok (.invokestatic 287, 3) := by decide +kernel
theorem dX10_ahead_57 : decode cX10_ahead 57 = .ok (.iload_n 2, 1) := by decide +kernel
theorem dX10_ahead_58 : decode cX10_ahead 58 = .ok (.ireturn, 1) := by decide +kernel
theorem dX10_drains_0 : decode cX10_drains 0 = .ok (.aload_n 0, 1) := by decide +kernel
theorem dX10_drains_1 : decode cX10_drains 1 = .ok (.getfield 30, 3) := by decide +kernel
theorem dX10_drains_4 : decode cX10_drains 4 = .ok (.iconst 2, 1) := by decide +kernel
theorem dX10_drains_5 : decode cX10_drains 5 = .ok (.iaload, 1) := by decide +kernel
theorem dX10_drains_6 : decode cX10_drains 6 = .ok (.ifCond .le 21, 3) := by decide +kernel
theorem dX10_drains_9 : decode cX10_drains 9 = .ok (.aload_n 0, 1) := by decide +kernel
theorem dX10_drains_10 : decode cX10_drains 10 = .ok (.invokevirtual 150, 3) := by decide +kernel
theorem dX10_drains_13 : decode cX10_drains 13 = .ok (.pop, 1) := by decide +kernel
theorem dX10_drains_14 : decode cX10_drains 14 = .ok (.aload_n 0, 1) := by decide +kernel
theorem dX10_drains_15 : decode cX10_drains 15 = .ok (.getfield 30, 3) := by decide +kernel
theorem dX10_drains_18 : decode cX10_drains 18 = .ok (.iconst 0, 1) := by decide +kernel
theorem dX10_drains_19 : decode cX10_drains 19 = .ok (.dup2, 1) := by decide +kernel
theorem dX10_drains_20 : decode cX10_drains 20 = .ok (.iaload, 1) := by decide +kernel
theorem dX10_drains_21 : decode cX10_drains 21 = .ok (.iload_n 1, 1) := by decide +kernel
theorem dX10_drains_22 : decode cX10_drains 22 = .ok (.iadd, 1) := by decide +kernel
theorem dX10_drains_23 : decode cX10_drains 23 = .ok (.iastore, 1) := by decide +kernel
theorem dX10_drains_24 : decode cX10_drains 24 = .ok (.goto (-24), 3) := by decide +kernel
theorem dX10_drains_27 : decode cX10_drains 27 = .ok (.return_, 1) := by decide +kernel
theorem dX10_doesAll_0 : decode cX10_doesAll 0 = .ok (.iconst 0, 1) := by decide +kernel
theorem dX10_doesAll_1 : decode cX10_doesAll 1 = .ok (.istore_n 1, 1) := by decide +kernel
theorem dX10_doesAll_2 : decode cX10_doesAll 2 = .ok (.iload_n 1, 1) := by decide +kernel
theorem dX10_doesAll_3 : decode cX10_doesAll 3 = .ok (.aload_n 0, 1) := by decide +kernel
theorem dX10_doesAll_4 : decode cX10_doesAll 4 = .ok (.getfield 108, 3) := by decide +kernel
theorem dX10_doesAll_7 : decode cX10_doesAll 7 = .ok (.if_icmp .ge 136, 3) := by decide +kernel
theorem dX10_doesAll_10 : decode cX10_doesAll 10 = .ok (.aload_n 0, 1) := by decide +kernel
theorem dX10_doesAll_11 : decode cX10_doesAll 11 = .ok (.getfield 23, 3) := by decide +kernel
theorem dX10_doesAll_14 : decode cX10_doesAll 14 = .ok (.iload_n 1, 1) := by decide +kernel
theorem dX10_doesAll_15 : decode cX10_doesAll 15 = .ok (.iaload, 1) := by decide +kernel
theorem dX10_doesAll_16 : decode cX10_doesAll 16 = .ok (.istore_n 2, 1) := by decide +kernel
theorem dX10_doesAll_17 : decode cX10_doesAll 17 = .ok (.iload_n 2, 1) := by decide +kernel
theorem dX10_doesAll_18 : decode cX10_doesAll 18 = .ok (.bipush 9, 2) := by decide +kernel
theorem dX10_doesAll_20 : decode cX10_doesAll 20 = .ok (.if_icmp .ne 50, 3) := by decide +kernel
theorem dX10_doesAll_23 : decode cX10_doesAll 23 = .ok (.aload_n 0, 1) := by decide +kernel
theorem dX10_doesAll_24 : decode cX10_doesAll 24 = .ok (.getfield 30, 3) := by decide +kernel
theorem dX10_doesAll_27 : decode cX10_doesAll 27 = .ok (.iconst 1, 1) := by decide +kernel
theorem dX10_doesAll_28 : decode cX10_doesAll 28 = .ok (.iaload, 1) := by decide +kernel
theorem dX10_doesAll_29 : decode cX10_doesAll 29 = .ok (.sipush 200, 3) := by decide +kernel
theorem dX10_doesAll_32 : decode cX10_doesAll 32 = .ok (.if_icmp .ge 32, 3) := by decide +kernel
theorem dX10_doesAll_35 : decode cX10_doesAll 35 = .ok (.aload_n 0, 1) := by decide +kernel
theorem dX10_doesAll_36 : decode cX10_doesAll 36 = .ok (.aload_n 0, 1) := by decide +kernel
theorem dX10_doesAll_37 : decode cX10_doesAll 37 = .ok (.getfield 23, 3) := by decide +kernel
theorem dX10_doesAll_40 : decode cX10_doesAll 40 = .ok (.iload_n 1, 1) := by decide +kernel
theorem dX10_doesAll_41 : decode cX10_doesAll 41 = .ok (.iconst 1, 1) := by decide +kernel
theorem dX10_doesAll_42 : decode cX10_doesAll 42 = .ok (.iadd, 1) := by decide +kernel
theorem dX10_doesAll_43 : decode cX10_doesAll 43 = .ok (.iaload, 1) := by decide +kernel
theorem dX10_doesAll_44 : decode cX10_doesAll 44 = .ok (.aload_n 0, 1) := by decide +kernel
theorem dX10_doesAll_45 : decode cX10_doesAll 45 = .ok (.getfield 23, 3) := by decide +kernel
theorem dX10_doesAll_48 : decode cX10_doesAll 48 = .ok (.iload_n 1, 1) := by decide +kernel
theorem dX10_doesAll_49 : decode cX10_doesAll 49 = .ok (.iconst 2, 1) := by decide +kernel
theorem dX10_doesAll_50 : decode cX10_doesAll 50 = .ok (.iadd, 1) := by decide +kernel
theorem dX10_doesAll_51 : decode cX10_doesAll 51 = .ok (.iaload, 1) := by decide +kernel
theorem dX10_doesAll_52 : decode cX10_doesAll 52 = .ok (.aload_n 0, 1) := by decide +kernel
theorem dX10_doesAll_53 : decode cX10_doesAll 53 = .ok (.getfield 23, 3) := by decide +kernel
theorem dX10_doesAll_56 : decode cX10_doesAll 56 = .ok (.iload_n 1, 1) := by decide +kernel
theorem dX10_doesAll_57 : decode cX10_doesAll 57 = .ok (.iconst 3, 1) := by decide +kernel
theorem dX10_doesAll_58 : decode cX10_doesAll 58 = .ok (.iadd, 1) := by decide +kernel
theorem dX10_doesAll_59 : decode cX10_doesAll 59 = .ok (.iaload, 1) := by decide +kernel
theorem dX10_doesAll_60 : decode cX10_doesAll 60 = .ok (.invokevirtual 146, 3) := by decide +kernel
theorem dX10_doesAll_63 : decode cX10_doesAll 63 = .ok (.pop, 1) := by decide +kernel
theorem dX10_doesAll_64 : decode cX10_doesAll 64 = .ok (.iinc 1 4, 3) := by decide +kernel
theorem dX10_doesAll_67 : decode cX10_doesAll 67 = .ok (.goto 73, 3) := by decide +kernel
theorem dX10_doesAll_70 : decode cX10_doesAll 70 = .ok (.iload_n 2, 1) := by decide +kernel
theorem dX10_doesAll_71 : decode cX10_doesAll 71 = .ok (.bipush 10, 2) := by decide +kernel
theorem dX10_doesAll_73 : decode cX10_doesAll 73 = .ok (.if_icmp .ne 20, 3) := by decide +kernel
theorem dX10_doesAll_76 : decode cX10_doesAll 76 = .ok (.aload_n 0, 1) := by decide +kernel
theorem dX10_doesAll_77 : decode cX10_doesAll 77 = .ok (.getfield 30, 3) := by decide +kernel
theorem dX10_doesAll_80 : decode cX10_doesAll 80 = .ok (.iconst 0, 1) := by decide +kernel
theorem dX10_doesAll_81 : decode cX10_doesAll 81 = .ok (.dup2, 1) := by decide +kernel
theorem dX10_doesAll_82 : decode cX10_doesAll 82 = .ok (.iaload, 1) := by decide +kernel
theorem dX10_doesAll_83 : decode cX10_doesAll 83 = .ok (.aload_n 0, 1) := by decide +kernel
theorem dX10_doesAll_84 : decode cX10_doesAll 84 = .ok (.getfield 23, 3) := by decide +kernel
theorem dX10_doesAll_87 : decode cX10_doesAll 87 = .ok (.iload_n 1, 1) := by decide +kernel
theorem dX10_doesAll_88 : decode cX10_doesAll 88 = .ok (.iconst 1, 1) := by decide +kernel
theorem dX10_doesAll_89 : decode cX10_doesAll 89 = .ok (.iadd, 1) := by decide +kernel
theorem dX10_doesAll_90 : decode cX10_doesAll 90 = .ok (.iaload, 1) := by decide +kernel
theorem dX10_doesAll_91 : decode cX10_doesAll 91 = .ok (.iadd, 1) := by decide +kernel
theorem dX10_doesAll_92 : decode cX10_doesAll 92 = .ok (.iastore, 1) := by decide +kernel
theorem dX10_doesAll_93 : decode cX10_doesAll 93 = .ok (.iconst 0, 1) := by decide +kernel
theorem dX10_doesAll_94 : decode cX10_doesAll 94 = .ok (.istore_n 3, 1) := by decide +kernel
theorem dX10_doesAll_95 : decode cX10_doesAll 95 = .ok (.iload_n 3, 1) := by decide +kernel
theorem dX10_doesAll_96 : decode cX10_doesAll 96 = .ok (.aload_n 0, 1) := by decide +kernel
theorem dX10_doesAll_97 : decode cX10_doesAll 97 = .ok (.getfield 23, 3) := by decide +kernel
theorem dX10_doesAll_100 : decode cX10_doesAll 100 = .ok (.iload_n 1, 1) := by decide +kernel
theorem dX10_doesAll_101 : decode cX10_doesAll 101 = .ok (.iconst 1, 1) := by decide +kernel
theorem dX10_doesAll_102 : decode cX10_doesAll 102 = .ok (.iadd, 1) := by decide +kernel
theorem dX10_doesAll_103 : decode cX10_doesAll 103 = .ok (.iaload, 1) := by decide +kernel
theorem dX10_doesAll_104 : decode cX10_doesAll 104 = .ok (.if_icmp .ge 33, 3) := by decide +kernel
theorem dX10_doesAll_107 : decode cX10_doesAll 107 = .ok (.iload_n 2, 1) := by decide +kernel
theorem dX10_doesAll_108 : decode cX10_doesAll 108 = .ok (.bipush 10, 2) := by decide +kernel
theorem dX10_doesAll_110 : decode cX10_doesAll 110 = .ok (.if_icmp .le 27, 3) := by decide +kernel
theorem dX10_doesAll_113 : decode cX10_doesAll 113 = .ok (.iload_n 2, 1) := by decide +kernel
theorem dX10_doesAll_114 : decode cX10_doesAll 114 = .ok (.bipush 11, 2) := by decide +kernel
theorem dX10_doesAll_116 : decode cX10_doesAll 116 = .ok (.if_icmp .ne 11, 3) := by decide +kernel
theorem dX10_doesAll_119 : decode cX10_doesAll 119 = .ok (.aload_n 0, 1) := by decide +kernel
theorem dX10_doesAll_120 : decode cX10_doesAll 120 = .ok (.invokevirtual 150, 3) := by decide +kernel
theorem dX10_doesAll_123 : decode cX10_doesAll 123 = .ok (.pop, 1) := by decide +kernel
theorem dX10_doesAll_124 : decode cX10_doesAll 124 = .ok (.goto 7, 3) := by decide +kernel
theorem dX10_doesAll_127 : decode cX10_doesAll 127 = .ok (.aload_n 0, 1) := by decide +kernel
theorem dX10_doesAll_128 : decode cX10_doesAll 128 = .ok (.invokevirtual 153, 3) := by decide +kernel
theorem dX10_doesAll_131 : decode cX10_doesAll 131 = .ok (.iinc 3 1, 3) := by decide +kernel
theorem dX10_doesAll_134 : decode cX10_doesAll 134 = .ok (.goto (-39), 3) := by decide +kernel
theorem dX10_doesAll_137 : decode cX10_doesAll 137 = .ok (.iinc 1 2, 3) := by decide +kernel
theorem dX10_doesAll_140 : decode cX10_doesAll 140 = .ok (.goto (-138), 3) := by decide +kernel
theorem dX10_doesAll_143 : decode cX10_doesAll 143 = .ok (.return_, 1) := by decide +kernel
theorem dX10_runs_0 : decode cX10_runs 0 = .ok (.iconst 0, 1) := by decide +kernel
theorem dX10_runs_1 : decode cX10_runs 1 = .ok (.istore_n 2, 1) := by decide +kernel
theorem dX10_runs_2 : decode cX10_runs 2 = .ok (.iload_n 2, 1) := by decide +kernel
theorem dX10_runs_3 : decode cX10_runs 3 = .ok (.iload_n 1, 1) := by decide +kernel
theorem dX10_runs_4 : decode cX10_runs 4 = .ok (.if_icmp .ge 13, 3) := by decide +kernel
theorem dX10_runs_7 : decode cX10_runs 7 = .ok (.aload_n 0, 1) := by decide +kernel
theorem dX10_runs_8 : decode cX10_runs 8 = .ok (.invokevirtual 153, 3) := by decide +kernel
theorem dX10_runs_11 : decode cX10_runs 11 = .ok (.iinc 2 1, 3) := by decide +kernel
theorem dX10_runs_14 : decode cX10_runs 14 = .ok (.goto (-12), 3) := by decide +kernel
theorem dX10_runs_17 : decode cX10_runs 17 = .ok (.return_, 1) := by decide +kernel
theorem dX10_firstCut_0 : decode cX10_firstCut 0 = .ok (.aload_n 0, 1) := by decide +kernel
theorem dX10_firstCut_1 : decode cX10_firstCut 1 = .ok (.iconst 0, 1) := by decide +kernel
theorem dX10_firstCut_2 : decode cX10_firstCut 2 = .ok (.putfield 45, 3) := by decide +kernel
theorem dX10_firstCut_5 : decode cX10_firstCut 5 = .ok (.iload_n 1, 1) := by decide +kernel
theorem dX10_firstCut_6 : decode cX10_firstCut 6 = .ok (.invokestatic 281, 3) := by decide +kernel
theorem dX10_firstCut_9 : decode cX10_firstCut 9 = .ok (.ifCond .ne 5, 3) := by decide +kernel
theorem dX10_firstCut_12 : decode cX10_firstCut 12 = .ok (.iconst (-1), 1) := by decide +kernel
theorem dX10_firstCut_13 : decode cX10_firstCut 13 = .ok (.ireturn, 1) := by decide +kernel
theorem dX10_firstCut_14 : decode cX10_firstCut 14 = .ok (.aload_n 0, 1) := by decide +kernel
theorem dX10_firstCut_15 : decode cX10_firstCut 15 = .ok (.getfield 30, 3) := by decide +kernel
theorem dX10_firstCut_18 : decode cX10_firstCut 18 = .ok (.aload_n 0, 1) := by decide +kernel
theorem dX10_firstCut_19 : decode cX10_firstCut 19 = .ok (.getfield 33, 3) := by decide +kernel
theorem dX10_firstCut_22 : decode cX10_firstCut 22 = .ok (.invokestatic 287, 3) := by decide +kernel
theorem dX10_firstCut_25 : decode cX10_firstCut 25 = .ok (.aload_n 0, 1) := by decide +kernel
theorem dX10_firstCut_26 : decode cX10_firstCut 26 = .ok (.invokevirtual 294, 3) := by decide +kernel
theorem dX10_firstCut_29 : decode cX10_firstCut 29 = .ok (.istore_n 2, 1) := by decide +kernel
theorem dX10_firstCut_30 : decode cX10_firstCut 30 = .ok (.bipush (-2), 2) := by decide +kernel
theorem dX10_firstCut_32 : decode cX10_firstCut 32 = .ok (.istore_n 3, 1) := by decide +kernel
theorem dX10_firstCut_33 : decode cX10_firstCut 33 = .ok (.iconst 1, 1) := by decide +kernel
theorem dX10_firstCut_34 : decode cX10_firstCut 34 = .ok (.istore 4, 2) := by decide +kernel
theorem dX10_firstCut_36 : decode cX10_firstCut 36 = .ok (.iload 4, 2) := by decide +kernel
theorem dX10_firstCut_38 : decode cX10_firstCut 38 = .ok (.iload_n 1, 1) := by decide +kernel
theorem dX10_firstCut_39 : decode cX10_firstCut 39 = .ok (.if_icmp .gt 30, 3) := by decide +kernel
theorem dX10_firstCut_42 : decode cX10_firstCut 42 = .ok (.iload_n 3, 1) := by decide +kernel
theorem dX10_firstCut_43 : decode cX10_firstCut 43 = .ok (.bipush (-2), 2) := by decide +kernel
theorem dX10_firstCut_45 : decode cX10_firstCut 45 = .ok (.if_icmp .ne 24, 3) := by decide +kernel
theorem dX10_firstCut_48 : decode cX10_firstCut 48 = .ok (.aload_n 0, 1) := by decide +kernel
theorem dX10_firstCut_49 : decode cX10_firstCut 49 = .ok (.invokevirtual 153, 3) := by decide +kernel
theorem dX10_firstCut_52 : decode cX10_firstCut 52 = .ok (.aload_n 0, 1) := by decide +kernel
theorem dX10_firstCut_53 : decode cX10_firstCut 53 = .ok (.invokevirtual 294, 3) := by decide +kernel
theorem dX10_firstCut_56 : decode cX10_firstCut 56 = .ok (.iload_n 2, 1) := by decide +kernel
theorem dX10_firstCut_57 : decode cX10_firstCut 57 = .ok (.if_icmp .le 6, 3) := by decide +kernel
theorem dX10_firstCut_60 : decode cX10_firstCut 60 = .ok (.iload 4, 2) := by decide +kernel
theorem dX10_firstCut_62 : decode cX10_firstCut 62 = .ok (.istore_n 3, 1) := by decide +kernel
theorem dX10_firstCut_63 : decode cX10_firstCut 63 = .ok (.iinc 4 1, 3) := by decide +kernel
theorem dX10_firstCut_66 : decode cX10_firstCut 66 = .ok (.goto (-30), 3) := by decide +kernel
theorem dX10_firstCut_69 : decode cX10_firstCut 69 = .ok (.aload_n 0, 1) := by decide +kernel
theorem dX10_firstCut_70 : decode cX10_firstCut 70 = .ok (.getfield 33, 3) := by decide +kernel
theorem dX10_firstCut_73 : decode cX10_firstCut 73 = .ok (.aload_n 0, 1) := by decide +kernel
theorem dX10_firstCut_74 : decode cX10_firstCut 74 = .ok (.getfield 30, 3) := by decide +kernel
theorem dX10_firstCut_77 : decode cX10_firstCut 77 = .ok (.invokestatic 287, 3) := by decide +kernel
theorem dX10_firstCut_80 : decode cX10_firstCut 80 = .ok (.iload_n 3, 1) := by decide +kernel
theorem dX10_firstCut_81 : decode cX10_firstCut 81 = .ok (.ireturn, 1) := by decide +kernel
theorem dX10_drain_0 : decode cX10_drain 0 = .ok (.aload_n 0, 1) := by decide +kernel
theorem dX10_drain_1 : decode cX10_drain 1 = .ok (.iconst 0, 1) := by decide +kernel
theorem dX10_drain_2 : decode cX10_drain 2 = .ok (.putfield 45, 3) := by decide +kernel
theorem dX10_drain_5 : decode cX10_drain 5 = .ok (.iload_n 1, 1) := by decide +kernel
theorem dX10_drain_6 : decode cX10_drain 6 = .ok (.invokestatic 328, 3) := by decide +kernel
theorem dX10_drain_9 : decode cX10_drain 9 = .ok (.ifCond .eq 12, 3) := by decide +kernel
theorem dX10_drain_12 : decode cX10_drain 12 = .ok (.iload_n 2, 1) := by decide +kernel
theorem dX10_drain_13 : decode cX10_drain 13 = .ok (.ifCond .lt 8, 3) := by decide +kernel
theorem dX10_drain_16 : decode cX10_drain 16 = .ok (.iload_n 2, 1) := by decide +kernel
theorem dX10_drain_17 : decode cX10_drain 17 = .ok (.iconst 4, 1) := by decide +kernel
theorem dX10_drain_18 : decode cX10_drain 18 = .ok (.if_icmp .le 5, 3) := by decide +kernel
theorem dX10_drain_21 : decode cX10_drain 21 = .ok (.iconst (-1), 1) := by decide +kernel
theorem dX10_drain_22 : decode cX10_drain 22 = .ok (.ireturn, 1) := by decide +kernel
theorem dX10_drain_23 : decode cX10_drain 23 = .ok (.aload_n 0, 1) := by decide +kernel
theorem dX10_drain_24 : decode cX10_drain 24 = .ok (.getfield 30, 3) := by decide +kernel
theorem dX10_drain_27 : decode cX10_drain 27 = .ok (.aload_n 0, 1) := by decide +kernel
theorem dX10_drain_28 : decode cX10_drain 28 = .ok (.getfield 33, 3) := by decide +kernel
theorem dX10_drain_31 : decode cX10_drain 31 = .ok (.invokestatic 287, 3) := by decide +kernel
theorem dX10_drain_34 : decode cX10_drain 34 = .ok (.aload_n 0, 1) := by decide +kernel
theorem dX10_drain_35 : decode cX10_drain 35 = .ok (.iload_n 1, 1) := by decide +kernel
theorem dX10_drain_36 : decode cX10_drain 36 = .ok (.invokevirtual 331, 3) := by decide +kernel
theorem dX10_drain_39 : decode cX10_drain 39 = .ok (.iload_n 2, 1) := by decide +kernel
theorem dX10_drain_40 : decode cX10_drain 40 = .ok (.iconst 3, 1) := by decide +kernel
theorem dX10_drain_41 : decode cX10_drain 41 = .ok (.if_icmp .ge 25, 3) := by decide +kernel
theorem dX10_drain_44 : decode cX10_drain 44 = .ok (.aload_n 0, 1) := by decide +kernel
theorem dX10_drain_45 : decode cX10_drain 45 = .ok (.getfield 30, 3) := by decide +kernel
theorem dX10_drain_48 : decode cX10_drain 48 = .ok (.bipush 14, 2) := by decide +kernel
theorem dX10_drain_50 : decode cX10_drain 50 = .ok (.iload_n 2, 1) := by decide +kernel
theorem dX10_drain_51 : decode cX10_drain 51 = .ok (.iadd, 1) := by decide +kernel
theorem dX10_drain_52 : decode cX10_drain 52 = .ok (.iaload, 1) := by decide +kernel
theorem dX10_drain_53 : decode cX10_drain 53 = .ok (.aload_n 0, 1) := by decide +kernel
theorem dX10_drain_54 : decode cX10_drain 54 = .ok (.getfield 33, 3) := by decide +kernel
theorem dX10_drain_57 : decode cX10_drain 57 = .ok (.bipush 14, 2) := by decide +kernel
theorem dX10_drain_59 : decode cX10_drain 59 = .ok (.iload_n 2, 1) := by decide +kernel
theorem dX10_drain_60 : decode cX10_drain 60 = .ok (.iadd, 1) := by decide +kernel
theorem dX10_drain_61 : decode cX10_drain 61 = .ok (.iaload, 1) := by decide +kernel
theorem dX10_drain_62 : decode cX10_drain 62 = .ok (.isub, 1) := by decide +kernel
theorem dX10_drain_63 : decode cX10_drain 63 = .ok (.goto 29, 3) := by decide +kernel
theorem dX10_drain_66 : decode cX10_drain 66 = .ok (.iload_n 2, 1) := by decide +kernel
theorem dX10_drain_67 : decode cX10_drain 67 = .ok (.iconst 3, 1) := by decide +kernel
theorem dX10_drain_68 : decode cX10_drain 68 = .ok (.if_icmp .ne 12, 3) := by decide +kernel
theorem dX10_drain_71 : decode cX10_drain 71 = .ok (.aload_n 0, 1) := by decide +kernel
theorem dX10_drain_72 : decode cX10_drain 72 = .ok (.getfield 30, 3) := by decide +kernel
theorem dX10_drain_75 : decode cX10_drain 75 = .ok (.iconst 0, 1) := by decide +kernel
theorem dX10_drain_76 : decode cX10_drain 76 = .ok (.iaload, 1) := by decide +kernel
theorem dX10_drain_77 : decode cX10_drain 77 = .ok (.goto 15, 3) := by decide +kernel
theorem dX10_drain_80 : decode cX10_drain 80 = .ok (.aload_n 0, 1) := by decide +kernel
theorem dX10_drain_81 : decode cX10_drain 81 = .ok (.aload_n 0, 1) := by decide +kernel
theorem dX10_drain_82 : decode cX10_drain 82 = .ok (.getfield 33, 3) := by decide +kernel
theorem dX10_drain_85 : decode cX10_drain 85 = .ok (.bipush 14, 2) := by decide +kernel
theorem dX10_drain_87 : decode cX10_drain 87 = .ok (.iaload, 1) := by decide +kernel
theorem dX10_drain_88 : decode cX10_drain 88 = .ok (.iconst 0, 1) := by decide +kernel
theorem dX10_drain_89 : decode cX10_drain 89 = .ok (.invokevirtual 334, 3) := by decide +kernel
theorem dX10_drain_92 : decode cX10_drain 92 = .ok (.istore_n 3, 1) := by decide +kernel
theorem dX10_drain_93 : decode cX10_drain 93 = .ok (.aload_n 0, 1) := by decide +kernel
theorem dX10_drain_94 : decode cX10_drain 94 = .ok (.getfield 33, 3) := by decide +kernel
theorem dX10_drain_97 : decode cX10_drain 97 = .ok (.aload_n 0, 1) := by decide +kernel
theorem dX10_drain_98 : decode cX10_drain 98 = .ok (.getfield 30, 3) := by decide +kernel
theorem dX10_drain_101 : decode cX10_drain 101 = .ok (.invokestatic 287, 3) := by decide +kernel
theorem dX10_drain_104 : decode cX10_drain 104 = .ok (.iload_n 3, 1) := by decide +kernel
theorem dX10_drain_105 : decode cX10_drain 105 = .ok (.ireturn, 1) := by decide +kernel
theorem dX10_leastTarget_0 : decode cX10_leastTarget 0 = .ok (.aload_n 0, 1) := by decide +kernel
theorem dX10_leastTarget_1 : decode cX10_leastTarget 1 = .ok (.iconst 0, 1) := by decide +kernel
theorem dX10_leastTarget_2 : decode cX10_leastTarget 2 = .ok (.putfield 45, 3) := by decide +kernel
theorem dX10_leastTarget_5 : decode cX10_leastTarget 5 = .ok (.iload_n 1, 1) := by decide +kernel
theorem dX10_leastTarget_6 : decode cX10_leastTarget 6 = .ok (.invokestatic 328, 3) := by decide +kernel
theorem dX10_leastTarget_9 : decode cX10_leastTarget 9 = .ok (.ifCond .ne 5, 3) := by decide +kernel
theorem dX10_leastTarget_12 : decode cX10_leastTarget 12 = .ok (.iconst (-1), 1) := by decide +kernel
theorem dX10_leastTarget_13 : decode cX10_leastTarget 13 = .ok (.ireturn, 1) := by decide +kernel
theorem dX10_leastTarget_14 : decode cX10_leastTarget 14 = .ok (.aload_n 0, 1) := by decide +kernel
theorem dX10_leastTarget_15 : decode cX10_leastTarget 15 = .ok (.getfield 30, 3) := by decide +kernel
theorem dX10_leastTarget_18 : decode cX10_leastTarget 18 = .ok (.aload_n 0, 1) := by decide +kernel
theorem dX10_leastTarget_19 : decode cX10_leastTarget 19 = .ok (.getfield 33, 3) := by decide +kernel
theorem dX10_leastTarget_22 : decode cX10_leastTarget 22 = .ok (.invokestatic 287, 3) := by decide +kernel
theorem dX10_leastTarget_25 : decode cX10_leastTarget 25 = .ok (.bipush (-2), 2) := by decide +kernel
theorem dX10_leastTarget_27 : decode cX10_leastTarget 27 = .ok (.istore_n 2, 1) := by decide +kernel
theorem dX10_leastTarget_28 : decode cX10_leastTarget 28 = .ok (.iconst 1, 1) := by decide +kernel
theorem dX10_leastTarget_29 : decode cX10_leastTarget 29 = .ok (.istore_n 3, 1) := by decide +kernel
theorem dX10_leastTarget_30 : decode cX10_leastTarget 30 = .ok (.iload_n 3, 1) := by decide +kernel
theorem dX10_leastTarget_31 : decode cX10_leastTarget 31 = .ok (.bipush 99, 2) := by decide +kernel
theorem dX10_leastTarget_33 : decode cX10_leastTarget 33 = .ok (.if_icmp .gt 74, 3) := by decide +kernel
theorem dX10_leastTarget_36 : decode cX10_leastTarget 36 = .ok (.iload_n 2, 1) := by decide +kernel
theorem dX10_leastTarget_37 : decode cX10_leastTarget 37 = .ok (.bipush (-2), 2) := by decide +kernel
theorem dX10_leastTarget_39 : decode cX10_leastTarget 39 = .ok (.if_icmp .ne 68, 3) := by decide +kernel
theorem dX10_leastTarget_42 : decode cX10_leastTarget 42 = .ok (.aload_n 0, 1) := by decide +kernel
theorem dX10_leastTarget_43 : decode cX10_leastTarget 43 = .ok (.getfield 30, 3) := by decide +kernel
theorem dX10_leastTarget_46 : decode cX10_leastTarget 46 = .ok (.iconst 4, 1) := by decide +kernel
theorem dX10_leastTarget_47 : decode cX10_leastTarget 47 = .ok (.iload_n 3, 1) := by decide +kernel
theorem dX10_leastTarget_48 : decode cX10_leastTarget 48 = .ok (.iastore, 1) := by decide +kernel
theorem dX10_leastTarget_49 : decode cX10_leastTarget 49 = .ok (.aload_n 0, 1) := by decide +kernel
theorem dX10_leastTarget_50 : decode cX10_leastTarget 50 = .ok (.iload_n 1, 1) := by decide +kernel
theorem dX10_leastTarget_51 : decode cX10_leastTarget 51 = .ok (.invokevirtual 331, 3) := by decide +kernel
theorem dX10_leastTarget_54 : decode cX10_leastTarget 54 = .ok (.aload_n 0, 1) := by decide +kernel
theorem dX10_leastTarget_55 : decode cX10_leastTarget 55 = .ok (.getfield 30, 3) := by decide +kernel
theorem dX10_leastTarget_58 : decode cX10_leastTarget 58 = .ok (.bipush 15, 2) := by decide +kernel
theorem dX10_leastTarget_60 : decode cX10_leastTarget 60 = .ok (.iaload, 1) := by decide +kernel
theorem dX10_leastTarget_61 : decode cX10_leastTarget 61 = .ok (.aload_n 0, 1) := by decide +kernel
theorem dX10_leastTarget_62 : decode cX10_leastTarget 62 = .ok (.getfield 33, 3) := by decide +kernel
theorem dX10_leastTarget_65 : decode cX10_leastTarget 65 = .ok (.bipush 15, 2) := by decide +kernel
theorem dX10_leastTarget_67 : decode cX10_leastTarget 67 = .ok (.iaload, 1) := by decide +kernel
theorem dX10_leastTarget_68 : decode cX10_leastTarget 68 = .ok (.if_icmp .ne 22, 3) := by decide +kernel
theorem dX10_leastTarget_71 : decode cX10_leastTarget 71 = .ok (.aload_n 0, 1) := by decide +kernel
theorem dX10_leastTarget_72 : decode cX10_leastTarget 72 = .ok (.getfield 30, 3) := by decide +kernel
theorem dX10_leastTarget_75 : decode cX10_leastTarget 75 = .ok (.bipush 16, 2) := by decide +kernel
theorem dX10_leastTarget_77 : decode cX10_leastTarget 77 = .ok (.iaload, 1) := by decide +kernel
theorem dX10_leastTarget_78 : decode cX10_leastTarget 78 = .ok (.aload_n 0, 1) := by decide +kernel
theorem dX10_leastTarget_79 : decode cX10_leastTarget 79 = .ok (.getfield 33, 3) := by decide +kernel
theorem dX10_leastTarget_82 : decode cX10_leastTarget 82 = .ok (.bipush 16, 2) := by decide +kernel
theorem dX10_leastTarget_84 : decode cX10_leastTarget 84 = .ok (.iaload, 1) := by decide +kernel
theorem dX10_leastTarget_85 : decode cX10_leastTarget 85 = .ok (.if_icmp .ne 5, 3) := by decide +kernel
theorem dX10_leastTarget_88 : decode cX10_leastTarget 88 = .ok (.iload_n 3, 1) := by decide +kernel
theorem dX10_leastTarget_89 : decode cX10_leastTarget 89 = .ok (.istore_n 2, 1) := by decide +kernel
theorem dX10_leastTarget_90 : decode cX10_leastTarget 90 = .ok (.aload_n 0, 1) := by decide +kernel
theorem dX10_leastTarget_91 : decode cX10_leastTarget 91 = .ok (.getfield 33, 3) := by decide +kernel
theorem dX10_leastTarget_94 : decode cX10_leastTarget 94 = .ok (.aload_n 0, 1) := by decide +kernel
theorem dX10_leastTarget_95 : decode cX10_leastTarget 95 = .ok (.getfield 30, 3) := by decide +kernel
theorem dX10_leastTarget_98 : decode cX10_leastTarget 98 = .ok (.invokestatic 287, 3) := by decide +kernel
theorem dX10_leastTarget_101 : decode cX10_leastTarget 101 = .ok (.iinc 3 1, 3) := by decide +kernel
theorem dX10_leastTarget_104 : decode cX10_leastTarget 104 = .ok (.goto (-74), 3) := by decide +kernel
theorem dX10_leastTarget_107 : decode cX10_leastTarget 107 = .ok (.iload_n 2, 1) := by decide +kernel
theorem dX10_leastTarget_108 : decode cX10_leastTarget 108 = .ok (.ireturn, 1) := by decide +kernel
theorem dX10_bestQuantum_0 : decode cX10_bestQuantum 0 = .ok (.aload_n 0, 1) := by decide +kernel
theorem dX10_bestQuantum_1 : decode cX10_bestQuantum 1 = .ok (.iconst 0, 1) := by decide +kernel
theorem dX10_bestQuantum_2 : decode cX10_bestQuantum 2 = .ok (.putfield 45, 3) := by decide +kernel
theorem dX10_bestQuantum_5 : decode cX10_bestQuantum 5 = .ok (.iload_n 1, 1) := by decide +kernel
theorem dX10_bestQuantum_6 : decode cX10_bestQuantum 6 = .ok (.invokestatic 328, 3) := by decide +kernel
theorem dX10_bestQuantum_9 : decode cX10_bestQuantum 9 = .ok (.ifCond .ne 5, 3) := by decide +kernel
theorem dX10_bestQuantum_12 : decode cX10_bestQuantum 12 = .ok (.iconst (-1), 1) := by decide +kernel
theorem dX10_bestQuantum_13 : decode cX10_bestQuantum 13 = .ok (.ireturn, 1) := by decide +kernel
theorem dX10_bestQuantum_14 : decode cX10_bestQuantum 14 = .ok (.aload_n 0, 1) := by decide +kernel
theorem dX10_bestQuantum_15 : decode cX10_bestQuantum 15 = .ok (.getfield 30, 3) := by decide +kernel
theorem dX10_bestQuantum_18 : decode cX10_bestQuantum 18 = .ok (.aload_n 0, 1) := by decide +kernel
theorem dX10_bestQuantum_19 : decode cX10_bestQuantum 19 = .ok (.getfield 33, 3) := by decide +kernel
theorem dX10_bestQuantum_22 : decode cX10_bestQuantum 22 = .ok (.invokestatic 287, 3) := by decide +kernel
theorem dX10_bestQuantum_25 : decode cX10_bestQuantum 25 = .ok (.iconst (-1), 1) := by decide +kernel
theorem dX10_bestQuantum_26 : decode cX10_bestQuantum 26 = .ok (.istore_n 2, 1) := by decide +kernel
theorem dX10_bestQuantum_27 : decode cX10_bestQuantum 27 = .ok (.iconst 0, 1) := by decide +kernel
theorem dX10_bestQuantum_28 : decode cX10_bestQuantum 28 = .ok (.istore_n 3, 1) := by decide +kernel
theorem dX10_bestQuantum_29 : decode cX10_bestQuantum 29 = .ok (.bipush 50, 2) := by decide +kernel
theorem dX10_bestQuantum_31 : decode cX10_bestQuantum 31 = .ok (.istore 4, 2) := by decide +kernel
theorem dX10_bestQuantum_33 : decode cX10_bestQuantum 33 = .ok (.iload 4, 2) := by decide +kernel
theorem dX10_bestQuantum_35 : decode cX10_bestQuantum 35 = .ok (.sipush 3000, 3) := by decide +kernel
theorem dX10_bestQuantum_38 : decode cX10_bestQuantum 38 = .ok (.if_icmp .gt 68, 3) := by decide +kernel
theorem dX10_bestQuantum_41 : decode cX10_bestQuantum 41 = .ok (.aload_n 0, 1) := by decide +kernel
theorem dX10_bestQuantum_42 : decode cX10_bestQuantum 42 = .ok (.getfield 30, 3) := by decide +kernel
theorem dX10_bestQuantum_45 : decode cX10_bestQuantum 45 = .ok (.bipush 6, 2) := by decide +kernel
theorem dX10_bestQuantum_47 : decode cX10_bestQuantum 47 = .ok (.iload 4, 2) := by decide +kernel
theorem dX10_bestQuantum_49 : decode cX10_bestQuantum 49 = .ok (.iastore, 1) := by decide +kernel
theorem dX10_bestQuantum_50 : decode cX10_bestQuantum 50 = .ok (.aload_n 0, 1) := by decide +kernel
theorem dX10_bestQuantum_51 : decode cX10_bestQuantum 51 = .ok (.iload_n 1, 1) := by decide +kernel
theorem dX10_bestQuantum_52 : decode cX10_bestQuantum 52 = .ok (.invokevirtual 331, 3) := by decide +kernel
theorem dX10_bestQuantum_55 : decode cX10_bestQuantum 55 = .ok (.aload_n 0, 1) := by decide +kernel
theorem dX10_bestQuantum_56 : decode cX10_bestQuantum 56 = .ok (.aload_n 0, 1) := by decide +kernel
theorem dX10_bestQuantum_57 : decode cX10_bestQuantum 57 = .ok (.getfield 33, 3) := by decide +kernel
theorem dX10_bestQuantum_60 : decode cX10_bestQuantum 60 = .ok (.bipush 14, 2) := by decide +kernel
theorem dX10_bestQuantum_62 : decode cX10_bestQuantum 62 = .ok (.iaload, 1) := by decide +kernel
theorem dX10_bestQuantum_63 : decode cX10_bestQuantum 63 = .ok (.iconst 1, 1) := by decide +kernel
theorem dX10_bestQuantum_64 : decode cX10_bestQuantum 64 = .ok (.invokevirtual 334, 3) := by decide +kernel
theorem dX10_bestQuantum_67 : decode cX10_bestQuantum 67 = .ok (.istore 5, 2) := by decide +kernel
theorem dX10_bestQuantum_69 : decode cX10_bestQuantum 69 = .ok (.aload_n 0, 1) := by decide +kernel
theorem dX10_bestQuantum_70 : decode cX10_bestQuantum 70 = .ok (.getfield 33, 3) := by decide +kernel
theorem dX10_bestQuantum_73 : decode cX10_bestQuantum 73 = .ok (.aload_n 0, 1) := by decide +kernel
theorem dX10_bestQuantum_74 : decode cX10_bestQuantum 74 = .ok (.getfield 30, 3) := by decide +kernel
theorem dX10_bestQuantum_77 : decode cX10_bestQuantum 77 = .ok (.invokestatic 287, 3) := by decide +kernel
theorem dX10_bestQuantum_80 : decode cX10_bestQuantum 80 = .ok (.iload_n 2, 1) := by decide +kernel
theorem dX10_bestQuantum_81 : decode cX10_bestQuantum 81 = .ok (.iconst (-1), 1) := by decide +kernel
theorem dX10_bestQuantum_82 : decode cX10_bestQuantum 82 = .ok (.if_icmp .eq 12, 3) := by decide +kernel
theorem dX10_bestQuantum_85 : decode cX10_bestQuantum 85 = .ok (.iload 5, 2) := by decide +kernel
theorem dX10_bestQuantum_87 : decode cX10_bestQuantum 87 = .ok (.iload_n 3, 1) := by decide +kernel
theorem dX10_bestQuantum_88 : decode cX10_bestQuantum 88 = .ok (.if_icmp .lt 6, 3) := by decide +kernel
theorem dX10_bestQuantum_91 : decode cX10_bestQuantum 91 = .ok (.goto 9, 3) := by decide +kernel
theorem dX10_bestQuantum_94 : decode cX10_bestQuantum 94 = .ok (.iload 4, 2) := by decide +kernel
theorem dX10_bestQuantum_96 : decode cX10_bestQuantum 96 = .ok (.istore_n 2, 1) := by decide +kernel
theorem dX10_bestQuantum_97 : decode cX10_bestQuantum 97 = .ok (.iload 5, 2) := by decide +kernel
theorem dX10_bestQuantum_99 : decode cX10_bestQuantum 99 = .ok (.istore_n 3, 1) := by decide +kernel
theorem dX10_bestQuantum_100 : decode cX10_bestQuantum 100 = .ok (.iinc 4 50, 3) := by decide +kernel
theorem dX10_bestQuantum_103 : decode cX10_bestQuantum 103 = .ok (.goto (-70), 3) := by decide +kernel
theorem dX10_bestQuantum_106 : decode cX10_bestQuantum 106 = .ok (.iload_n 2, 1) := by decide +kernel
theorem dX10_bestQuantum_107 : decode cX10_bestQuantum 107 = .ok (.ireturn, 1) := by decide +kernel
theorem dX10_run_0 : decode cX10_run 0 = .ok (.aload_n 0, 1) := by decide +kernel
theorem dX10_run_1 : decode cX10_run 1 = .ok (.iconst 0, 1) := by decide +kernel
theorem dX10_run_2 : decode cX10_run 2 = .ok (.putfield 45, 3) := by decide +kernel
theorem dX10_run_5 : decode cX10_run 5 = .ok (.iload_n 1, 1) := by decide +kernel
theorem dX10_run_6 : decode cX10_run 6 = .ok (.invokestatic 281, 3) := by decide +kernel
theorem dX10_run_9 : decode cX10_run 9 = .ok (.ifCond .ne 5, 3) := by decide +kernel
theorem dX10_run_12 : decode cX10_run 12 = .ok (.iconst (-1), 1) := by decide +kernel
theorem dX10_run_13 : decode cX10_run 13 = .ok (.ireturn, 1) := by decide +kernel
theorem dX10_run_14 : decode cX10_run 14 = .ok (.aload_n 0, 1) := by decide +kernel
theorem dX10_run_15 : decode cX10_run 15 = .ok (.getfield 30, 3) := by decide +kernel
theorem dX10_run_18 : decode cX10_run 18 = .ok (.bipush 14, 2) := by decide +kernel
theorem dX10_run_20 : decode cX10_run 20 = .ok (.iaload, 1) := by decide +kernel
theorem dX10_run_21 : decode cX10_run 21 = .ok (.istore_n 2, 1) := by decide +kernel
theorem dX10_run_22 : decode cX10_run 22 = .ok (.aload_n 0, 1) := by decide +kernel
theorem dX10_run_23 : decode cX10_run 23 = .ok (.iload_n 1, 1) := by decide +kernel
theorem dX10_run_24 : decode cX10_run 24 = .ok (.invokevirtual 284, 3) := by decide +kernel
theorem dX10_run_27 : decode cX10_run 27 = .ok (.aload_n 0, 1) := by decide +kernel
theorem dX10_run_28 : decode cX10_run 28 = .ok (.getfield 30, 3) := by decide +kernel
theorem dX10_run_31 : decode cX10_run 31 = .ok (.bipush 14, 2) := by decide +kernel
theorem dX10_run_33 : decode cX10_run 33 = .ok (.iaload, 1) := by decide +kernel
theorem dX10_run_34 : decode cX10_run 34 = .ok (.iload_n 2, 1) := by decide +kernel
theorem dX10_run_35 : decode cX10_run 35 = .ok (.isub, 1) := by decide +kernel
theorem dX10_run_36 : decode cX10_run 36 = .ok (.ireturn, 1) := by decide +kernel
theorem dX10_ifRun_0 : decode cX10_ifRun 0 = .ok (.aload_n 0, 1) := by decide +kernel
theorem dX10_ifRun_1 : decode cX10_ifRun 1 = .ok (.iconst 0, 1) := by decide +kernel
theorem dX10_ifRun_2 : decode cX10_ifRun 2 = .ok (.putfield 45, 3) := by decide +kernel
theorem dX10_ifRun_5 : decode cX10_ifRun 5 = .ok (.iload_n 1, 1) := by decide +kernel
theorem dX10_ifRun_6 : decode cX10_ifRun 6 = .ok (.invokestatic 281, 3) := by decide +kernel
theorem dX10_ifRun_9 : decode cX10_ifRun 9 = .ok (.ifCond .eq 12, 3) := by decide +kernel
theorem dX10_ifRun_12 : decode cX10_ifRun 12 = .ok (.iload_n 2, 1) := by decide +kernel
theorem dX10_ifRun_13 : decode cX10_ifRun 13 = .ok (.ifCond .lt 8, 3) := by decide +kernel
theorem dX10_ifRun_16 : decode cX10_ifRun 16 = .ok (.iload_n 2, 1) := by decide +kernel
theorem dX10_ifRun_17 : decode cX10_ifRun 17 = .ok (.iconst 5, 1) := by decide +kernel
theorem dX10_ifRun_18 : decode cX10_ifRun 18 = .ok (.if_icmp .le 5, 3) := by decide +kernel
theorem dX10_ifRun_21 : decode cX10_ifRun 21 = .ok (.iconst (-1), 1) := by decide +kernel
theorem dX10_ifRun_22 : decode cX10_ifRun 22 = .ok (.ireturn, 1) := by decide +kernel
theorem dX10_ifRun_23 : decode cX10_ifRun 23 = .ok (.aload_n 0, 1) := by decide +kernel
theorem dX10_ifRun_24 : decode cX10_ifRun 24 = .ok (.getfield 30, 3) := by decide +kernel
theorem dX10_ifRun_27 : decode cX10_ifRun 27 = .ok (.aload_n 0, 1) := by decide +kernel
theorem dX10_ifRun_28 : decode cX10_ifRun 28 = .ok (.getfield 33, 3) := by decide +kernel
theorem dX10_ifRun_31 : decode cX10_ifRun 31 = .ok (.invokestatic 287, 3) := by decide +kernel
theorem dX10_ifRun_34 : decode cX10_ifRun 34 = .ok (.aload_n 0, 1) := by decide +kernel
theorem dX10_ifRun_35 : decode cX10_ifRun 35 = .ok (.iload_n 1, 1) := by decide +kernel
theorem dX10_ifRun_36 : decode cX10_ifRun 36 = .ok (.invokevirtual 284, 3) := by decide +kernel
theorem dX10_ifRun_39 : decode cX10_ifRun 39 = .ok (.iload_n 2, 1) := by decide +kernel
theorem dX10_ifRun_40 : decode cX10_ifRun 40 = .ok (.iconst 4, 1) := by decide +kernel
theorem dX10_ifRun_41 : decode cX10_ifRun 41 = .ok (.if_icmp .ge 25, 3) := by decide +kernel
theorem dX10_ifRun_44 : decode cX10_ifRun 44 = .ok (.aload_n 0, 1) := by decide +kernel
theorem dX10_ifRun_45 : decode cX10_ifRun 45 = .ok (.getfield 30, 3) := by decide +kernel
theorem dX10_ifRun_48 : decode cX10_ifRun 48 = .ok (.bipush 14, 2) := by decide +kernel
theorem dX10_ifRun_50 : decode cX10_ifRun 50 = .ok (.iload_n 2, 1) := by decide +kernel
theorem dX10_ifRun_51 : decode cX10_ifRun 51 = .ok (.iadd, 1) := by decide +kernel
theorem dX10_ifRun_52 : decode cX10_ifRun 52 = .ok (.iaload, 1) := by decide +kernel
theorem dX10_ifRun_53 : decode cX10_ifRun 53 = .ok (.aload_n 0, 1) := by decide +kernel
theorem dX10_ifRun_54 : decode cX10_ifRun 54 = .ok (.getfield 33, 3) := by decide +kernel
theorem dX10_ifRun_57 : decode cX10_ifRun 57 = .ok (.bipush 14, 2) := by decide +kernel
theorem dX10_ifRun_59 : decode cX10_ifRun 59 = .ok (.iload_n 2, 1) := by decide +kernel
theorem dX10_ifRun_60 : decode cX10_ifRun 60 = .ok (.iadd, 1) := by decide +kernel
theorem dX10_ifRun_61 : decode cX10_ifRun 61 = .ok (.iaload, 1) := by decide +kernel
theorem dX10_ifRun_62 : decode cX10_ifRun 62 = .ok (.isub, 1) := by decide +kernel
theorem dX10_ifRun_63 : decode cX10_ifRun 63 = .ok (.goto 21, 3) := by decide +kernel
theorem dX10_ifRun_66 : decode cX10_ifRun 66 = .ok (.iload_n 2, 1) := by decide +kernel
theorem dX10_ifRun_67 : decode cX10_ifRun 67 = .ok (.iconst 4, 1) := by decide +kernel
theorem dX10_ifRun_68 : decode cX10_ifRun 68 = .ok (.if_icmp .ne 12, 3) := by decide +kernel
theorem dX10_ifRun_71 : decode cX10_ifRun 71 = .ok (.aload_n 0, 1) := by decide +kernel
theorem dX10_ifRun_72 : decode cX10_ifRun 72 = .ok (.getfield 30, 3) := by decide +kernel
theorem dX10_ifRun_75 : decode cX10_ifRun 75 = .ok (.iconst 0, 1) := by decide +kernel
theorem dX10_ifRun_76 : decode cX10_ifRun 76 = .ok (.iaload, 1) := by decide +kernel
theorem dX10_ifRun_77 : decode cX10_ifRun 77 = .ok (.goto 7, 3) := by decide +kernel
theorem dX10_ifRun_80 : decode cX10_ifRun 80 = .ok (.aload_n 0, 1) := by decide +kernel
theorem dX10_ifRun_81 : decode cX10_ifRun 81 = .ok (.invokevirtual 291, 3) := by decide +kernel
theorem dX10_ifRun_84 : decode cX10_ifRun 84 = .ok (.istore_n 3, 1) := by decide +kernel
theorem dX10_ifRun_85 : decode cX10_ifRun 85 = .ok (.aload_n 0, 1) := by decide +kernel
theorem dX10_ifRun_86 : decode cX10_ifRun 86 = .ok (.getfield 33, 3) := by decide +kernel
theorem dX10_ifRun_89 : decode cX10_ifRun 89 = .ok (.aload_n 0, 1) := by decide +kernel
theorem dX10_ifRun_90 : decode cX10_ifRun 90 = .ok (.getfield 30, 3) := by decide +kernel
theorem dX10_ifRun_93 : decode cX10_ifRun 93 = .ok (.invokestatic 287, 3) := by decide +kernel
theorem dX10_ifRun_96 : decode cX10_ifRun 96 = .ok (.iload_n 3, 1) := by decide +kernel
theorem dX10_ifRun_97 : decode cX10_ifRun 97 = .ok (.ireturn, 1) := by decide +kernel
theorem dX10_leastLimit_0 : decode cX10_leastLimit 0 = .ok (.aload_n 0, 1) := by decide +kernel
theorem dX10_leastLimit_1 : decode cX10_leastLimit 1 = .ok (.iconst 0, 1) := by decide +kernel
theorem dX10_leastLimit_2 : decode cX10_leastLimit 2 = .ok (.putfield 45, 3) := by decide +kernel
theorem dX10_leastLimit_5 : decode cX10_leastLimit 5 = .ok (.iload_n 1, 1) := by decide +kernel
theorem dX10_leastLimit_6 : decode cX10_leastLimit 6 = .ok (.invokestatic 281, 3) := by decide +kernel
theorem dX10_leastLimit_9 : decode cX10_leastLimit 9 = .ok (.ifCond .ne 5, 3) := by decide +kernel
theorem dX10_leastLimit_12 : decode cX10_leastLimit 12 = .ok (.iconst (-1), 1) := by decide +kernel
theorem dX10_leastLimit_13 : decode cX10_leastLimit 13 = .ok (.ireturn, 1) := by decide +kernel
theorem dX10_leastLimit_14 : decode cX10_leastLimit 14 = .ok (.aload_n 0, 1) := by decide +kernel
theorem dX10_leastLimit_15 : decode cX10_leastLimit 15 = .ok (.getfield 30, 3) := by decide +kernel
theorem dX10_leastLimit_18 : decode cX10_leastLimit 18 = .ok (.aload_n 0, 1) := by decide +kernel
theorem dX10_leastLimit_19 : decode cX10_leastLimit 19 = .ok (.getfield 33, 3) := by decide +kernel
theorem dX10_leastLimit_22 : decode cX10_leastLimit 22 = .ok (.invokestatic 287, 3) := by decide +kernel
theorem dX10_leastLimit_25 : decode cX10_leastLimit 25 = .ok (.bipush (-2), 2) := by decide +kernel
theorem dX10_leastLimit_27 : decode cX10_leastLimit 27 = .ok (.istore_n 2, 1) := by decide +kernel
theorem dX10_leastLimit_28 : decode cX10_leastLimit 28 = .ok (.iconst 1, 1) := by decide +kernel
theorem dX10_leastLimit_29 : decode cX10_leastLimit 29 = .ok (.istore_n 3, 1) := by decide +kernel
theorem dX10_leastLimit_30 : decode cX10_leastLimit 30 = .ok (.iload_n 3, 1) := by decide +kernel
theorem dX10_leastLimit_31 : decode cX10_leastLimit 31 = .ok (.bipush 60, 2) := by decide +kernel
theorem dX10_leastLimit_33 : decode cX10_leastLimit 33 = .ok (.if_icmp .gt 58, 3) := by decide +kernel
theorem dX10_leastLimit_36 : decode cX10_leastLimit 36 = .ok (.iload_n 2, 1) := by decide +kernel
theorem dX10_leastLimit_37 : decode cX10_leastLimit 37 = .ok (.bipush (-2), 2) := by decide +kernel
theorem dX10_leastLimit_39 : decode cX10_leastLimit 39 = .ok (.if_icmp .ne 52, 3) := by decide +kernel
theorem dX10_leastLimit_42 : decode cX10_leastLimit 42 = .ok (.aload_n 0, 1) := by decide +kernel
theorem dX10_leastLimit_43 : decode cX10_leastLimit 43 = .ok (.getfield 30, 3) := by decide +kernel
theorem dX10_leastLimit_46 : decode cX10_leastLimit 46 = .ok (.bipush 7, 2) := by decide +kernel
theorem dX10_leastLimit_48 : decode cX10_leastLimit 48 = .ok (.iload_n 3, 1) := by decide +kernel
theorem dX10_leastLimit_49 : decode cX10_leastLimit 49 = .ok (.iastore, 1) := by decide +kernel
theorem dX10_leastLimit_50 : decode cX10_leastLimit 50 = .ok (.aload_n 0, 1) := by decide +kernel
theorem dX10_leastLimit_51 : decode cX10_leastLimit 51 = .ok (.iload_n 1, 1) := by decide +kernel
theorem dX10_leastLimit_52 : decode cX10_leastLimit 52 = .ok (.invokevirtual 284, 3) := by decide +kernel
theorem dX10_leastLimit_55 : decode cX10_leastLimit 55 = .ok (.aload_n 0, 1) := by decide +kernel
theorem dX10_leastLimit_56 : decode cX10_leastLimit 56 = .ok (.getfield 30, 3) := by decide +kernel
theorem dX10_leastLimit_59 : decode cX10_leastLimit 59 = .ok (.bipush 17, 2) := by decide +kernel
theorem dX10_leastLimit_61 : decode cX10_leastLimit 61 = .ok (.iaload, 1) := by decide +kernel
theorem dX10_leastLimit_62 : decode cX10_leastLimit 62 = .ok (.aload_n 0, 1) := by decide +kernel
theorem dX10_leastLimit_63 : decode cX10_leastLimit 63 = .ok (.getfield 33, 3) := by decide +kernel
theorem dX10_leastLimit_66 : decode cX10_leastLimit 66 = .ok (.bipush 17, 2) := by decide +kernel
theorem dX10_leastLimit_68 : decode cX10_leastLimit 68 = .ok (.iaload, 1) := by decide +kernel
theorem dX10_leastLimit_69 : decode cX10_leastLimit 69 = .ok (.if_icmp .ne 5, 3) := by decide +kernel
theorem dX10_leastLimit_72 : decode cX10_leastLimit 72 = .ok (.iload_n 3, 1) := by decide +kernel
theorem dX10_leastLimit_73 : decode cX10_leastLimit 73 = .ok (.istore_n 2, 1) := by decide +kernel
theorem dX10_leastLimit_74 : decode cX10_leastLimit 74 = .ok (.aload_n 0, 1) := by decide +kernel
theorem dX10_leastLimit_75 : decode cX10_leastLimit 75 = .ok (.getfield 33, 3) := by decide +kernel
theorem dX10_leastLimit_78 : decode cX10_leastLimit 78 = .ok (.aload_n 0, 1) := by decide +kernel
theorem dX10_leastLimit_79 : decode cX10_leastLimit 79 = .ok (.getfield 30, 3) := by decide +kernel
theorem dX10_leastLimit_82 : decode cX10_leastLimit 82 = .ok (.invokestatic 287, 3) := by decide +kernel
theorem dX10_leastLimit_85 : decode cX10_leastLimit 85 = .ok (.iinc 3 1, 3) := by decide +kernel
theorem dX10_leastLimit_88 : decode cX10_leastLimit 88 = .ok (.goto (-58), 3) := by decide +kernel
theorem dX10_leastLimit_91 : decode cX10_leastLimit 91 = .ok (.iload_n 2, 1) := by decide +kernel
theorem dX10_leastLimit_92 : decode cX10_leastLimit 92 = .ok (.ireturn, 1) := by decide +kernel
theorem dX10_bestTarget_0 : decode cX10_bestTarget 0 = .ok (.aload_n 0, 1) := by decide +kernel
theorem dX10_bestTarget_1 : decode cX10_bestTarget 1 = .ok (.iconst 0, 1) := by decide +kernel
theorem dX10_bestTarget_2 : decode cX10_bestTarget 2 = .ok (.putfield 45, 3) := by decide +kernel
theorem dX10_bestTarget_5 : decode cX10_bestTarget 5 = .ok (.iload_n 1, 1) := by decide +kernel
theorem dX10_bestTarget_6 : decode cX10_bestTarget 6 = .ok (.invokestatic 281, 3) := by decide +kernel
theorem dX10_bestTarget_9 : decode cX10_bestTarget 9 = .ok (.ifCond .ne 5, 3) := by decide +kernel
theorem dX10_bestTarget_12 : decode cX10_bestTarget 12 = .ok (.iconst (-1), 1) := by decide +kernel
theorem dX10_bestTarget_13 : decode cX10_bestTarget 13 = .ok (.ireturn, 1) := by decide +kernel
theorem dX10_bestTarget_14 : decode cX10_bestTarget 14 = .ok (.aload_n 0, 1) := by decide +kernel
theorem dX10_bestTarget_15 : decode cX10_bestTarget 15 = .ok (.getfield 30, 3) := by decide +kernel
theorem dX10_bestTarget_18 : decode cX10_bestTarget 18 = .ok (.aload_n 0, 1) := by decide +kernel
theorem dX10_bestTarget_19 : decode cX10_bestTarget 19 = .ok (.getfield 33, 3) := by decide +kernel
theorem dX10_bestTarget_22 : decode cX10_bestTarget 22 = .ok (.invokestatic 287, 3) := by decide +kernel
theorem dX10_bestTarget_25 : decode cX10_bestTarget 25 = .ok (.iconst (-1), 1) := by decide +kernel
theorem dX10_bestTarget_26 : decode cX10_bestTarget 26 = .ok (.istore_n 2, 1) := by decide +kernel
theorem dX10_bestTarget_27 : decode cX10_bestTarget 27 = .ok (.iconst (-1), 1) := by decide +kernel
theorem dX10_bestTarget_28 : decode cX10_bestTarget 28 = .ok (.istore_n 3, 1) := by decide +kernel
theorem dX10_bestTarget_29 : decode cX10_bestTarget 29 = .ok (.iconst 1, 1) := by decide +kernel
theorem dX10_bestTarget_30 : decode cX10_bestTarget 30 = .ok (.istore 4, 2) := by decide +kernel
theorem dX10_bestTarget_32 : decode cX10_bestTarget 32 = .ok (.iload 4, 2) := by decide +kernel
theorem dX10_bestTarget_34 : decode cX10_bestTarget 34 = .ok (.bipush 99, 2) := by decide +kernel
theorem dX10_bestTarget_36 : decode cX10_bestTarget 36 = .ok (.if_icmp .gt 61, 3) := by decide +kernel
theorem dX10_bestTarget_39 : decode cX10_bestTarget 39 = .ok (.aload_n 0, 1) := by decide +kernel
theorem dX10_bestTarget_40 : decode cX10_bestTarget 40 = .ok (.getfield 30, 3) := by decide +kernel
theorem dX10_bestTarget_43 : decode cX10_bestTarget 43 = .ok (.iconst 4, 1) := by decide +kernel
theorem dX10_bestTarget_44 : decode cX10_bestTarget 44 = .ok (.iload 4, 2) := by decide +kernel
theorem dX10_bestTarget_46 : decode cX10_bestTarget 46 = .ok (.iastore, 1) := by decide +kernel
theorem dX10_bestTarget_47 : decode cX10_bestTarget 47 = .ok (.aload_n 0, 1) := by decide +kernel
theorem dX10_bestTarget_48 : decode cX10_bestTarget 48 = .ok (.iload_n 1, 1) := by decide +kernel
theorem dX10_bestTarget_49 : decode cX10_bestTarget 49 = .ok (.invokevirtual 284, 3) := by decide +kernel
theorem dX10_bestTarget_52 : decode cX10_bestTarget 52 = .ok (.aload_n 0, 1) := by decide +kernel
theorem dX10_bestTarget_53 : decode cX10_bestTarget 53 = .ok (.aload_n 0, 1) := by decide +kernel
theorem dX10_bestTarget_54 : decode cX10_bestTarget 54 = .ok (.getfield 33, 3) := by decide +kernel
theorem dX10_bestTarget_57 : decode cX10_bestTarget 57 = .ok (.bipush 14, 2) := by decide +kernel
theorem dX10_bestTarget_59 : decode cX10_bestTarget 59 = .ok (.iaload, 1) := by decide +kernel
theorem dX10_bestTarget_60 : decode cX10_bestTarget 60 = .ok (.invokevirtual 297, 3) := by decide +kernel
theorem dX10_bestTarget_63 : decode cX10_bestTarget 63 = .ok (.istore 5, 2) := by decide +kernel
theorem dX10_bestTarget_65 : decode cX10_bestTarget 65 = .ok (.aload_n 0, 1) := by decide +kernel
theorem dX10_bestTarget_66 : decode cX10_bestTarget 66 = .ok (.getfield 33, 3) := by decide +kernel
theorem dX10_bestTarget_69 : decode cX10_bestTarget 69 = .ok (.aload_n 0, 1) := by decide +kernel
theorem dX10_bestTarget_70 : decode cX10_bestTarget 70 = .ok (.getfield 30, 3) := by decide +kernel
theorem dX10_bestTarget_73 : decode cX10_bestTarget 73 = .ok (.invokestatic 287, 3) := by decide +kernel
theorem dX10_bestTarget_76 : decode cX10_bestTarget 76 = .ok (.iload 5, 2) := by decide +kernel
theorem dX10_bestTarget_78 : decode cX10_bestTarget 78 = .ok (.iload_n 3, 1) := by decide +kernel
theorem dX10_bestTarget_79 : decode cX10_bestTarget 79 = .ok (.if_icmp .gt 6, 3) := by decide +kernel
theorem dX10_bestTarget_82 : decode cX10_bestTarget 82 = .ok (.goto 9, 3) := by decide +kernel
theorem dX10_bestTarget_85 : decode cX10_bestTarget 85 = .ok (.iload 4, 2) := by decide +kernel
theorem dX10_bestTarget_87 : decode cX10_bestTarget 87 = .ok (.istore_n 2, 1) := by decide +kernel
theorem dX10_bestTarget_88 : decode cX10_bestTarget 88 = .ok (.iload 5, 2) := by decide +kernel
theorem dX10_bestTarget_90 : decode cX10_bestTarget 90 = .ok (.istore_n 3, 1) := by decide +kernel
theorem dX10_bestTarget_91 : decode cX10_bestTarget 91 = .ok (.iinc 4 1, 3) := by decide +kernel
theorem dX10_bestTarget_94 : decode cX10_bestTarget 94 = .ok (.goto (-62), 3) := by decide +kernel
theorem dX10_bestTarget_97 : decode cX10_bestTarget 97 = .ok (.iload_n 2, 1) := by decide +kernel
theorem dX10_bestTarget_98 : decode cX10_bestTarget 98 = .ok (.ireturn, 1) := by decide +kernel
def p_X10_thrown (h : Hp) (o0 : Nat) : Option (Int32 × Hp) :=
  some (h o0 0, h)
set_option maxRecDepth 4000 in
theorem s_X10_thrown {p : Program} {l : Launch} {e : Env} {s : State} {m : MethodId} {args : Array Value} {below : List Frame} {meth : Method} {c : Code} {G : GT} (cx : CX p s m args c cX10_thrown 1 RX10 G) (hr : meth.sig.returnType = (some .int)) (hlk : meth.locks = false) (h : Hp) (o0 : Nat) (hk_o0 : kd o0 = 9) : PF p l e (rmc 0 0) s m args below meth c 1 G 0 0 (QI below G args s) 0 [some (.ref (gad G o0))] [] h (p_X10_thrown h o0) := by
  unfold p_X10_thrown
  refine f_aload_n (pc := 0) cx dX10_thrown_0 rfl rfl ?_
  refine g_X10_45 (pc := 1) cx hk_o0 dX10_thrown_1 ?_
  exact f_iret cx hr hlk rfl dX10_thrown_4
set_option maxRecDepth 4000 in
theorem c_X10_thrown (l : Launch) (G : GT) (h : Hp) (o0 : Nat) (hk_o0 : kd o0 = 9) : CtI l G yX10_thrown cX10_thrown 1 (some .int) 0 0 [.ref (gad G o0)] h (p_X10_thrown h o0) := fun a ha => Ct.of (lv := [some (.ref (gad G o0))]) (by decide) rfl (Nat.le_of_ble_eq_true rfl) rfl (fun p e s m args below meth c cx hr hlk => s_X10_thrown cx hr hlk h o0 hk_o0 a ha)
def q_X10_feed_73 (k20 : Hp × Int32 → Option (Int32 × Hp)) (h : Hp) (o0 : Nat) (x1 : Int32) (x2 : Int32) (x3 : Int32) (x4 : Int32) (x5 : Int32) (x6 : Int32) (y0 : Int32) : Option (Int32 × Hp) :=
  if ib ((h o0 2) + x6) 900 then (nv (hp h (o0 + 1) (Int32.toNatClampNeg ((h o0 2) + x6)) ((y0 >>> ((24 - (8 * (x6 - x6 / 4 * 4))) &&& 31)) &&& 255)) fun h2 => k20 (h2, x6 + 1)) else none
def b_X10_feed_20 (o0 : Nat) (x1 : Int32) (x2 : Int32) (x3 : Int32) (x4 : Int32) (x5 : Int32) (k20 : Hp × Int32 → Option (Int32 × Hp)) (q : Hp × Int32) : Option (Int32 × Hp) :=
  if 20 ≤ q.2 then (nv (hp q.1 o0 2 ((q.1 o0 2) + 20)) fun h3 => some (h3 o0 2, h3)) else (if 4 ≤ q.2 then (if 8 ≤ q.2 then (if 12 ≤ q.2 then (if 16 ≤ q.2 then (q_X10_feed_73 k20 q.1 o0 x1 x2 x3 x4 x5 q.2 x5) else (q_X10_feed_73 k20 q.1 o0 x1 x2 x3 x4 x5 q.2 x4)) else (q_X10_feed_73 k20 q.1 o0 x1 x2 x3 x4 x5 q.2 x3)) else (q_X10_feed_73 k20 q.1 o0 x1 x2 x3 x4 x5 q.2 x2)) else (q_X10_feed_73 k20 q.1 o0 x1 x2 x3 x4 x5 q.2 x1))
def p_X10_feed (h : Hp) (o0 : Nat) (x1 : Int32) (x2 : Int32) (x3 : Int32) (x4 : Int32) (x5 : Int32) : Option (Int32 × Hp) :=
  nv (hp h o0 0 0) fun h4 => if (h4 o0 2) ≤ 880 then (lp (b_X10_feed_20 o0 x1 x2 x3 x4 x5) FU (h4, 0)) else (some ((-1), h4))
set_option maxRecDepth 4000 in
theorem s_X10_feed_73 {p : Program} {l : Launch} {e : Env} {s : State} {m : MethodId} {args : Array Value} {below : List Frame} {meth : Method} {c : Code} {G : GT} (cx : CX p s m args c cX10_feed 8 RX10 G) (hr : meth.sig.returnType = (some .int)) (hlk : meth.locks = false) (h : Hp) (o0 : Nat) (x1 : Int32) (x2 : Int32) (x3 : Int32) (x4 : Int32) (x5 : Int32) (x6 : Int32) (y0 : Int32) (hk_o0 : kd o0 = 9) (k20 : Hp × Int32 → Option (Int32 × Hp)) (hk20 : ∀ (q : Hp × Int32), PF p l e (rmc 0 0) s m args below meth c 8 G 0 0 (QI below G args s) 20 [some (.ref (gad G o0)), some (.int x1), some (.int x2), some (.int x3), some (.int x4), some (.int x5), some (.int q.2), none] [] q.1 (k20 q)) : PF p l e (rmc 0 0) s m args below meth c 8 G 0 0 (QI below G args s) 73 [some (.ref (gad G o0)), some (.int x1), some (.int x2), some (.int x3), some (.int x4), some (.int x5), some (.int x6), none] [.int y0] h (q_X10_feed_73 k20 h o0 x1 x2 x3 x4 x5 x6 y0) := by
  unfold q_X10_feed_73
  refine f_istore7 (pc := 73) cx dX10_feed_73 (by decide) rfl ?_
  refine f_aload_n (pc := 75) cx dX10_feed_75 rfl rfl ?_
  refine g_X10_7 (pc := 76) cx hk_o0 dX10_feed_76 ?_
  refine f_aload_n (pc := 79) cx dX10_feed_79 rfl rfl ?_
  refine g_X10_48 (pc := 80) cx hk_o0 dX10_feed_80 ?_
  refine f_iload (pc := 83) cx dX10_feed_83 rfl ?_
  refine f_iadd (pc := 85) cx dX10_feed_85 ?_
  refine f_iload (pc := 86) cx dX10_feed_86 rfl ?_
  refine f_bipush (pc := 88) cx dX10_feed_88 kc_bipush_24 ?_
  refine f_bipush (pc := 90) cx dX10_feed_90 kc_bipush_8 ?_
  refine f_iload (pc := 92) cx dX10_feed_92 rfl ?_
  refine f_iconst (pc := 94) cx dX10_feed_94 kc_iconst_4 ?_
  refine f_irem (pc := 95) cx dX10_feed_95 (by decide) ?_
  refine f_imul (pc := 96) cx dX10_feed_96 ?_
  refine f_isub (pc := 97) cx dX10_feed_97 ?_
  refine f_ishr (pc := 98) cx dX10_feed_98 ?_
  refine f_sipush (pc := 99) cx dX10_feed_99 kc_sipush_255 ?_
  refine f_iand (pc := 102) cx dX10_feed_102 ?_
  refine f_need (fun c1 => ?_)
  refine f_iast (pc := 103) (n := 900) cx (kf_9_1 hk_o0) (by decide) c1 dX10_feed_103 ?_
  refine f_nvh (fun h2 => ?_)
  refine f_iinc6 (pc := 104) cx dX10_feed_104 kc_iconst_1 (by decide) rfl ?_
  refine f_goto (pc := 107) (tgt := 20) cx dX10_feed_107 (by decide) ?_
  exact f_weak (LSb.s (LSb.s (LSb.s (LSb.s (LSb.s (LSb.s (LSb.s (LSb.n LSb.e)))))))) (hk20 (h2, x6 + 1))
set_option maxRecDepth 4000 in
theorem s_X10_feed_20 {p : Program} {l : Launch} {e : Env} {s : State} {m : MethodId} {args : Array Value} {below : List Frame} {meth : Method} {c : Code} {G : GT} (cx : CX p s m args c cX10_feed 8 RX10 G) (hr : meth.sig.returnType = (some .int)) (hlk : meth.locks = false) (o0 : Nat) (x1 : Int32) (x2 : Int32) (x3 : Int32) (x4 : Int32) (x5 : Int32) (hk_o0 : kd o0 = 9) : ∀ (n : Nat) (q : Hp × Int32), PF p l e (rmc 0 0) s m args below meth c 8 G 0 0 (QI below G args s) 20 [some (.ref (gad G o0)), some (.int x1), some (.int x2), some (.int x3), some (.int x4), some (.int x5), some (.int q.2), none] [] q.1 (lp (b_X10_feed_20 o0 x1 x2 x3 x4 x5) n q) := by
  refine f_lp (lvf := fun (q : Hp × Int32) => [some (.ref (gad G o0)), some (.int x1), some (.int x2), some (.int x3), some (.int x4), some (.int x5), some (.int q.2), none]) (hf := fun (q : Hp × Int32) => q.1) (fun k20 hk20 q => ?_)
  show PF p l e (rmc 0 0) s m args below meth c 8 G 0 0 (QI below G args s) 20 [some (.ref (gad G o0)), some (.int x1), some (.int x2), some (.int x3), some (.int x4), some (.int x5), some (.int q.2), none] [] q.1 (b_X10_feed_20 o0 x1 x2 x3 x4 x5 k20 q)
  unfold b_X10_feed_20
  refine f_iload (pc := 20) cx dX10_feed_20 rfl ?_
  refine f_bipush (pc := 22) cx dX10_feed_22 kc_bipush_20 ?_
  refine f_icmp_ge (pc := 24) (tgt := 110) cx dX10_feed_24 (by decide) (fun _ => ?_) (fun _ => ?_)
  · refine f_aload_n (pc := 110) cx dX10_feed_110 rfl rfl ?_
    refine f_dup (pc := 111) cx dX10_feed_111 rfl ?_
    refine g_X10_48 (pc := 112) cx hk_o0 dX10_feed_112 ?_
    refine f_bipush (pc := 115) cx dX10_feed_115 kc_bipush_20 ?_
    refine f_iadd (pc := 117) cx dX10_feed_117 ?_
    refine u_X10_48 (pc := 118) cx hk_o0 dX10_feed_118 ?_
    refine f_nvh (fun h3 => ?_)
    refine f_aload_n (pc := 121) cx dX10_feed_121 rfl rfl ?_
    refine g_X10_48 (pc := 122) cx hk_o0 dX10_feed_122 ?_
    exact f_iret cx hr hlk rfl dX10_feed_125
  · refine f_iload (pc := 27) cx dX10_feed_27 rfl ?_
    refine f_iconst (pc := 29) cx dX10_feed_29 kc_iconst_4 ?_
    refine f_icmp_ge (pc := 30) (tgt := 37) cx dX10_feed_30 (by decide) (fun _ => ?_) (fun _ => ?_)
    · refine f_iload (pc := 37) cx dX10_feed_37 rfl ?_
      refine f_bipush (pc := 39) cx dX10_feed_39 kc_bipush_8 ?_
      refine f_icmp_ge (pc := 41) (tgt := 48) cx dX10_feed_41 (by decide) (fun _ => ?_) (fun _ => ?_)
      · refine f_iload (pc := 48) cx dX10_feed_48 rfl ?_
        refine f_bipush (pc := 50) cx dX10_feed_50 kc_bipush_12 ?_
        refine f_icmp_ge (pc := 52) (tgt := 59) cx dX10_feed_52 (by decide) (fun _ => ?_) (fun _ => ?_)
        · refine f_iload (pc := 59) cx dX10_feed_59 rfl ?_
          refine f_bipush (pc := 61) cx dX10_feed_61 kc_bipush_16 ?_
          refine f_icmp_ge (pc := 63) (tgt := 71) cx dX10_feed_63 (by decide) (fun _ => ?_) (fun _ => ?_)
          · refine f_iload (pc := 71) cx dX10_feed_71 rfl ?_
            exact f_weak (LSb.s (LSb.s (LSb.s (LSb.s (LSb.s (LSb.s (LSb.s (LSb.n LSb.e)))))))) (s_X10_feed_73 cx hr hlk _ o0 x1 x2 x3 x4 x5 q.2 x5 hk_o0 k20 hk20)
          · refine f_iload (pc := 66) cx dX10_feed_66 rfl ?_
            refine f_goto (pc := 68) (tgt := 73) cx dX10_feed_68 (by decide) ?_
            exact f_weak (LSb.s (LSb.s (LSb.s (LSb.s (LSb.s (LSb.s (LSb.s (LSb.n LSb.e)))))))) (s_X10_feed_73 cx hr hlk _ o0 x1 x2 x3 x4 x5 q.2 x4 hk_o0 k20 hk20)
        · refine f_iload_n (pc := 55) cx dX10_feed_55 rfl rfl ?_
          refine f_goto (pc := 56) (tgt := 73) cx dX10_feed_56 (by decide) ?_
          exact f_weak (LSb.s (LSb.s (LSb.s (LSb.s (LSb.s (LSb.s (LSb.s (LSb.n LSb.e)))))))) (s_X10_feed_73 cx hr hlk _ o0 x1 x2 x3 x4 x5 q.2 x3 hk_o0 k20 hk20)
      · refine f_iload_n (pc := 44) cx dX10_feed_44 rfl rfl ?_
        refine f_goto (pc := 45) (tgt := 73) cx dX10_feed_45 (by decide) ?_
        exact f_weak (LSb.s (LSb.s (LSb.s (LSb.s (LSb.s (LSb.s (LSb.s (LSb.n LSb.e)))))))) (s_X10_feed_73 cx hr hlk _ o0 x1 x2 x3 x4 x5 q.2 x2 hk_o0 k20 hk20)
    · refine f_iload_n (pc := 33) cx dX10_feed_33 rfl rfl ?_
      refine f_goto (pc := 34) (tgt := 73) cx dX10_feed_34 (by decide) ?_
      exact f_weak (LSb.s (LSb.s (LSb.s (LSb.s (LSb.s (LSb.s (LSb.s (LSb.n LSb.e)))))))) (s_X10_feed_73 cx hr hlk _ o0 x1 x2 x3 x4 x5 q.2 x1 hk_o0 k20 hk20)
set_option maxRecDepth 4000 in
theorem s_X10_feed {p : Program} {l : Launch} {e : Env} {s : State} {m : MethodId} {args : Array Value} {below : List Frame} {meth : Method} {c : Code} {G : GT} (cx : CX p s m args c cX10_feed 8 RX10 G) (hr : meth.sig.returnType = (some .int)) (hlk : meth.locks = false) (h : Hp) (o0 : Nat) (x1 : Int32) (x2 : Int32) (x3 : Int32) (x4 : Int32) (x5 : Int32) (hk_o0 : kd o0 = 9) : PF p l e (rmc 0 0) s m args below meth c 8 G 0 0 (QI below G args s) 0 [some (.ref (gad G o0)), some (.int x1), some (.int x2), some (.int x3), some (.int x4), some (.int x5), none, none] [] h (p_X10_feed h o0 x1 x2 x3 x4 x5) := by
  unfold p_X10_feed
  refine f_aload_n (pc := 0) cx dX10_feed_0 rfl rfl ?_
  refine f_iconst (pc := 1) cx dX10_feed_1 kc_iconst_0 ?_
  refine u_X10_45 (pc := 2) cx hk_o0 dX10_feed_2 ?_
  refine f_nvh (fun h4 => ?_)
  refine f_aload_n (pc := 5) cx dX10_feed_5 rfl rfl ?_
  refine g_X10_48 (pc := 6) cx hk_o0 dX10_feed_6 ?_
  refine f_sipush (pc := 9) cx dX10_feed_9 kc_sipush_880 ?_
  refine f_icmp_le (pc := 12) (tgt := 17) cx dX10_feed_12 (by decide) (fun _ => ?_) (fun _ => ?_)
  · refine f_iconst (pc := 17) cx dX10_feed_17 kc_iconst_0 ?_
    refine f_istore6 (pc := 18) cx dX10_feed_18 (by decide) rfl ?_
    exact f_weak (LSb.s (LSb.s (LSb.s (LSb.s (LSb.s (LSb.s (LSb.s (LSb.n LSb.e)))))))) (s_X10_feed_20 cx hr hlk o0 x1 x2 x3 x4 x5 hk_o0 FU (h4, 0))
  · refine f_iconst (pc := 15) cx dX10_feed_15 kc_iconst_m1 ?_
    exact f_iret cx hr hlk rfl dX10_feed_16
set_option maxRecDepth 4000 in
theorem c_X10_feed (l : Launch) (G : GT) (h : Hp) (o0 : Nat) (x1 : Int32) (x2 : Int32) (x3 : Int32) (x4 : Int32) (x5 : Int32) (hk_o0 : kd o0 = 9) : CtI l G yX10_feed cX10_feed 8 (some .int) 0 0 [.ref (gad G o0), .int x1, .int x2, .int x3, .int x4, .int x5] h (p_X10_feed h o0 x1 x2 x3 x4 x5) := fun a ha => Ct.of (lv := [some (.ref (gad G o0)), some (.int x1), some (.int x2), some (.int x3), some (.int x4), some (.int x5), none, none]) (by decide) rfl (Nat.le_of_ble_eq_true rfl) rfl (fun p e s m args below meth c cx hr hlk => s_X10_feed cx hr hlk h o0 x1 x2 x3 x4 x5 hk_o0 a ha)
def p_X10_here (h : Hp) (o0 : Nat) : Option (Int32 × Hp) :=
  if (h o0 11) ≤ (h o0 12) then (some ((-1), h)) else (if ib (h o0 12) 900 then (some (h (o0 + 1) (Int32.toNatClampNeg (h o0 12)), h)) else none)
set_option maxRecDepth 4000 in
theorem s_X10_here {p : Program} {l : Launch} {e : Env} {s : State} {m : MethodId} {args : Array Value} {below : List Frame} {meth : Method} {c : Code} {G : GT} (cx : CX p s m args c cX10_here 1 RX10 G) (hr : meth.sig.returnType = (some .int)) (hlk : meth.locks = false) (h : Hp) (o0 : Nat) (hk_o0 : kd o0 = 9) : PF p l e (rmc 0 0) s m args below meth c 1 G 0 0 (QI below G args s) 0 [some (.ref (gad G o0))] [] h (p_X10_here h o0) := by
  unfold p_X10_here
  refine f_aload_n (pc := 0) cx dX10_here_0 rfl rfl ?_
  refine g_X10_51 (pc := 1) cx hk_o0 dX10_here_1 ?_
  refine f_aload_n (pc := 4) cx dX10_here_4 rfl rfl ?_
  refine g_X10_54 (pc := 5) cx hk_o0 dX10_here_5 ?_
  refine f_icmp_ge (pc := 8) (tgt := 23) cx dX10_here_8 (by decide) (fun _ => ?_) (fun _ => ?_)
  · refine f_iconst (pc := 23) cx dX10_here_23 kc_iconst_m1 ?_
    exact f_iret cx hr hlk rfl dX10_here_24
  · refine f_aload_n (pc := 11) cx dX10_here_11 rfl rfl ?_
    refine g_X10_7 (pc := 12) cx hk_o0 dX10_here_12 ?_
    refine f_aload_n (pc := 15) cx dX10_here_15 rfl rfl ?_
    refine g_X10_51 (pc := 16) cx hk_o0 dX10_here_16 ?_
    refine f_need (fun c1 => ?_)
    refine f_iald (pc := 19) (n := 900) cx (kf_9_1 hk_o0) (by decide) c1 dX10_here_19 ?_
    refine f_goto (pc := 20) (tgt := 24) cx dX10_here_20 (by decide) ?_
    exact f_iret cx hr hlk rfl dX10_here_24
set_option maxRecDepth 4000 in
theorem c_X10_here (l : Launch) (G : GT) (h : Hp) (o0 : Nat) (hk_o0 : kd o0 = 9) : CtI l G yX10_here cX10_here 1 (some .int) 0 0 [.ref (gad G o0)] h (p_X10_here h o0) := fun a ha => Ct.of (lv := [some (.ref (gad G o0))]) (by decide) rfl (Nat.le_of_ble_eq_true rfl) rfl (fun p e s m args below meth c cx hr hlk => s_X10_here cx hr hlk h o0 hk_o0 a ha)
def p_X10_isSmall (h : Hp) (x0 : Int32) : Option (Int32 × Hp) :=
  if x0 < 97 then (some (0, h)) else (if 122 < x0 then (some (0, h)) else (some (1, h)))
set_option maxRecDepth 4000 in
theorem s_X10_isSmall {p : Program} {l : Launch} {e : Env} {s : State} {m : MethodId} {args : Array Value} {below : List Frame} {meth : Method} {c : Code} {G : GT} (cx : CX p s m args c cX10_isSmall 1 RX10 G) (hr : meth.sig.returnType = (some .boolean)) (hlk : meth.locks = false) (h : Hp) (x0 : Int32) : PF p l e (rmc 0 0) s m args below meth c 1 G 0 0 (QI below G args s) 0 [some (.int x0)] [] h (p_X10_isSmall h x0) := by
  unfold p_X10_isSmall
  refine f_iload_n (pc := 0) cx dX10_isSmall_0 rfl rfl ?_
  refine f_bipush (pc := 1) cx dX10_isSmall_1 kc_bipush_97 ?_
  refine f_icmp_lt (pc := 3) (tgt := 16) cx dX10_isSmall_3 (by decide) (fun _ => ?_) (fun _ => ?_)
  · refine f_iconst (pc := 16) cx dX10_isSmall_16 kc_iconst_0 ?_
    exact f_iret cx hr hlk (bb_n bb_0).1 dX10_isSmall_17
  · refine f_iload_n (pc := 6) cx dX10_isSmall_6 rfl rfl ?_
    refine f_bipush (pc := 7) cx dX10_isSmall_7 kc_bipush_122 ?_
    refine f_icmp_gt (pc := 9) (tgt := 16) cx dX10_isSmall_9 (by decide) (fun _ => ?_) (fun _ => ?_)
    · refine f_iconst (pc := 16) cx dX10_isSmall_16 kc_iconst_0 ?_
      exact f_iret cx hr hlk (bb_n bb_0).1 dX10_isSmall_17
    · refine f_iconst (pc := 12) cx dX10_isSmall_12 kc_iconst_1 ?_
      refine f_goto (pc := 13) (tgt := 17) cx dX10_isSmall_13 (by decide) ?_
      exact f_iret cx hr hlk (bb_n bb_1).1 dX10_isSmall_17
set_option maxRecDepth 4000 in
theorem c_X10_isSmall (l : Launch) (G : GT) (h : Hp) (x0 : Int32) : CtI l G yX10_isSmall cX10_isSmall 1 (some .boolean) 0 0 [.int x0] h (p_X10_isSmall h x0) := fun a ha => Ct.of (lv := [some (.int x0)]) (by decide) rfl (Nat.le_of_ble_eq_true rfl) rfl (fun p e s m args below meth c cx hr hlk => s_X10_isSmall cx hr hlk h x0 a ha)
def p_X10_isDigit (h : Hp) (x0 : Int32) : Option (Int32 × Hp) :=
  if x0 < 48 then (some (0, h)) else (if 57 < x0 then (some (0, h)) else (some (1, h)))
set_option maxRecDepth 4000 in
theorem s_X10_isDigit {p : Program} {l : Launch} {e : Env} {s : State} {m : MethodId} {args : Array Value} {below : List Frame} {meth : Method} {c : Code} {G : GT} (cx : CX p s m args c cX10_isDigit 1 RX10 G) (hr : meth.sig.returnType = (some .boolean)) (hlk : meth.locks = false) (h : Hp) (x0 : Int32) : PF p l e (rmc 0 0) s m args below meth c 1 G 0 0 (QI below G args s) 0 [some (.int x0)] [] h (p_X10_isDigit h x0) := by
  unfold p_X10_isDigit
  refine f_iload_n (pc := 0) cx dX10_isDigit_0 rfl rfl ?_
  refine f_bipush (pc := 1) cx dX10_isDigit_1 kc_bipush_48 ?_
  refine f_icmp_lt (pc := 3) (tgt := 16) cx dX10_isDigit_3 (by decide) (fun _ => ?_) (fun _ => ?_)
  · refine f_iconst (pc := 16) cx dX10_isDigit_16 kc_iconst_0 ?_
    exact f_iret cx hr hlk (bb_n bb_0).1 dX10_isDigit_17
  · refine f_iload_n (pc := 6) cx dX10_isDigit_6 rfl rfl ?_
    refine f_bipush (pc := 7) cx dX10_isDigit_7 kc_bipush_57 ?_
    refine f_icmp_gt (pc := 9) (tgt := 16) cx dX10_isDigit_9 (by decide) (fun _ => ?_) (fun _ => ?_)
    · refine f_iconst (pc := 16) cx dX10_isDigit_16 kc_iconst_0 ?_
      exact f_iret cx hr hlk (bb_n bb_0).1 dX10_isDigit_17
    · refine f_iconst (pc := 12) cx dX10_isDigit_12 kc_iconst_1 ?_
      refine f_goto (pc := 13) (tgt := 17) cx dX10_isDigit_13 (by decide) ?_
      exact f_iret cx hr hlk (bb_n bb_1).1 dX10_isDigit_17
set_option maxRecDepth 4000 in
theorem c_X10_isDigit (l : Launch) (G : GT) (h : Hp) (x0 : Int32) : CtI l G yX10_isDigit cX10_isDigit 1 (some .boolean) 0 0 [.int x0] h (p_X10_isDigit h x0) := fun a ha => Ct.of (lv := [some (.int x0)]) (by decide) rfl (Nat.le_of_ble_eq_true rfl) rfl (fun p e s m args below meth c cx hr hlk => s_X10_isDigit cx hr hlk h x0 a ha)
def p_X10_wrong (h : Hp) (o0 : Nat) (x1 : Int32) : Option Hp :=
  if (h o0 16) = 0 then (nv (hp h o0 16 x1) fun h1 => nv (hp h1 o0 17 (h1 o0 13)) fun h2 => some h2) else (some h)
set_option maxRecDepth 4000 in
theorem s_X10_wrong {p : Program} {l : Launch} {e : Env} {s : State} {m : MethodId} {args : Array Value} {below : List Frame} {meth : Method} {c : Code} {G : GT} (cx : CX p s m args c cX10_wrong 2 RX10 G) (hr : meth.sig.returnType = none) (hlk : meth.locks = false) (h : Hp) (o0 : Nat) (x1 : Int32) (hk_o0 : kd o0 = 9) : PF p l e (rmc 0 0) s m args below meth c 2 G 0 0 (QV below G args s) 0 [some (.ref (gad G o0)), some (.int x1)] [] h (p_X10_wrong h o0 x1) := by
  unfold p_X10_wrong
  refine f_aload_n (pc := 0) cx dX10_wrong_0 rfl rfl ?_
  refine g_X10_92 (pc := 1) cx hk_o0 dX10_wrong_1 ?_
  refine f_if_eq (pc := 4) (tgt := 8) cx dX10_wrong_4 (by decide) (fun _ => ?_) (fun _ => ?_)
  · refine f_aload_n (pc := 8) cx dX10_wrong_8 rfl rfl ?_
    refine f_iload_n (pc := 9) cx dX10_wrong_9 rfl rfl ?_
    refine u_X10_92 (pc := 10) cx hk_o0 dX10_wrong_10 ?_
    refine f_nvh (fun h1 => ?_)
    refine f_aload_n (pc := 13) cx dX10_wrong_13 rfl rfl ?_
    refine f_aload_n (pc := 14) cx dX10_wrong_14 rfl rfl ?_
    refine g_X10_61 (pc := 15) cx hk_o0 dX10_wrong_15 ?_
    refine u_X10_95 (pc := 18) cx hk_o0 dX10_wrong_18 ?_
    refine f_nvh (fun h2 => ?_)
    exact f_vret cx hr hlk dX10_wrong_21
  · exact f_vret cx hr hlk dX10_wrong_7
set_option maxRecDepth 4000 in
theorem c_X10_wrong (l : Launch) (G : GT) (h : Hp) (o0 : Nat) (x1 : Int32) (hk_o0 : kd o0 = 9) : CtV l G yX10_wrong cX10_wrong 2 none 0 0 [.ref (gad G o0), .int x1] h (p_X10_wrong h o0 x1) := fun a ha => Ct.of (lv := [some (.ref (gad G o0)), some (.int x1)]) (by decide) rfl (Nat.le_of_ble_eq_true rfl) rfl (fun p e s m args below meth c cx hr hlk => s_X10_wrong cx hr hlk h o0 x1 hk_o0 a ha)
def p_X10_notes (h : Hp) (o0 : Nat) (x1 : Int32) : Option Hp :=
  if (h o0 16) = 0 then (if ib (h o0 8) 900 then (nv (hp h (o0 + 5) (Int32.toNatClampNeg (h o0 8)) x1) fun h2 => nv (hp h2 o0 8 ((h2 o0 8) + 1)) fun h3 => some h3) else none) else (some h)
set_option maxRecDepth 4000 in
theorem s_X10_notes {p : Program} {l : Launch} {e : Env} {s : State} {m : MethodId} {args : Array Value} {below : List Frame} {meth : Method} {c : Code} {G : GT} (cx : CX p s m args c cX10_notes 2 RX10 G) (hr : meth.sig.returnType = none) (hlk : meth.locks = false) (h : Hp) (o0 : Nat) (x1 : Int32) (hk_o0 : kd o0 = 9) : PF p l e (rmc 0 0) s m args below meth c 2 G 0 0 (QV below G args s) 0 [some (.ref (gad G o0)), some (.int x1)] [] h (p_X10_notes h o0 x1) := by
  unfold p_X10_notes
  refine f_aload_n (pc := 0) cx dX10_notes_0 rfl rfl ?_
  refine g_X10_92 (pc := 1) cx hk_o0 dX10_notes_1 ?_
  refine f_if_eq (pc := 4) (tgt := 8) cx dX10_notes_4 (by decide) (fun _ => ?_) (fun _ => ?_)
  · refine f_aload_n (pc := 8) cx dX10_notes_8 rfl rfl ?_
    refine g_X10_23 (pc := 9) cx hk_o0 dX10_notes_9 ?_
    refine f_aload_n (pc := 12) cx dX10_notes_12 rfl rfl ?_
    refine g_X10_108 (pc := 13) cx hk_o0 dX10_notes_13 ?_
    refine f_iload_n (pc := 16) cx dX10_notes_16 rfl rfl ?_
    refine f_need (fun c1 => ?_)
    refine f_iast (pc := 17) (n := 900) cx (kf_9_7 hk_o0) (by decide) c1 dX10_notes_17 ?_
    refine f_nvh (fun h2 => ?_)
    refine f_aload_n (pc := 18) cx dX10_notes_18 rfl rfl ?_
    refine f_dup (pc := 19) cx dX10_notes_19 rfl ?_
    refine g_X10_108 (pc := 20) cx hk_o0 dX10_notes_20 ?_
    refine f_iconst (pc := 23) cx dX10_notes_23 kc_iconst_1 ?_
    refine f_iadd (pc := 24) cx dX10_notes_24 ?_
    refine u_X10_108 (pc := 25) cx hk_o0 dX10_notes_25 ?_
    refine f_nvh (fun h3 => ?_)
    exact f_vret cx hr hlk dX10_notes_28
  · exact f_vret cx hr hlk dX10_notes_7
set_option maxRecDepth 4000 in
theorem c_X10_notes (l : Launch) (G : GT) (h : Hp) (o0 : Nat) (x1 : Int32) (hk_o0 : kd o0 = 9) : CtV l G yX10_notes cX10_notes 2 none 0 0 [.ref (gad G o0), .int x1] h (p_X10_notes h o0 x1) := fun a ha => Ct.of (lv := [some (.ref (gad G o0)), some (.int x1)]) (by decide) rfl (Nat.le_of_ble_eq_true rfl) rfl (fun p e s m args below meth c cx hr hlk => s_X10_notes cx hr hlk h o0 x1 hk_o0 a ha)
def p_X10_leastOf (h : Hp) (x0 : Int32) : Option (Int32 × Hp) :=
  if x0 = 1 then (some (10, h)) else (if x0 = 2 then (some (50, h)) else (if x0 = 4 then (some (0, h)) else (if x0 = 5 then (some (0, h)) else (some (1, h)))))
set_option maxRecDepth 4000 in
theorem s_X10_leastOf {p : Program} {l : Launch} {e : Env} {s : State} {m : MethodId} {args : Array Value} {below : List Frame} {meth : Method} {c : Code} {G : GT} (cx : CX p s m args c cX10_leastOf 1 RX10 G) (hr : meth.sig.returnType = (some .int)) (hlk : meth.locks = false) (h : Hp) (x0 : Int32) : PF p l e (rmc 0 0) s m args below meth c 1 G 0 0 (QI below G args s) 0 [some (.int x0)] [] h (p_X10_leastOf h x0) := by
  unfold p_X10_leastOf
  refine f_iload_n (pc := 0) cx dX10_leastOf_0 rfl rfl ?_
  refine f_iconst (pc := 1) cx dX10_leastOf_1 kc_iconst_1 ?_
  refine f_icmp_ne (pc := 2) (tgt := 10) cx dX10_leastOf_2 (by decide) (fun _ => ?_) (fun _ => ?_)
  · refine f_bipush (pc := 5) cx dX10_leastOf_5 kc_bipush_10 ?_
    refine f_goto (pc := 7) (tgt := 35) cx dX10_leastOf_7 (by decide) ?_
    exact f_iret cx hr hlk rfl dX10_leastOf_35
  · refine f_iload_n (pc := 10) cx dX10_leastOf_10 rfl rfl ?_
    refine f_iconst (pc := 11) cx dX10_leastOf_11 kc_iconst_2 ?_
    refine f_icmp_ne (pc := 12) (tgt := 20) cx dX10_leastOf_12 (by decide) (fun _ => ?_) (fun _ => ?_)
    · refine f_bipush (pc := 15) cx dX10_leastOf_15 kc_bipush_50 ?_
      refine f_goto (pc := 17) (tgt := 35) cx dX10_leastOf_17 (by decide) ?_
      exact f_iret cx hr hlk rfl dX10_leastOf_35
    · refine f_iload_n (pc := 20) cx dX10_leastOf_20 rfl rfl ?_
      refine f_iconst (pc := 21) cx dX10_leastOf_21 kc_iconst_4 ?_
      refine f_icmp_eq (pc := 22) (tgt := 30) cx dX10_leastOf_22 (by decide) (fun _ => ?_) (fun _ => ?_)
      · refine f_iconst (pc := 30) cx dX10_leastOf_30 kc_iconst_0 ?_
        refine f_goto (pc := 31) (tgt := 35) cx dX10_leastOf_31 (by decide) ?_
        exact f_iret cx hr hlk rfl dX10_leastOf_35
      · refine f_iload_n (pc := 25) cx dX10_leastOf_25 rfl rfl ?_
        refine f_iconst (pc := 26) cx dX10_leastOf_26 kc_iconst_5 ?_
        refine f_icmp_ne (pc := 27) (tgt := 34) cx dX10_leastOf_27 (by decide) (fun _ => ?_) (fun _ => ?_)
        · refine f_iconst (pc := 30) cx dX10_leastOf_30 kc_iconst_0 ?_
          refine f_goto (pc := 31) (tgt := 35) cx dX10_leastOf_31 (by decide) ?_
          exact f_iret cx hr hlk rfl dX10_leastOf_35
        · refine f_iconst (pc := 34) cx dX10_leastOf_34 kc_iconst_1 ?_
          exact f_iret cx hr hlk rfl dX10_leastOf_35
set_option maxRecDepth 4000 in
theorem c_X10_leastOf (l : Launch) (G : GT) (h : Hp) (x0 : Int32) : CtI l G yX10_leastOf cX10_leastOf 1 (some .int) 0 0 [.int x0] h (p_X10_leastOf h x0) := fun a ha => Ct.of (lv := [some (.int x0)]) (by decide) rfl (Nat.le_of_ble_eq_true rfl) rfl (fun p e s m args below meth c cx hr hlk => s_X10_leastOf cx hr hlk h x0 a ha)
def p_X10_mostOf (h : Hp) (x0 : Int32) : Option (Int32 × Hp) :=
  if x0 = 0 then (some (99, h)) else if x0 = 1 then (some (999, h)) else if x0 = 2 then (some (3000, h)) else if x0 = 3 then (some (60, h)) else if x0 = 4 then (some (3000, h)) else if x0 = 5 then (some (1500, h)) else (some (4, h))
set_option maxRecDepth 4000 in
theorem s_X10_mostOf {p : Program} {l : Launch} {e : Env} {s : State} {m : MethodId} {args : Array Value} {below : List Frame} {meth : Method} {c : Code} {G : GT} (cx : CX p s m args c cX10_mostOf 1 RX10 G) (hr : meth.sig.returnType = (some .int)) (hlk : meth.locks = false) (h : Hp) (x0 : Int32) : PF p l e (rmc 0 0) s m args below meth c 1 G 0 0 (QI below G args s) 0 [some (.int x0)] [] h (p_X10_mostOf h x0) := by
  unfold p_X10_mostOf
  refine f_iload_n (pc := 0) cx dX10_mostOf_0 rfl rfl ?_
  refine f_case (?_) (fun n1 => ?_)
  · refine f_tin (pc := 1) (tgt := 40) cx dX10_mostOf_1 (by decide) (by decide) rfl (by decide) ?_
    refine f_bipush (pc := 40) cx dX10_mostOf_40 kc_bipush_99 ?_
    exact f_iret cx hr hlk rfl dX10_mostOf_42
  refine f_case (?_) (fun n2 => ?_)
  · refine f_tin (pc := 1) (tgt := 43) cx dX10_mostOf_1 (by decide) (by decide) rfl (by decide) ?_
    refine f_sipush (pc := 43) cx dX10_mostOf_43 kc_sipush_999 ?_
    exact f_iret cx hr hlk rfl dX10_mostOf_46
  refine f_case (?_) (fun n3 => ?_)
  · refine f_tin (pc := 1) (tgt := 47) cx dX10_mostOf_1 (by decide) (by decide) rfl (by decide) ?_
    refine f_sipush (pc := 47) cx dX10_mostOf_47 kc_sipush_3000 ?_
    exact f_iret cx hr hlk rfl dX10_mostOf_50
  refine f_case (?_) (fun n4 => ?_)
  · refine f_tin (pc := 1) (tgt := 51) cx dX10_mostOf_1 (by decide) (by decide) rfl (by decide) ?_
    refine f_bipush (pc := 51) cx dX10_mostOf_51 kc_bipush_60 ?_
    exact f_iret cx hr hlk rfl dX10_mostOf_53
  refine f_case (?_) (fun n5 => ?_)
  · refine f_tin (pc := 1) (tgt := 54) cx dX10_mostOf_1 (by decide) (by decide) rfl (by decide) ?_
    refine f_sipush (pc := 54) cx dX10_mostOf_54 kc_sipush_3000 ?_
    exact f_iret cx hr hlk rfl dX10_mostOf_57
  refine f_case (?_) (fun n6 => ?_)
  · refine f_tin (pc := 1) (tgt := 58) cx dX10_mostOf_1 (by decide) (by decide) rfl (by decide) ?_
    refine f_sipush (pc := 58) cx dX10_mostOf_58 kc_sipush_1500 ?_
    exact f_iret cx hr hlk rfl dX10_mostOf_61
  refine f_tout (pc := 1) (tgt := 62) (N := 6) cx dX10_mostOf_1 (by decide) (by decide) (lt_s (lt_s (lt_s (lt_s (lt_s (lt_s lt_0 n1) n2) n3) n4) n5) n6) (by decide) ?_
  refine f_iconst (pc := 62) cx dX10_mostOf_62 kc_iconst_4 ?_
  exact f_iret cx hr hlk rfl dX10_mostOf_63
set_option maxRecDepth 4000 in
theorem c_X10_mostOf (l : Launch) (G : GT) (h : Hp) (x0 : Int32) : CtI l G yX10_mostOf cX10_mostOf 1 (some .int) 0 0 [.int x0] h (p_X10_mostOf h x0) := fun a ha => Ct.of (lv := [some (.int x0)]) (by decide) rfl (Nat.le_of_ble_eq_true rfl) rfl (fun p e s m args below meth c cx hr hlk => s_X10_mostOf cx hr hlk h x0 a ha)
def b_X10_freshText_64 (o0 : Nat) (k64 : Hp × Int32 → Option Hp) (q : Hp × Int32) : Option Hp :=
  if 8 ≤ q.2 then (nv (hp q.1 o0 6 0) fun h1 => nv (hp h1 o0 8 0) fun h2 => nv (hp h2 o0 9 0) fun h3 => some h3) else (if ib q.2 8 then (nv (hp q.1 (o0 + 3) (Int32.toNatClampNeg q.2) 0) fun h5 => k64 (h5, q.2 + 1)) else none)
def p_X10_freshText (h : Hp) (o0 : Nat) : Option Hp :=
  nv (hp h (o0 + 2) 0 5) fun h6 => nv (hp h6 (o0 + 2) 1 100) fun h7 => nv (hp h7 (o0 + 2) 2 300) fun h8 => nv (hp h8 (o0 + 2) 3 40) fun h9 => nv (hp h9 (o0 + 2) 4 0) fun h10 => nv (hp h10 (o0 + 2) 5 0) fun h11 => nv (hp h11 (o0 + 2) 6 2) fun h12 => nv (hp h12 (o0 + 2) 7 2) fun h13 => lp (b_X10_freshText_64 o0) FU (h13, 0)
set_option maxRecDepth 4000 in
theorem s_X10_freshText_64 {p : Program} {l : Launch} {e : Env} {s : State} {m : MethodId} {args : Array Value} {below : List Frame} {meth : Method} {c : Code} {G : GT} (cx : CX p s m args c cX10_freshText 2 RX10 G) (hr : meth.sig.returnType = none) (hlk : meth.locks = false) (o0 : Nat) (hk_o0 : kd o0 = 9) : ∀ (n : Nat) (q : Hp × Int32), PF p l e (rmc 0 0) s m args below meth c 2 G 0 0 (QV below G args s) 64 [some (.ref (gad G o0)), some (.int q.2)] [] q.1 (lp (b_X10_freshText_64 o0) n q) := by
  refine f_lp (lvf := fun (q : Hp × Int32) => [some (.ref (gad G o0)), some (.int q.2)]) (hf := fun (q : Hp × Int32) => q.1) (fun k64 hk64 q => ?_)
  show PF p l e (rmc 0 0) s m args below meth c 2 G 0 0 (QV below G args s) 64 [some (.ref (gad G o0)), some (.int q.2)] [] q.1 (b_X10_freshText_64 o0 k64 q)
  unfold b_X10_freshText_64
  refine f_iload_n (pc := 64) cx dX10_freshText_64 rfl rfl ?_
  refine f_bipush (pc := 65) cx dX10_freshText_65 kc_bipush_8 ?_
  refine f_icmp_ge (pc := 67) (tgt := 83) cx dX10_freshText_67 (by decide) (fun _ => ?_) (fun _ => ?_)
  · refine f_aload_n (pc := 83) cx dX10_freshText_83 rfl rfl ?_
    refine f_iconst (pc := 84) cx dX10_freshText_84 kc_iconst_0 ?_
    refine u_X10_128 (pc := 85) cx hk_o0 dX10_freshText_85 ?_
    refine f_nvh (fun h1 => ?_)
    refine f_aload_n (pc := 88) cx dX10_freshText_88 rfl rfl ?_
    refine f_iconst (pc := 89) cx dX10_freshText_89 kc_iconst_0 ?_
    refine u_X10_108 (pc := 90) cx hk_o0 dX10_freshText_90 ?_
    refine f_nvh (fun h2 => ?_)
    refine f_aload_n (pc := 93) cx dX10_freshText_93 rfl rfl ?_
    refine f_iconst (pc := 94) cx dX10_freshText_94 kc_iconst_0 ?_
    refine u_X10_122 (pc := 95) cx hk_o0 dX10_freshText_95 ?_
    refine f_nvh (fun h3 => ?_)
    exact f_vret cx hr hlk dX10_freshText_98
  · refine f_aload_n (pc := 70) cx dX10_freshText_70 rfl rfl ?_
    refine g_X10_16 (pc := 71) cx hk_o0 dX10_freshText_71 ?_
    refine f_iload_n (pc := 74) cx dX10_freshText_74 rfl rfl ?_
    refine f_iconst (pc := 75) cx dX10_freshText_75 kc_iconst_0 ?_
    refine f_need (fun c4 => ?_)
    refine f_zast (pc := 76) (n := 8) cx (kf_9_4 hk_o0) (by decide) c4 (bb_v bb_0) dX10_freshText_76 ?_
    refine f_nvh (fun h5 => ?_)
    refine f_iinc1 (pc := 77) cx dX10_freshText_77 kc_iconst_1 (by decide) rfl ?_
    refine f_goto (pc := 80) (tgt := 64) cx dX10_freshText_80 (by decide) ?_
    exact f_weak (LSb.s (LSb.s LSb.e)) (hk64 (h5, q.2 + 1))
set_option maxRecDepth 4000 in
theorem s_X10_freshText {p : Program} {l : Launch} {e : Env} {s : State} {m : MethodId} {args : Array Value} {below : List Frame} {meth : Method} {c : Code} {G : GT} (cx : CX p s m args c cX10_freshText 2 RX10 G) (hr : meth.sig.returnType = none) (hlk : meth.locks = false) (h : Hp) (o0 : Nat) (hk_o0 : kd o0 = 9) : PF p l e (rmc 0 0) s m args below meth c 2 G 0 0 (QV below G args s) 0 [some (.ref (gad G o0)), none] [] h (p_X10_freshText h o0) := by
  unfold p_X10_freshText
  refine f_aload_n (pc := 0) cx dX10_freshText_0 rfl rfl ?_
  refine g_X10_13 (pc := 1) cx hk_o0 dX10_freshText_1 ?_
  refine f_iconst (pc := 4) cx dX10_freshText_4 kc_iconst_0 ?_
  refine f_iconst (pc := 5) cx dX10_freshText_5 kc_iconst_5 ?_
  refine f_iastk (pc := 6) (j := 0) (n := 8) cx (kf_9_3 hk_o0) (by decide) (by decide) kl_0 dX10_freshText_6 ?_
  refine f_nvh (fun h6 => ?_)
  refine f_aload_n (pc := 7) cx dX10_freshText_7 rfl rfl ?_
  refine g_X10_13 (pc := 8) cx hk_o0 dX10_freshText_8 ?_
  refine f_iconst (pc := 11) cx dX10_freshText_11 kc_iconst_1 ?_
  refine f_bipush (pc := 12) cx dX10_freshText_12 kc_bipush_100 ?_
  refine f_iastk (pc := 14) (j := 1) (n := 8) cx (kf_9_3 hk_o0) (by decide) (by decide) kl_1 dX10_freshText_14 ?_
  refine f_nvh (fun h7 => ?_)
  refine f_aload_n (pc := 15) cx dX10_freshText_15 rfl rfl ?_
  refine g_X10_13 (pc := 16) cx hk_o0 dX10_freshText_16 ?_
  refine f_iconst (pc := 19) cx dX10_freshText_19 kc_iconst_2 ?_
  refine f_sipush (pc := 20) cx dX10_freshText_20 kc_sipush_300 ?_
  refine f_iastk (pc := 23) (j := 2) (n := 8) cx (kf_9_3 hk_o0) (by decide) (by decide) kl_2 dX10_freshText_23 ?_
  refine f_nvh (fun h8 => ?_)
  refine f_aload_n (pc := 24) cx dX10_freshText_24 rfl rfl ?_
  refine g_X10_13 (pc := 25) cx hk_o0 dX10_freshText_25 ?_
  refine f_iconst (pc := 28) cx dX10_freshText_28 kc_iconst_3 ?_
  refine f_bipush (pc := 29) cx dX10_freshText_29 kc_bipush_40 ?_
  refine f_iastk (pc := 31) (j := 3) (n := 8) cx (kf_9_3 hk_o0) (by decide) (by decide) kl_3 dX10_freshText_31 ?_
  refine f_nvh (fun h9 => ?_)
  refine f_aload_n (pc := 32) cx dX10_freshText_32 rfl rfl ?_
  refine g_X10_13 (pc := 33) cx hk_o0 dX10_freshText_33 ?_
  refine f_iconst (pc := 36) cx dX10_freshText_36 kc_iconst_4 ?_
  refine f_iconst (pc := 37) cx dX10_freshText_37 kc_iconst_0 ?_
  refine f_iastk (pc := 38) (j := 4) (n := 8) cx (kf_9_3 hk_o0) (by decide) (by decide) kl_4 dX10_freshText_38 ?_
  refine f_nvh (fun h10 => ?_)
  refine f_aload_n (pc := 39) cx dX10_freshText_39 rfl rfl ?_
  refine g_X10_13 (pc := 40) cx hk_o0 dX10_freshText_40 ?_
  refine f_iconst (pc := 43) cx dX10_freshText_43 kc_iconst_5 ?_
  refine f_iconst (pc := 44) cx dX10_freshText_44 kc_iconst_0 ?_
  refine f_iastk (pc := 45) (j := 5) (n := 8) cx (kf_9_3 hk_o0) (by decide) (by decide) kl_5 dX10_freshText_45 ?_
  refine f_nvh (fun h11 => ?_)
  refine f_aload_n (pc := 46) cx dX10_freshText_46 rfl rfl ?_
  refine g_X10_13 (pc := 47) cx hk_o0 dX10_freshText_47 ?_
  refine f_bipush (pc := 50) cx dX10_freshText_50 kc_bipush_6 ?_
  refine f_iconst (pc := 52) cx dX10_freshText_52 kc_iconst_2 ?_
  refine f_iastk (pc := 53) (j := 6) (n := 8) cx (kf_9_3 hk_o0) (by decide) (by decide) kl_6 dX10_freshText_53 ?_
  refine f_nvh (fun h12 => ?_)
  refine f_aload_n (pc := 54) cx dX10_freshText_54 rfl rfl ?_
  refine g_X10_13 (pc := 55) cx hk_o0 dX10_freshText_55 ?_
  refine f_bipush (pc := 58) cx dX10_freshText_58 kc_bipush_7 ?_
  refine f_iconst (pc := 60) cx dX10_freshText_60 kc_iconst_2 ?_
  refine f_iastk (pc := 61) (j := 7) (n := 8) cx (kf_9_3 hk_o0) (by decide) (by decide) kl_7 dX10_freshText_61 ?_
  refine f_nvh (fun h13 => ?_)
  refine f_iconst (pc := 62) cx dX10_freshText_62 kc_iconst_0 ?_
  refine f_istore1 (pc := 63) cx dX10_freshText_63 (by decide) rfl ?_
  exact f_weak (LSb.s (LSb.s LSb.e)) (s_X10_freshText_64 cx hr hlk o0 hk_o0 FU (h13, 0))
set_option maxRecDepth 4000 in
theorem c_X10_freshText (l : Launch) (G : GT) (h : Hp) (o0 : Nat) (hk_o0 : kd o0 = 9) : CtV l G yX10_freshText cX10_freshText 2 none 0 0 [.ref (gad G o0)] h (p_X10_freshText h o0) := fun a ha => Ct.of (lv := [some (.ref (gad G o0)), none]) (by decide) rfl (Nat.le_of_ble_eq_true rfl) rfl (fun p e s m args below meth c cx hr hlk => s_X10_freshText cx hr hlk h o0 hk_o0 a ha)
def p_X10_fault (h : Hp) (o0 : Nat) (x1 : Int32) : Option (Int32 × Hp) :=
  nv (hp h o0 0 0) fun h1 => if x1 = 0 then (some (h1 o0 18, h1)) else (if x1 = 1 then (some (h1 o0 19, h1)) else (some ((-1), h1)))
set_option maxRecDepth 4000 in
theorem s_X10_fault {p : Program} {l : Launch} {e : Env} {s : State} {m : MethodId} {args : Array Value} {below : List Frame} {meth : Method} {c : Code} {G : GT} (cx : CX p s m args c cX10_fault 2 RX10 G) (hr : meth.sig.returnType = (some .int)) (hlk : meth.locks = false) (h : Hp) (o0 : Nat) (x1 : Int32) (hk_o0 : kd o0 = 9) : PF p l e (rmc 0 0) s m args below meth c 2 G 0 0 (QI below G args s) 0 [some (.ref (gad G o0)), some (.int x1)] [] h (p_X10_fault h o0 x1) := by
  unfold p_X10_fault
  refine f_aload_n (pc := 0) cx dX10_fault_0 rfl rfl ?_
  refine f_iconst (pc := 1) cx dX10_fault_1 kc_iconst_0 ?_
  refine u_X10_45 (pc := 2) cx hk_o0 dX10_fault_2 ?_
  refine f_nvh (fun h1 => ?_)
  refine f_iload_n (pc := 5) cx dX10_fault_5 rfl rfl ?_
  refine f_if_ne (pc := 6) (tgt := 16) cx dX10_fault_6 (by decide) (fun _ => ?_) (fun _ => ?_)
  · refine f_aload_n (pc := 9) cx dX10_fault_9 rfl rfl ?_
    refine g_X10_159 (pc := 10) cx hk_o0 dX10_fault_10 ?_
    refine f_goto (pc := 13) (tgt := 29) cx dX10_fault_13 (by decide) ?_
    exact f_iret cx hr hlk rfl dX10_fault_29
  · refine f_iload_n (pc := 16) cx dX10_fault_16 rfl rfl ?_
    refine f_iconst (pc := 17) cx dX10_fault_17 kc_iconst_1 ?_
    refine f_icmp_ne (pc := 18) (tgt := 28) cx dX10_fault_18 (by decide) (fun _ => ?_) (fun _ => ?_)
    · refine f_aload_n (pc := 21) cx dX10_fault_21 rfl rfl ?_
      refine g_X10_26 (pc := 22) cx hk_o0 dX10_fault_22 ?_
      refine f_goto (pc := 25) (tgt := 29) cx dX10_fault_25 (by decide) ?_
      exact f_iret cx hr hlk rfl dX10_fault_29
    · refine f_iconst (pc := 28) cx dX10_fault_28 kc_iconst_m1 ?_
      exact f_iret cx hr hlk rfl dX10_fault_29
set_option maxRecDepth 4000 in
theorem c_X10_fault (l : Launch) (G : GT) (h : Hp) (o0 : Nat) (x1 : Int32) (hk_o0 : kd o0 = 9) : CtI l G yX10_fault cX10_fault 2 (some .int) 0 0 [.ref (gad G o0), .int x1] h (p_X10_fault h o0 x1) := fun a ha => Ct.of (lv := [some (.ref (gad G o0)), some (.int x1)]) (by decide) rfl (Nat.le_of_ble_eq_true rfl) rfl (fun p e s m args below meth c cx hr hlk => s_X10_fault cx hr hlk h o0 x1 hk_o0 a ha)
def b_X10_copies_2 (o0 : Nat) (o1 : Nat) (k2 : Hp × Int32 → Option Hp) (q : Hp × Int32) : Option Hp :=
  if 3715 ≤ q.2 then (some q.1) else (if ib q.2 3715 then (if ib q.2 3715 then (nv (hp q.1 o1 (Int32.toNatClampNeg q.2) (q.1 o0 (Int32.toNatClampNeg q.2))) fun h3 => k2 (h3, q.2 + 1)) else none) else none)
def p_X10_copies (h : Hp) (o0 : Nat) (o1 : Nat) : Option Hp :=
  lp (b_X10_copies_2 o0 o1) FU (h, 0)
set_option maxRecDepth 4000 in
theorem s_X10_copies_2 {p : Program} {l : Launch} {e : Env} {s : State} {m : MethodId} {args : Array Value} {below : List Frame} {meth : Method} {c : Code} {G : GT} (cx : CX p s m args c cX10_copies 3 RX10 G) (hr : meth.sig.returnType = none) (hlk : meth.locks = false) (o0 : Nat) (o1 : Nat) (hk_o0 : kd o0 = 13715) (hk_o1 : kd o1 = 13715) : ∀ (n : Nat) (q : Hp × Int32), PF p l e (rmc 0 0) s m args below meth c 3 G 0 0 (QV below G args s) 2 [some (.ref (gad G o0)), some (.ref (gad G o1)), some (.int q.2)] [] q.1 (lp (b_X10_copies_2 o0 o1) n q) := by
  refine f_lp (lvf := fun (q : Hp × Int32) => [some (.ref (gad G o0)), some (.ref (gad G o1)), some (.int q.2)]) (hf := fun (q : Hp × Int32) => q.1) (fun k2 hk2 q => ?_)
  show PF p l e (rmc 0 0) s m args below meth c 3 G 0 0 (QV below G args s) 2 [some (.ref (gad G o0)), some (.ref (gad G o1)), some (.int q.2)] [] q.1 (b_X10_copies_2 o0 o1 k2 q)
  unfold b_X10_copies_2
  refine f_iload_n (pc := 2) cx dX10_copies_2 rfl rfl ?_
  refine f_sipush (pc := 3) cx dX10_copies_3 kc_sipush_3715 ?_
  refine f_icmp_ge (pc := 6) (tgt := 21) cx dX10_copies_6 (by decide) (fun _ => ?_) (fun _ => ?_)
  · exact f_vret cx hr hlk dX10_copies_21
  · refine f_aload_n (pc := 9) cx dX10_copies_9 rfl rfl ?_
    refine f_iload_n (pc := 10) cx dX10_copies_10 rfl rfl ?_
    refine f_aload_n (pc := 11) cx dX10_copies_11 rfl rfl ?_
    refine f_iload_n (pc := 12) cx dX10_copies_12 rfl rfl ?_
    refine f_need (fun c1 => ?_)
    refine f_iald (pc := 13) (n := 3715) cx hk_o0 (by decide) c1 dX10_copies_13 ?_
    refine f_need (fun c2 => ?_)
    refine f_iast (pc := 14) (n := 3715) cx hk_o1 (by decide) c2 dX10_copies_14 ?_
    refine f_nvh (fun h3 => ?_)
    refine f_iinc2 (pc := 15) cx dX10_copies_15 kc_iconst_1 (by decide) rfl ?_
    refine f_goto (pc := 18) (tgt := 2) cx dX10_copies_18 (by decide) ?_
    exact f_weak (LSb.s (LSb.s (LSb.s LSb.e))) (hk2 (h3, q.2 + 1))
set_option maxRecDepth 4000 in
theorem s_X10_copies {p : Program} {l : Launch} {e : Env} {s : State} {m : MethodId} {args : Array Value} {below : List Frame} {meth : Method} {c : Code} {G : GT} (cx : CX p s m args c cX10_copies 3 RX10 G) (hr : meth.sig.returnType = none) (hlk : meth.locks = false) (h : Hp) (o0 : Nat) (o1 : Nat) (hk_o0 : kd o0 = 13715) (hk_o1 : kd o1 = 13715) : PF p l e (rmc 0 0) s m args below meth c 3 G 0 0 (QV below G args s) 0 [some (.ref (gad G o0)), some (.ref (gad G o1)), none] [] h (p_X10_copies h o0 o1) := by
  unfold p_X10_copies
  refine f_iconst (pc := 0) cx dX10_copies_0 kc_iconst_0 ?_
  refine f_istore2 (pc := 1) cx dX10_copies_1 (by decide) rfl ?_
  exact f_weak (LSb.s (LSb.s (LSb.s LSb.e))) (s_X10_copies_2 cx hr hlk o0 o1 hk_o0 hk_o1 FU (h, 0))
set_option maxRecDepth 4000 in
theorem c_X10_copies (l : Launch) (G : GT) (h : Hp) (o0 : Nat) (o1 : Nat) (hk_o0 : kd o0 = 13715) (hk_o1 : kd o1 = 13715) : CtV l G yX10_copies cX10_copies 3 none 0 0 [.ref (gad G o0), .ref (gad G o1)] h (p_X10_copies h o0 o1) := fun a ha => Ct.of (lv := [some (.ref (gad G o0)), some (.ref (gad G o1)), none]) (by decide) rfl (Nat.le_of_ble_eq_true rfl) rfl (fun p e s m args below meth c cx hr hlk => s_X10_copies cx hr hlk h o0 o1 hk_o0 hk_o1 a ha)
def p_X10_senderOf (h : Hp) (o0 : Nat) (x1 : Int32) (x2 : Int32) : Option (Int32 × Hp) :=
  if ib ((3478 + (9 * x1)) + x2) 3715 then (some (h (o0 + 6) (Int32.toNatClampNeg ((3478 + (9 * x1)) + x2)), h)) else none
set_option maxRecDepth 4000 in
theorem s_X10_senderOf {p : Program} {l : Launch} {e : Env} {s : State} {m : MethodId} {args : Array Value} {below : List Frame} {meth : Method} {c : Code} {G : GT} (cx : CX p s m args c cX10_senderOf 3 RX10 G) (hr : meth.sig.returnType = (some .int)) (hlk : meth.locks = false) (h : Hp) (o0 : Nat) (x1 : Int32) (x2 : Int32) (hk_o0 : kd o0 = 9) : PF p l e (rmc 0 0) s m args below meth c 3 G 0 0 (QI below G args s) 0 [some (.ref (gad G o0)), some (.int x1), some (.int x2)] [] h (p_X10_senderOf h o0 x1 x2) := by
  unfold p_X10_senderOf
  refine f_aload_n (pc := 0) cx dX10_senderOf_0 rfl rfl ?_
  refine g_X10_30 (pc := 1) cx hk_o0 dX10_senderOf_1 ?_
  refine f_sipush (pc := 4) cx dX10_senderOf_4 kc_sipush_3478 ?_
  refine f_bipush (pc := 7) cx dX10_senderOf_7 kc_bipush_9 ?_
  refine f_iload_n (pc := 9) cx dX10_senderOf_9 rfl rfl ?_
  refine f_imul (pc := 10) cx dX10_senderOf_10 ?_
  refine f_iadd (pc := 11) cx dX10_senderOf_11 ?_
  refine f_iload_n (pc := 12) cx dX10_senderOf_12 rfl rfl ?_
  refine f_iadd (pc := 13) cx dX10_senderOf_13 ?_
  refine f_need (fun c1 => ?_)
  refine f_iald (pc := 14) (n := 3715) cx (kf_9_20 hk_o0) (by decide) c1 dX10_senderOf_14 ?_
  exact f_iret cx hr hlk rfl dX10_senderOf_15
set_option maxRecDepth 4000 in
theorem c_X10_senderOf (l : Launch) (G : GT) (h : Hp) (o0 : Nat) (x1 : Int32) (x2 : Int32) (hk_o0 : kd o0 = 9) : CtI l G yX10_senderOf cX10_senderOf 3 (some .int) 0 0 [.ref (gad G o0), .int x1, .int x2] h (p_X10_senderOf h o0 x1 x2) := fun a ha => Ct.of (lv := [some (.ref (gad G o0)), some (.int x1), some (.int x2)]) (by decide) rfl (Nat.le_of_ble_eq_true rfl) rfl (fun p e s m args below meth c cx hr hlk => s_X10_senderOf cx hr hlk h o0 x1 x2 hk_o0 a ha)
def p_X10_sends0 (h : Hp) (o0 : Nat) (x1 : Int32) (x2 : Int32) (x3 : Int32) : Option Hp :=
  if ib ((3478 + (9 * x1)) + x2) 3715 then (nv (hp h (o0 + 6) (Int32.toNatClampNeg ((3478 + (9 * x1)) + x2)) x3) fun h2 => some h2) else none
set_option maxRecDepth 4000 in
theorem s_X10_sends0 {p : Program} {l : Launch} {e : Env} {s : State} {m : MethodId} {args : Array Value} {below : List Frame} {meth : Method} {c : Code} {G : GT} (cx : CX p s m args c cX10_sends0 4 RX10 G) (hr : meth.sig.returnType = none) (hlk : meth.locks = false) (h : Hp) (o0 : Nat) (x1 : Int32) (x2 : Int32) (x3 : Int32) (hk_o0 : kd o0 = 9) : PF p l e (rmc 0 0) s m args below meth c 4 G 0 0 (QV below G args s) 0 [some (.ref (gad G o0)), some (.int x1), some (.int x2), some (.int x3)] [] h (p_X10_sends0 h o0 x1 x2 x3) := by
  unfold p_X10_sends0
  refine f_aload_n (pc := 0) cx dX10_sends0_0 rfl rfl ?_
  refine g_X10_30 (pc := 1) cx hk_o0 dX10_sends0_1 ?_
  refine f_sipush (pc := 4) cx dX10_sends0_4 kc_sipush_3478 ?_
  refine f_bipush (pc := 7) cx dX10_sends0_7 kc_bipush_9 ?_
  refine f_iload_n (pc := 9) cx dX10_sends0_9 rfl rfl ?_
  refine f_imul (pc := 10) cx dX10_sends0_10 ?_
  refine f_iadd (pc := 11) cx dX10_sends0_11 ?_
  refine f_iload_n (pc := 12) cx dX10_sends0_12 rfl rfl ?_
  refine f_iadd (pc := 13) cx dX10_sends0_13 ?_
  refine f_iload_n (pc := 14) cx dX10_sends0_14 rfl rfl ?_
  refine f_need (fun c1 => ?_)
  refine f_iast (pc := 15) (n := 3715) cx (kf_9_20 hk_o0) (by decide) c1 dX10_sends0_15 ?_
  refine f_nvh (fun h2 => ?_)
  exact f_vret cx hr hlk dX10_sends0_16
set_option maxRecDepth 4000 in
theorem c_X10_sends0 (l : Launch) (G : GT) (h : Hp) (o0 : Nat) (x1 : Int32) (x2 : Int32) (x3 : Int32) (hk_o0 : kd o0 = 9) : CtV l G yX10_sends0 cX10_sends0 4 none 0 0 [.ref (gad G o0), .int x1, .int x2, .int x3] h (p_X10_sends0 h o0 x1 x2 x3) := fun a ha => Ct.of (lv := [some (.ref (gad G o0)), some (.int x1), some (.int x2), some (.int x3)]) (by decide) rfl (Nat.le_of_ble_eq_true rfl) rfl (fun p e s m args below meth c cx hr hlk => s_X10_sends0 cx hr hlk h o0 x1 x2 x3 hk_o0 a ha)
def p_X10_of (h : Hp) (o0 : Nat) (x1 : Int32) (x2 : Int32) : Option (Int32 × Hp) :=
  if ib ((68 + (13 * x1)) + x2) 3715 then (some (h (o0 + 6) (Int32.toNatClampNeg ((68 + (13 * x1)) + x2)), h)) else none
set_option maxRecDepth 4000 in
theorem s_X10_of {p : Program} {l : Launch} {e : Env} {s : State} {m : MethodId} {args : Array Value} {below : List Frame} {meth : Method} {c : Code} {G : GT} (cx : CX p s m args c cX10_of 3 RX10 G) (hr : meth.sig.returnType = (some .int)) (hlk : meth.locks = false) (h : Hp) (o0 : Nat) (x1 : Int32) (x2 : Int32) (hk_o0 : kd o0 = 9) : PF p l e (rmc 0 0) s m args below meth c 3 G 0 0 (QI below G args s) 0 [some (.ref (gad G o0)), some (.int x1), some (.int x2)] [] h (p_X10_of h o0 x1 x2) := by
  unfold p_X10_of
  refine f_aload_n (pc := 0) cx dX10_of_0 rfl rfl ?_
  refine g_X10_30 (pc := 1) cx hk_o0 dX10_of_1 ?_
  refine f_bipush (pc := 4) cx dX10_of_4 kc_bipush_68 ?_
  refine f_bipush (pc := 6) cx dX10_of_6 kc_bipush_13 ?_
  refine f_iload_n (pc := 8) cx dX10_of_8 rfl rfl ?_
  refine f_imul (pc := 9) cx dX10_of_9 ?_
  refine f_iadd (pc := 10) cx dX10_of_10 ?_
  refine f_iload_n (pc := 11) cx dX10_of_11 rfl rfl ?_
  refine f_iadd (pc := 12) cx dX10_of_12 ?_
  refine f_need (fun c1 => ?_)
  refine f_iald (pc := 13) (n := 3715) cx (kf_9_20 hk_o0) (by decide) c1 dX10_of_13 ?_
  exact f_iret cx hr hlk rfl dX10_of_14
set_option maxRecDepth 4000 in
theorem c_X10_of (l : Launch) (G : GT) (h : Hp) (o0 : Nat) (x1 : Int32) (x2 : Int32) (hk_o0 : kd o0 = 9) : CtI l G yX10_of cX10_of 3 (some .int) 0 0 [.ref (gad G o0), .int x1, .int x2] h (p_X10_of h o0 x1 x2) := fun a ha => Ct.of (lv := [some (.ref (gad G o0)), some (.int x1), some (.int x2)]) (by decide) rfl (Nat.le_of_ble_eq_true rfl) rfl (fun p e s m args below meth c cx hr hlk => s_X10_of cx hr hlk h o0 x1 x2 hk_o0 a ha)
def p_X10_puts (h : Hp) (o0 : Nat) (x1 : Int32) (x2 : Int32) (x3 : Int32) : Option Hp :=
  if ib ((68 + (13 * x1)) + x2) 3715 then (nv (hp h (o0 + 6) (Int32.toNatClampNeg ((68 + (13 * x1)) + x2)) x3) fun h2 => some h2) else none
set_option maxRecDepth 4000 in
theorem s_X10_puts {p : Program} {l : Launch} {e : Env} {s : State} {m : MethodId} {args : Array Value} {below : List Frame} {meth : Method} {c : Code} {G : GT} (cx : CX p s m args c cX10_puts 4 RX10 G) (hr : meth.sig.returnType = none) (hlk : meth.locks = false) (h : Hp) (o0 : Nat) (x1 : Int32) (x2 : Int32) (x3 : Int32) (hk_o0 : kd o0 = 9) : PF p l e (rmc 0 0) s m args below meth c 4 G 0 0 (QV below G args s) 0 [some (.ref (gad G o0)), some (.int x1), some (.int x2), some (.int x3)] [] h (p_X10_puts h o0 x1 x2 x3) := by
  unfold p_X10_puts
  refine f_aload_n (pc := 0) cx dX10_puts_0 rfl rfl ?_
  refine g_X10_30 (pc := 1) cx hk_o0 dX10_puts_1 ?_
  refine f_bipush (pc := 4) cx dX10_puts_4 kc_bipush_68 ?_
  refine f_bipush (pc := 6) cx dX10_puts_6 kc_bipush_13 ?_
  refine f_iload_n (pc := 8) cx dX10_puts_8 rfl rfl ?_
  refine f_imul (pc := 9) cx dX10_puts_9 ?_
  refine f_iadd (pc := 10) cx dX10_puts_10 ?_
  refine f_iload_n (pc := 11) cx dX10_puts_11 rfl rfl ?_
  refine f_iadd (pc := 12) cx dX10_puts_12 ?_
  refine f_iload_n (pc := 13) cx dX10_puts_13 rfl rfl ?_
  refine f_need (fun c1 => ?_)
  refine f_iast (pc := 14) (n := 3715) cx (kf_9_20 hk_o0) (by decide) c1 dX10_puts_14 ?_
  refine f_nvh (fun h2 => ?_)
  exact f_vret cx hr hlk dX10_puts_15
set_option maxRecDepth 4000 in
theorem c_X10_puts (l : Launch) (G : GT) (h : Hp) (o0 : Nat) (x1 : Int32) (x2 : Int32) (x3 : Int32) (hk_o0 : kd o0 = 9) : CtV l G yX10_puts cX10_puts 4 none 0 0 [.ref (gad G o0), .int x1, .int x2, .int x3] h (p_X10_puts h o0 x1 x2 x3) := fun a ha => Ct.of (lv := [some (.ref (gad G o0)), some (.int x1), some (.int x2), some (.int x3)]) (by decide) rfl (Nat.le_of_ble_eq_true rfl) rfl (fun p e s m args below meth c cx hr hlk => s_X10_puts cx hr hlk h o0 x1 x2 x3 hk_o0 a ha)
def p_X10_frameOf (h : Hp) (o0 : Nat) (x1 : Int32) (x2 : Int32) : Option (Int32 × Hp) :=
  if ib ((276 + (12 * x1)) + x2) 3715 then (some (h (o0 + 6) (Int32.toNatClampNeg ((276 + (12 * x1)) + x2)), h)) else none
set_option maxRecDepth 4000 in
theorem s_X10_frameOf {p : Program} {l : Launch} {e : Env} {s : State} {m : MethodId} {args : Array Value} {below : List Frame} {meth : Method} {c : Code} {G : GT} (cx : CX p s m args c cX10_frameOf 3 RX10 G) (hr : meth.sig.returnType = (some .int)) (hlk : meth.locks = false) (h : Hp) (o0 : Nat) (x1 : Int32) (x2 : Int32) (hk_o0 : kd o0 = 9) : PF p l e (rmc 0 0) s m args below meth c 3 G 0 0 (QI below G args s) 0 [some (.ref (gad G o0)), some (.int x1), some (.int x2)] [] h (p_X10_frameOf h o0 x1 x2) := by
  unfold p_X10_frameOf
  refine f_aload_n (pc := 0) cx dX10_frameOf_0 rfl rfl ?_
  refine g_X10_30 (pc := 1) cx hk_o0 dX10_frameOf_1 ?_
  refine f_sipush (pc := 4) cx dX10_frameOf_4 kc_sipush_276 ?_
  refine f_bipush (pc := 7) cx dX10_frameOf_7 kc_bipush_12 ?_
  refine f_iload_n (pc := 9) cx dX10_frameOf_9 rfl rfl ?_
  refine f_imul (pc := 10) cx dX10_frameOf_10 ?_
  refine f_iadd (pc := 11) cx dX10_frameOf_11 ?_
  refine f_iload_n (pc := 12) cx dX10_frameOf_12 rfl rfl ?_
  refine f_iadd (pc := 13) cx dX10_frameOf_13 ?_
  refine f_need (fun c1 => ?_)
  refine f_iald (pc := 14) (n := 3715) cx (kf_9_20 hk_o0) (by decide) c1 dX10_frameOf_14 ?_
  exact f_iret cx hr hlk rfl dX10_frameOf_15
set_option maxRecDepth 4000 in
theorem c_X10_frameOf (l : Launch) (G : GT) (h : Hp) (o0 : Nat) (x1 : Int32) (x2 : Int32) (hk_o0 : kd o0 = 9) : CtI l G yX10_frameOf cX10_frameOf 3 (some .int) 0 0 [.ref (gad G o0), .int x1, .int x2] h (p_X10_frameOf h o0 x1 x2) := fun a ha => Ct.of (lv := [some (.ref (gad G o0)), some (.int x1), some (.int x2)]) (by decide) rfl (Nat.le_of_ble_eq_true rfl) rfl (fun p e s m args below meth c cx hr hlk => s_X10_frameOf cx hr hlk h o0 x1 x2 hk_o0 a ha)
def p_X10_frames (h : Hp) (o0 : Nat) (x1 : Int32) (x2 : Int32) (x3 : Int32) : Option Hp :=
  if ib ((276 + (12 * x1)) + x2) 3715 then (nv (hp h (o0 + 6) (Int32.toNatClampNeg ((276 + (12 * x1)) + x2)) x3) fun h2 => some h2) else none
set_option maxRecDepth 4000 in
theorem s_X10_frames {p : Program} {l : Launch} {e : Env} {s : State} {m : MethodId} {args : Array Value} {below : List Frame} {meth : Method} {c : Code} {G : GT} (cx : CX p s m args c cX10_frames 4 RX10 G) (hr : meth.sig.returnType = none) (hlk : meth.locks = false) (h : Hp) (o0 : Nat) (x1 : Int32) (x2 : Int32) (x3 : Int32) (hk_o0 : kd o0 = 9) : PF p l e (rmc 0 0) s m args below meth c 4 G 0 0 (QV below G args s) 0 [some (.ref (gad G o0)), some (.int x1), some (.int x2), some (.int x3)] [] h (p_X10_frames h o0 x1 x2 x3) := by
  unfold p_X10_frames
  refine f_aload_n (pc := 0) cx dX10_frames_0 rfl rfl ?_
  refine g_X10_30 (pc := 1) cx hk_o0 dX10_frames_1 ?_
  refine f_sipush (pc := 4) cx dX10_frames_4 kc_sipush_276 ?_
  refine f_bipush (pc := 7) cx dX10_frames_7 kc_bipush_12 ?_
  refine f_iload_n (pc := 9) cx dX10_frames_9 rfl rfl ?_
  refine f_imul (pc := 10) cx dX10_frames_10 ?_
  refine f_iadd (pc := 11) cx dX10_frames_11 ?_
  refine f_iload_n (pc := 12) cx dX10_frames_12 rfl rfl ?_
  refine f_iadd (pc := 13) cx dX10_frames_13 ?_
  refine f_iload_n (pc := 14) cx dX10_frames_14 rfl rfl ?_
  refine f_need (fun c1 => ?_)
  refine f_iast (pc := 15) (n := 3715) cx (kf_9_20 hk_o0) (by decide) c1 dX10_frames_15 ?_
  refine f_nvh (fun h2 => ?_)
  exact f_vret cx hr hlk dX10_frames_16
set_option maxRecDepth 4000 in
theorem c_X10_frames (l : Launch) (G : GT) (h : Hp) (o0 : Nat) (x1 : Int32) (x2 : Int32) (x3 : Int32) (hk_o0 : kd o0 = 9) : CtV l G yX10_frames cX10_frames 4 none 0 0 [.ref (gad G o0), .int x1, .int x2, .int x3] h (p_X10_frames h o0 x1 x2 x3) := fun a ha => Ct.of (lv := [some (.ref (gad G o0)), some (.int x1), some (.int x2), some (.int x3)]) (by decide) rfl (Nat.le_of_ble_eq_true rfl) rfl (fun p e s m args below meth c cx hr hlk => s_X10_frames cx hr hlk h o0 x1 x2 x3 hk_o0 a ha)
def p_X10_target (h : Hp) (o0 : Nat) : Option (Int32 × Hp) :=
  some (h (o0 + 6) 4, h)
set_option maxRecDepth 4000 in
theorem s_X10_target {p : Program} {l : Launch} {e : Env} {s : State} {m : MethodId} {args : Array Value} {below : List Frame} {meth : Method} {c : Code} {G : GT} (cx : CX p s m args c cX10_target 1 RX10 G) (hr : meth.sig.returnType = (some .int)) (hlk : meth.locks = false) (h : Hp) (o0 : Nat) (hk_o0 : kd o0 = 9) : PF p l e (rmc 0 0) s m args below meth c 1 G 0 0 (QI below G args s) 0 [some (.ref (gad G o0))] [] h (p_X10_target h o0) := by
  unfold p_X10_target
  refine f_aload_n (pc := 0) cx dX10_target_0 rfl rfl ?_
  refine g_X10_30 (pc := 1) cx hk_o0 dX10_target_1 ?_
  refine f_iconst (pc := 4) cx dX10_target_4 kc_iconst_4 ?_
  refine f_ialdk (pc := 5) (j := 4) (n := 3715) cx (kf_9_20 hk_o0) (by decide) (by decide) kl_4 dX10_target_5 ?_
  exact f_iret cx hr hlk rfl dX10_target_6
set_option maxRecDepth 4000 in
theorem c_X10_target (l : Launch) (G : GT) (h : Hp) (o0 : Nat) (hk_o0 : kd o0 = 9) : CtI l G yX10_target cX10_target 1 (some .int) 0 0 [.ref (gad G o0)] h (p_X10_target h o0) := fun a ha => Ct.of (lv := [some (.ref (gad G o0))]) (by decide) rfl (Nat.le_of_ble_eq_true rfl) rfl (fun p e s m args below meth c cx hr hlk => s_X10_target cx hr hlk h o0 hk_o0 a ha)
def p_X10_interval (h : Hp) (o0 : Nat) : Option (Int32 × Hp) :=
  some (h (o0 + 6) 5, h)
set_option maxRecDepth 4000 in
theorem s_X10_interval {p : Program} {l : Launch} {e : Env} {s : State} {m : MethodId} {args : Array Value} {below : List Frame} {meth : Method} {c : Code} {G : GT} (cx : CX p s m args c cX10_interval 1 RX10 G) (hr : meth.sig.returnType = (some .int)) (hlk : meth.locks = false) (h : Hp) (o0 : Nat) (hk_o0 : kd o0 = 9) : PF p l e (rmc 0 0) s m args below meth c 1 G 0 0 (QI below G args s) 0 [some (.ref (gad G o0))] [] h (p_X10_interval h o0) := by
  unfold p_X10_interval
  refine f_aload_n (pc := 0) cx dX10_interval_0 rfl rfl ?_
  refine g_X10_30 (pc := 1) cx hk_o0 dX10_interval_1 ?_
  refine f_iconst (pc := 4) cx dX10_interval_4 kc_iconst_5 ?_
  refine f_ialdk (pc := 5) (j := 5) (n := 3715) cx (kf_9_20 hk_o0) (by decide) (by decide) kl_5 dX10_interval_5 ?_
  exact f_iret cx hr hlk rfl dX10_interval_6
set_option maxRecDepth 4000 in
theorem c_X10_interval (l : Launch) (G : GT) (h : Hp) (o0 : Nat) (hk_o0 : kd o0 = 9) : CtI l G yX10_interval cX10_interval 1 (some .int) 0 0 [.ref (gad G o0)] h (p_X10_interval h o0) := fun a ha => Ct.of (lv := [some (.ref (gad G o0))]) (by decide) rfl (Nat.le_of_ble_eq_true rfl) rfl (fun p e s m args below meth c cx hr hlk => s_X10_interval cx hr hlk h o0 hk_o0 a ha)
def p_X10_quantum (h : Hp) (o0 : Nat) : Option (Int32 × Hp) :=
  some (h (o0 + 6) 6, h)
set_option maxRecDepth 4000 in
theorem s_X10_quantum {p : Program} {l : Launch} {e : Env} {s : State} {m : MethodId} {args : Array Value} {below : List Frame} {meth : Method} {c : Code} {G : GT} (cx : CX p s m args c cX10_quantum 1 RX10 G) (hr : meth.sig.returnType = (some .int)) (hlk : meth.locks = false) (h : Hp) (o0 : Nat) (hk_o0 : kd o0 = 9) : PF p l e (rmc 0 0) s m args below meth c 1 G 0 0 (QI below G args s) 0 [some (.ref (gad G o0))] [] h (p_X10_quantum h o0) := by
  unfold p_X10_quantum
  refine f_aload_n (pc := 0) cx dX10_quantum_0 rfl rfl ?_
  refine g_X10_30 (pc := 1) cx hk_o0 dX10_quantum_1 ?_
  refine f_bipush (pc := 4) cx dX10_quantum_4 kc_bipush_6 ?_
  refine f_ialdk (pc := 6) (j := 6) (n := 3715) cx (kf_9_20 hk_o0) (by decide) (by decide) kl_6 dX10_quantum_6 ?_
  exact f_iret cx hr hlk rfl dX10_quantum_7
set_option maxRecDepth 4000 in
theorem c_X10_quantum (l : Launch) (G : GT) (h : Hp) (o0 : Nat) (hk_o0 : kd o0 = 9) : CtI l G yX10_quantum cX10_quantum 1 (some .int) 0 0 [.ref (gad G o0)] h (p_X10_quantum h o0) := fun a ha => Ct.of (lv := [some (.ref (gad G o0))]) (by decide) rfl (Nat.le_of_ble_eq_true rfl) rfl (fun p e s m args below meth c cx hr hlk => s_X10_quantum cx hr hlk h o0 hk_o0 a ha)
def p_X10_buckets (h : Hp) (o0 : Nat) : Option (Int32 × Hp) :=
  some ((h (o0 + 6) 10) * (h (o0 + 6) 11), h)
set_option maxRecDepth 4000 in
theorem s_X10_buckets {p : Program} {l : Launch} {e : Env} {s : State} {m : MethodId} {args : Array Value} {below : List Frame} {meth : Method} {c : Code} {G : GT} (cx : CX p s m args c cX10_buckets 1 RX10 G) (hr : meth.sig.returnType = (some .int)) (hlk : meth.locks = false) (h : Hp) (o0 : Nat) (hk_o0 : kd o0 = 9) : PF p l e (rmc 0 0) s m args below meth c 1 G 0 0 (QI below G args s) 0 [some (.ref (gad G o0))] [] h (p_X10_buckets h o0) := by
  unfold p_X10_buckets
  refine f_aload_n (pc := 0) cx dX10_buckets_0 rfl rfl ?_
  refine g_X10_30 (pc := 1) cx hk_o0 dX10_buckets_1 ?_
  refine f_bipush (pc := 4) cx dX10_buckets_4 kc_bipush_10 ?_
  refine f_ialdk (pc := 6) (j := 10) (n := 3715) cx (kf_9_20 hk_o0) (by decide) (by decide) kl_10 dX10_buckets_6 ?_
  refine f_aload_n (pc := 7) cx dX10_buckets_7 rfl rfl ?_
  refine g_X10_30 (pc := 8) cx hk_o0 dX10_buckets_8 ?_
  refine f_bipush (pc := 11) cx dX10_buckets_11 kc_bipush_11 ?_
  refine f_ialdk (pc := 13) (j := 11) (n := 3715) cx (kf_9_20 hk_o0) (by decide) (by decide) kl_11 dX10_buckets_13 ?_
  refine f_imul (pc := 14) cx dX10_buckets_14 ?_
  exact f_iret cx hr hlk rfl dX10_buckets_15
set_option maxRecDepth 4000 in
theorem c_X10_buckets (l : Launch) (G : GT) (h : Hp) (o0 : Nat) (hk_o0 : kd o0 = 9) : CtI l G yX10_buckets cX10_buckets 1 (some .int) 0 0 [.ref (gad G o0)] h (p_X10_buckets h o0) := fun a ha => Ct.of (lv := [some (.ref (gad G o0))]) (by decide) rfl (Nat.le_of_ble_eq_true rfl) rfl (fun p e s m args below meth c cx hr hlk => s_X10_buckets cx hr hlk h o0 hk_o0 a ha)
def p_X10_manyIn (h : Hp) (o0 : Nat) (x1 : Int32) : Option (Int32 × Hp) :=
  if ib ((12 + x1) - 1) 3715 then (some (h (o0 + 6) (Int32.toNatClampNeg ((12 + x1) - 1)), h)) else none
set_option maxRecDepth 4000 in
theorem s_X10_manyIn {p : Program} {l : Launch} {e : Env} {s : State} {m : MethodId} {args : Array Value} {below : List Frame} {meth : Method} {c : Code} {G : GT} (cx : CX p s m args c cX10_manyIn 2 RX10 G) (hr : meth.sig.returnType = (some .int)) (hlk : meth.locks = false) (h : Hp) (o0 : Nat) (x1 : Int32) (hk_o0 : kd o0 = 9) : PF p l e (rmc 0 0) s m args below meth c 2 G 0 0 (QI below G args s) 0 [some (.ref (gad G o0)), some (.int x1)] [] h (p_X10_manyIn h o0 x1) := by
  unfold p_X10_manyIn
  refine f_aload_n (pc := 0) cx dX10_manyIn_0 rfl rfl ?_
  refine g_X10_30 (pc := 1) cx hk_o0 dX10_manyIn_1 ?_
  refine f_bipush (pc := 4) cx dX10_manyIn_4 kc_bipush_12 ?_
  refine f_iload_n (pc := 6) cx dX10_manyIn_6 rfl rfl ?_
  refine f_iadd (pc := 7) cx dX10_manyIn_7 ?_
  refine f_iconst (pc := 8) cx dX10_manyIn_8 kc_iconst_1 ?_
  refine f_isub (pc := 9) cx dX10_manyIn_9 ?_
  refine f_need (fun c1 => ?_)
  refine f_iald (pc := 10) (n := 3715) cx (kf_9_20 hk_o0) (by decide) c1 dX10_manyIn_10 ?_
  exact f_iret cx hr hlk rfl dX10_manyIn_11
set_option maxRecDepth 4000 in
theorem c_X10_manyIn (l : Launch) (G : GT) (h : Hp) (o0 : Nat) (x1 : Int32) (hk_o0 : kd o0 = 9) : CtI l G yX10_manyIn cX10_manyIn 2 (some .int) 0 0 [.ref (gad G o0), .int x1] h (p_X10_manyIn h o0 x1) := fun a ha => Ct.of (lv := [some (.ref (gad G o0)), some (.int x1)]) (by decide) rfl (Nat.le_of_ble_eq_true rfl) rfl (fun p e s m args below meth c cx hr hlk => s_X10_manyIn cx hr hlk h o0 x1 hk_o0 a ha)
def p_X10_inList (h : Hp) (o0 : Nat) (x1 : Int32) (x2 : Int32) : Option (Int32 × Hp) :=
  if ib ((18 + (16 * (x1 - 1))) + x2) 3715 then (some (h (o0 + 6) (Int32.toNatClampNeg ((18 + (16 * (x1 - 1))) + x2)), h)) else none
set_option maxRecDepth 4000 in
theorem s_X10_inList {p : Program} {l : Launch} {e : Env} {s : State} {m : MethodId} {args : Array Value} {below : List Frame} {meth : Method} {c : Code} {G : GT} (cx : CX p s m args c cX10_inList 3 RX10 G) (hr : meth.sig.returnType = (some .int)) (hlk : meth.locks = false) (h : Hp) (o0 : Nat) (x1 : Int32) (x2 : Int32) (hk_o0 : kd o0 = 9) : PF p l e (rmc 0 0) s m args below meth c 3 G 0 0 (QI below G args s) 0 [some (.ref (gad G o0)), some (.int x1), some (.int x2)] [] h (p_X10_inList h o0 x1 x2) := by
  unfold p_X10_inList
  refine f_aload_n (pc := 0) cx dX10_inList_0 rfl rfl ?_
  refine g_X10_30 (pc := 1) cx hk_o0 dX10_inList_1 ?_
  refine f_bipush (pc := 4) cx dX10_inList_4 kc_bipush_18 ?_
  refine f_bipush (pc := 6) cx dX10_inList_6 kc_bipush_16 ?_
  refine f_iload_n (pc := 8) cx dX10_inList_8 rfl rfl ?_
  refine f_iconst (pc := 9) cx dX10_inList_9 kc_iconst_1 ?_
  refine f_isub (pc := 10) cx dX10_inList_10 ?_
  refine f_imul (pc := 11) cx dX10_inList_11 ?_
  refine f_iadd (pc := 12) cx dX10_inList_12 ?_
  refine f_iload_n (pc := 13) cx dX10_inList_13 rfl rfl ?_
  refine f_iadd (pc := 14) cx dX10_inList_14 ?_
  refine f_need (fun c1 => ?_)
  refine f_iald (pc := 15) (n := 3715) cx (kf_9_20 hk_o0) (by decide) c1 dX10_inList_15 ?_
  exact f_iret cx hr hlk rfl dX10_inList_16
set_option maxRecDepth 4000 in
theorem c_X10_inList (l : Launch) (G : GT) (h : Hp) (o0 : Nat) (x1 : Int32) (x2 : Int32) (hk_o0 : kd o0 = 9) : CtI l G yX10_inList cX10_inList 3 (some .int) 0 0 [.ref (gad G o0), .int x1, .int x2] h (p_X10_inList h o0 x1 x2) := fun a ha => Ct.of (lv := [some (.ref (gad G o0)), some (.int x1), some (.int x2)]) (by decide) rfl (Nat.le_of_ble_eq_true rfl) rfl (fun p e s m args below meth c cx hr hlk => s_X10_inList cx hr hlk h o0 x1 x2 hk_o0 a ha)
def p_X10_happens (h : Hp) (o0 : Nat) (x1 : Int32) (x2 : Int32) : Option Hp :=
  if ib (14 + x1) 3715 then (if ib ((2676 + (200 * x1)) + (h (o0 + 6) (Int32.toNatClampNeg (14 + x1)))) 3715 then (nv (hp h (o0 + 6) (Int32.toNatClampNeg ((2676 + (200 * x1)) + (h (o0 + 6) (Int32.toNatClampNeg (14 + x1))))) x2) fun h3 => if ib (14 + x1) 3715 then (if ib (14 + x1) 3715 then (nv (hp h3 (o0 + 6) (Int32.toNatClampNeg (14 + x1)) ((h3 (o0 + 6) (Int32.toNatClampNeg (14 + x1))) + 1)) fun h6 => some h6) else none) else none) else none) else none
set_option maxRecDepth 4000 in
theorem s_X10_happens {p : Program} {l : Launch} {e : Env} {s : State} {m : MethodId} {args : Array Value} {below : List Frame} {meth : Method} {c : Code} {G : GT} (cx : CX p s m args c cX10_happens 3 RX10 G) (hr : meth.sig.returnType = none) (hlk : meth.locks = false) (h : Hp) (o0 : Nat) (x1 : Int32) (x2 : Int32) (hk_o0 : kd o0 = 9) : PF p l e (rmc 0 0) s m args below meth c 3 G 0 0 (QV below G args s) 0 [some (.ref (gad G o0)), some (.int x1), some (.int x2)] [] h (p_X10_happens h o0 x1 x2) := by
  unfold p_X10_happens
  refine f_aload_n (pc := 0) cx dX10_happens_0 rfl rfl ?_
  refine g_X10_30 (pc := 1) cx hk_o0 dX10_happens_1 ?_
  refine f_sipush (pc := 4) cx dX10_happens_4 kc_sipush_2676 ?_
  refine f_sipush (pc := 7) cx dX10_happens_7 kc_sipush_200 ?_
  refine f_iload_n (pc := 10) cx dX10_happens_10 rfl rfl ?_
  refine f_imul (pc := 11) cx dX10_happens_11 ?_
  refine f_iadd (pc := 12) cx dX10_happens_12 ?_
  refine f_aload_n (pc := 13) cx dX10_happens_13 rfl rfl ?_
  refine g_X10_30 (pc := 14) cx hk_o0 dX10_happens_14 ?_
  refine f_bipush (pc := 17) cx dX10_happens_17 kc_bipush_14 ?_
  refine f_iload_n (pc := 19) cx dX10_happens_19 rfl rfl ?_
  refine f_iadd (pc := 20) cx dX10_happens_20 ?_
  refine f_need (fun c1 => ?_)
  refine f_iald (pc := 21) (n := 3715) cx (kf_9_20 hk_o0) (by decide) c1 dX10_happens_21 ?_
  refine f_iadd (pc := 22) cx dX10_happens_22 ?_
  refine f_iload_n (pc := 23) cx dX10_happens_23 rfl rfl ?_
  refine f_need (fun c2 => ?_)
  refine f_iast (pc := 24) (n := 3715) cx (kf_9_20 hk_o0) (by decide) c2 dX10_happens_24 ?_
  refine f_nvh (fun h3 => ?_)
  refine f_aload_n (pc := 25) cx dX10_happens_25 rfl rfl ?_
  refine g_X10_30 (pc := 26) cx hk_o0 dX10_happens_26 ?_
  refine f_bipush (pc := 29) cx dX10_happens_29 kc_bipush_14 ?_
  refine f_iload_n (pc := 31) cx dX10_happens_31 rfl rfl ?_
  refine f_iadd (pc := 32) cx dX10_happens_32 ?_
  refine f_dup2 (pc := 33) cx dX10_happens_33 rfl rfl ?_
  refine f_need (fun c4 => ?_)
  refine f_iald (pc := 34) (n := 3715) cx (kf_9_20 hk_o0) (by decide) c4 dX10_happens_34 ?_
  refine f_iconst (pc := 35) cx dX10_happens_35 kc_iconst_1 ?_
  refine f_iadd (pc := 36) cx dX10_happens_36 ?_
  refine f_need (fun c5 => ?_)
  refine f_iast (pc := 37) (n := 3715) cx (kf_9_20 hk_o0) (by decide) c5 dX10_happens_37 ?_
  refine f_nvh (fun h6 => ?_)
  exact f_vret cx hr hlk dX10_happens_38
set_option maxRecDepth 4000 in
theorem c_X10_happens (l : Launch) (G : GT) (h : Hp) (o0 : Nat) (x1 : Int32) (x2 : Int32) (hk_o0 : kd o0 = 9) : CtV l G yX10_happens cX10_happens 3 none 0 0 [.ref (gad G o0), .int x1, .int x2] h (p_X10_happens h o0 x1 x2) := fun a ha => Ct.of (lv := [some (.ref (gad G o0)), some (.int x1), some (.int x2)]) (by decide) rfl (Nat.le_of_ble_eq_true rfl) rfl (fun p e s m args below meth c cx hr hlk => s_X10_happens cx hr hlk h o0 x1 x2 hk_o0 a ha)
def q_X10_watches_65 (k3 : Hp × Int32 → Option Hp) (h : Hp) (o0 : Nat) (x1 : Int32) (x2 : Int32) (x3 : Int32) (x4 : Int32) : Option Hp :=
  if ib ((50 + (3 * x4)) + 2) 3715 then (if ib ((50 + (3 * x4)) + 2) 3715 then (nv (hp h (o0 + 6) (Int32.toNatClampNeg ((50 + (3 * x4)) + 2)) ((h (o0 + 6) (Int32.toNatClampNeg ((50 + (3 * x4)) + 2))) + 1)) fun h3 => k3 (h3, x4 + 1)) else none) else none
def b_X10_watches_3 (o0 : Nat) (x1 : Int32) (x2 : Int32) (x3 : Int32) (k3 : Hp × Int32 → Option Hp) (q : Hp × Int32) : Option Hp :=
  if (q.1 (o0 + 6) 3) ≤ q.2 then (some q.1) else (if ib ((50 + (3 * q.2)) + 1) 3715 then (nv (q.1 (o0 + 6) (Int32.toNatClampNeg ((50 + (3 * q.2)) + 1))) fun v5 => if ib (50 + (3 * q.2)) 3715 then (if (q.1 (o0 + 6) (Int32.toNatClampNeg (50 + (3 * q.2)))) = x1 then (if x3 = 0 then (if x2 = v5 then (q_X10_watches_65 k3 q.1 o0 x1 x2 x3 q.2) else (k3 (q.1, q.2 + 1))) else (if x2 < v5 then (k3 (q.1, q.2 + 1)) else (q_X10_watches_65 k3 q.1 o0 x1 x2 x3 q.2))) else (k3 (q.1, q.2 + 1))) else none) else none)
def p_X10_watches (h : Hp) (o0 : Nat) (x1 : Int32) (x2 : Int32) (x3 : Int32) : Option Hp :=
  lp (b_X10_watches_3 o0 x1 x2 x3) FU (h, 0)
set_option maxRecDepth 4000 in
theorem s_X10_watches_65 {p : Program} {l : Launch} {e : Env} {s : State} {m : MethodId} {args : Array Value} {below : List Frame} {meth : Method} {c : Code} {G : GT} (cx : CX p s m args c cX10_watches 6 RX10 G) (hr : meth.sig.returnType = none) (hlk : meth.locks = false) (h : Hp) (o0 : Nat) (x1 : Int32) (x2 : Int32) (x3 : Int32) (x4 : Int32) (hk_o0 : kd o0 = 9) (k3 : Hp × Int32 → Option Hp) (hk3 : ∀ (q : Hp × Int32), PF p l e (rmc 0 0) s m args below meth c 6 G 0 0 (QV below G args s) 3 [some (.ref (gad G o0)), some (.int x1), some (.int x2), some (.int x3), some (.int q.2), none] [] q.1 (k3 q)) : PF p l e (rmc 0 0) s m args below meth c 6 G 0 0 (QV below G args s) 65 [some (.ref (gad G o0)), some (.int x1), some (.int x2), some (.int x3), some (.int x4), none] [] h (q_X10_watches_65 k3 h o0 x1 x2 x3 x4) := by
  unfold q_X10_watches_65
  refine f_aload_n (pc := 65) cx dX10_watches_65 rfl rfl ?_
  refine g_X10_30 (pc := 66) cx hk_o0 dX10_watches_66 ?_
  refine f_bipush (pc := 69) cx dX10_watches_69 kc_bipush_50 ?_
  refine f_iconst (pc := 71) cx dX10_watches_71 kc_iconst_3 ?_
  refine f_iload (pc := 72) cx dX10_watches_72 rfl ?_
  refine f_imul (pc := 74) cx dX10_watches_74 ?_
  refine f_iadd (pc := 75) cx dX10_watches_75 ?_
  refine f_iconst (pc := 76) cx dX10_watches_76 kc_iconst_2 ?_
  refine f_iadd (pc := 77) cx dX10_watches_77 ?_
  refine f_dup2 (pc := 78) cx dX10_watches_78 rfl rfl ?_
  refine f_need (fun c1 => ?_)
  refine f_iald (pc := 79) (n := 3715) cx (kf_9_20 hk_o0) (by decide) c1 dX10_watches_79 ?_
  refine f_iconst (pc := 80) cx dX10_watches_80 kc_iconst_1 ?_
  refine f_iadd (pc := 81) cx dX10_watches_81 ?_
  refine f_need (fun c2 => ?_)
  refine f_iast (pc := 82) (n := 3715) cx (kf_9_20 hk_o0) (by decide) c2 dX10_watches_82 ?_
  refine f_nvh (fun h3 => ?_)
  refine f_iinc4 (pc := 83) cx dX10_watches_83 kc_iconst_1 (by decide) rfl ?_
  refine f_goto (pc := 86) (tgt := 3) cx dX10_watches_86 (by decide) ?_
  exact f_weak (LSb.s (LSb.s (LSb.s (LSb.s (LSb.s (LSb.n LSb.e)))))) (hk3 (h3, x4 + 1))
set_option maxRecDepth 4000 in
theorem s_X10_watches_3 {p : Program} {l : Launch} {e : Env} {s : State} {m : MethodId} {args : Array Value} {below : List Frame} {meth : Method} {c : Code} {G : GT} (cx : CX p s m args c cX10_watches 6 RX10 G) (hr : meth.sig.returnType = none) (hlk : meth.locks = false) (o0 : Nat) (x1 : Int32) (x2 : Int32) (x3 : Int32) (hk_o0 : kd o0 = 9) : ∀ (n : Nat) (q : Hp × Int32), PF p l e (rmc 0 0) s m args below meth c 6 G 0 0 (QV below G args s) 3 [some (.ref (gad G o0)), some (.int x1), some (.int x2), some (.int x3), some (.int q.2), none] [] q.1 (lp (b_X10_watches_3 o0 x1 x2 x3) n q) := by
  refine f_lp (lvf := fun (q : Hp × Int32) => [some (.ref (gad G o0)), some (.int x1), some (.int x2), some (.int x3), some (.int q.2), none]) (hf := fun (q : Hp × Int32) => q.1) (fun k3 hk3 q => ?_)
  show PF p l e (rmc 0 0) s m args below meth c 6 G 0 0 (QV below G args s) 3 [some (.ref (gad G o0)), some (.int x1), some (.int x2), some (.int x3), some (.int q.2), none] [] q.1 (b_X10_watches_3 o0 x1 x2 x3 k3 q)
  unfold b_X10_watches_3
  refine f_iload (pc := 3) cx dX10_watches_3 rfl ?_
  refine f_aload_n (pc := 5) cx dX10_watches_5 rfl rfl ?_
  refine g_X10_30 (pc := 6) cx hk_o0 dX10_watches_6 ?_
  refine f_iconst (pc := 9) cx dX10_watches_9 kc_iconst_3 ?_
  refine f_ialdk (pc := 10) (j := 3) (n := 3715) cx (kf_9_20 hk_o0) (by decide) (by decide) kl_3 dX10_watches_10 ?_
  refine f_icmp_ge (pc := 11) (tgt := 89) cx dX10_watches_11 (by decide) (fun _ => ?_) (fun _ => ?_)
  · exact f_vret cx hr hlk dX10_watches_89
  · refine f_aload_n (pc := 14) cx dX10_watches_14 rfl rfl ?_
    refine g_X10_30 (pc := 15) cx hk_o0 dX10_watches_15 ?_
    refine f_bipush (pc := 18) cx dX10_watches_18 kc_bipush_50 ?_
    refine f_iconst (pc := 20) cx dX10_watches_20 kc_iconst_3 ?_
    refine f_iload (pc := 21) cx dX10_watches_21 rfl ?_
    refine f_imul (pc := 23) cx dX10_watches_23 ?_
    refine f_iadd (pc := 24) cx dX10_watches_24 ?_
    refine f_iconst (pc := 25) cx dX10_watches_25 kc_iconst_1 ?_
    refine f_iadd (pc := 26) cx dX10_watches_26 ?_
    refine f_need (fun c4 => ?_)
    refine f_iald (pc := 27) (n := 3715) cx (kf_9_20 hk_o0) (by decide) c4 dX10_watches_27 ?_
    refine f_nvi (fun v5 => ?_)
    refine f_istore5 (pc := 28) cx dX10_watches_28 (by decide) rfl ?_
    refine f_aload_n (pc := 30) cx dX10_watches_30 rfl rfl ?_
    refine g_X10_30 (pc := 31) cx hk_o0 dX10_watches_31 ?_
    refine f_bipush (pc := 34) cx dX10_watches_34 kc_bipush_50 ?_
    refine f_iconst (pc := 36) cx dX10_watches_36 kc_iconst_3 ?_
    refine f_iload (pc := 37) cx dX10_watches_37 rfl ?_
    refine f_imul (pc := 39) cx dX10_watches_39 ?_
    refine f_iadd (pc := 40) cx dX10_watches_40 ?_
    refine f_need (fun c6 => ?_)
    refine f_iald (pc := 41) (n := 3715) cx (kf_9_20 hk_o0) (by decide) c6 dX10_watches_41 ?_
    refine f_iload_n (pc := 42) cx dX10_watches_42 rfl rfl ?_
    refine f_icmp_ne (pc := 43) (tgt := 83) cx dX10_watches_43 (by decide) (fun _ => ?_) (fun _ => ?_)
    · refine f_iload_n (pc := 46) cx dX10_watches_46 rfl rfl ?_
      refine f_if_eq (pc := 47) (tgt := 59) cx dX10_watches_47 (by decide) (fun _ => ?_) (fun _ => ?_)
      · refine f_iload_n (pc := 59) cx dX10_watches_59 rfl rfl ?_
        refine f_iload (pc := 60) cx dX10_watches_60 rfl ?_
        refine f_icmp_ne (pc := 62) (tgt := 83) cx dX10_watches_62 (by decide) (fun _ => ?_) (fun _ => ?_)
        · exact f_weak (LSb.s (LSb.s (LSb.s (LSb.s (LSb.s (LSb.n LSb.e)))))) (s_X10_watches_65 cx hr hlk _ o0 x1 x2 x3 q.2 hk_o0 k3 hk3)
        · refine f_iinc4 (pc := 83) cx dX10_watches_83 kc_iconst_1 (by decide) rfl ?_
          refine f_goto (pc := 86) (tgt := 3) cx dX10_watches_86 (by decide) ?_
          exact f_weak (LSb.s (LSb.s (LSb.s (LSb.s (LSb.s (LSb.n LSb.e)))))) (hk3 (q.1, q.2 + 1))
      · refine f_iload_n (pc := 50) cx dX10_watches_50 rfl rfl ?_
        refine f_iload (pc := 51) cx dX10_watches_51 rfl ?_
        refine f_icmp_lt (pc := 53) (tgt := 83) cx dX10_watches_53 (by decide) (fun _ => ?_) (fun _ => ?_)
        · refine f_iinc4 (pc := 83) cx dX10_watches_83 kc_iconst_1 (by decide) rfl ?_
          refine f_goto (pc := 86) (tgt := 3) cx dX10_watches_86 (by decide) ?_
          exact f_weak (LSb.s (LSb.s (LSb.s (LSb.s (LSb.s (LSb.n LSb.e)))))) (hk3 (q.1, q.2 + 1))
        · refine f_goto (pc := 56) (tgt := 65) cx dX10_watches_56 (by decide) ?_
          exact f_weak (LSb.s (LSb.s (LSb.s (LSb.s (LSb.s (LSb.n LSb.e)))))) (s_X10_watches_65 cx hr hlk _ o0 x1 x2 x3 q.2 hk_o0 k3 hk3)
    · refine f_iinc4 (pc := 83) cx dX10_watches_83 kc_iconst_1 (by decide) rfl ?_
      refine f_goto (pc := 86) (tgt := 3) cx dX10_watches_86 (by decide) ?_
      exact f_weak (LSb.s (LSb.s (LSb.s (LSb.s (LSb.s (LSb.n LSb.e)))))) (hk3 (q.1, q.2 + 1))
set_option maxRecDepth 4000 in
theorem s_X10_watches {p : Program} {l : Launch} {e : Env} {s : State} {m : MethodId} {args : Array Value} {below : List Frame} {meth : Method} {c : Code} {G : GT} (cx : CX p s m args c cX10_watches 6 RX10 G) (hr : meth.sig.returnType = none) (hlk : meth.locks = false) (h : Hp) (o0 : Nat) (x1 : Int32) (x2 : Int32) (x3 : Int32) (hk_o0 : kd o0 = 9) : PF p l e (rmc 0 0) s m args below meth c 6 G 0 0 (QV below G args s) 0 [some (.ref (gad G o0)), some (.int x1), some (.int x2), some (.int x3), none, none] [] h (p_X10_watches h o0 x1 x2 x3) := by
  unfold p_X10_watches
  refine f_iconst (pc := 0) cx dX10_watches_0 kc_iconst_0 ?_
  refine f_istore4 (pc := 1) cx dX10_watches_1 (by decide) rfl ?_
  exact f_weak (LSb.s (LSb.s (LSb.s (LSb.s (LSb.s (LSb.n LSb.e)))))) (s_X10_watches_3 cx hr hlk o0 x1 x2 x3 hk_o0 FU (h, 0))
set_option maxRecDepth 4000 in
theorem c_X10_watches (l : Launch) (G : GT) (h : Hp) (o0 : Nat) (x1 : Int32) (x2 : Int32) (x3 : Int32) (hk_o0 : kd o0 = 9) : CtV l G yX10_watches cX10_watches 6 none 0 0 [.ref (gad G o0), .int x1, .int x2, .int x3] h (p_X10_watches h o0 x1 x2 x3) := fun a ha => Ct.of (lv := [some (.ref (gad G o0)), some (.int x1), some (.int x2), some (.int x3), none, none]) (by decide) rfl (Nat.le_of_ble_eq_true rfl) rfl (fun p e s m args below meth c cx hr hlk => s_X10_watches cx hr hlk h o0 x1 x2 x3 hk_o0 a ha)
def p_X10_setOf (h : Hp) (x0 : Int32) (x1 : Int32) : Option (Int32 × Hp) :=
  if ¬ x1 = 0 then (some ((((x0 * 40503) - (x0 * 40503) / 65536 * 65536) / 256) - (((x0 * 40503) - (x0 * 40503) / 65536 * 65536) / 256) / x1 * x1, h)) else none
set_option maxRecDepth 4000 in
theorem s_X10_setOf {p : Program} {l : Launch} {e : Env} {s : State} {m : MethodId} {args : Array Value} {below : List Frame} {meth : Method} {c : Code} {G : GT} (cx : CX p s m args c cX10_setOf 2 RX10 G) (hr : meth.sig.returnType = (some .int)) (hlk : meth.locks = false) (h : Hp) (x0 : Int32) (x1 : Int32) : PF p l e (rmc 0 0) s m args below meth c 2 G 0 0 (QI below G args s) 0 [some (.int x0), some (.int x1)] [] h (p_X10_setOf h x0 x1) := by
  unfold p_X10_setOf
  refine f_iload_n (pc := 0) cx dX10_setOf_0 rfl rfl ?_
  refine f_ldc (pc := 1) cx w_1477 dX10_setOf_1 ?_
  refine f_imul (pc := 3) cx dX10_setOf_3 ?_
  refine f_ldc (pc := 4) cx w_1478 dX10_setOf_4 ?_
  refine f_irem (pc := 6) cx dX10_setOf_6 (by decide) ?_
  refine f_sipush (pc := 7) cx dX10_setOf_7 kc_sipush_256 ?_
  refine f_idiv (pc := 10) cx dX10_setOf_10 (by decide) ?_
  refine f_iload_n (pc := 11) cx dX10_setOf_11 rfl rfl ?_
  refine f_need (fun c1 => ?_)
  refine f_irem (pc := 12) cx dX10_setOf_12 c1 ?_
  exact f_iret cx hr hlk rfl dX10_setOf_13
set_option maxRecDepth 4000 in
theorem c_X10_setOf (l : Launch) (G : GT) (h : Hp) (x0 : Int32) (x1 : Int32) : CtI l G yX10_setOf cX10_setOf 2 (some .int) 0 0 [.int x0, .int x1] h (p_X10_setOf h x0 x1) := fun a ha => Ct.of (lv := [some (.int x0), some (.int x1)]) (by decide) rfl (Nat.le_of_ble_eq_true rfl) rfl (fun p e s m args below meth c cx hr hlk => s_X10_setOf cx hr hlk h x0 x1 a ha)
def q_X10_stepped_49 (h : Hp) (x6 : Int64) : Option (Int32 × Hp) :=
  if 0 ≤ (lg_cmp x6 1) then (if (lg_cmp x6 65535) ≤ 0 then (some (Int64.toInt32 x6, h)) else (some (65535, h))) else (some (1, h))
def p_X10_stepped (h : Hp) (x0 : Int32) (x1 : Int32) : Option (Int32 × Hp) :=
  nv (((Int32.toInt64 x0) * (Int32.toInt64 x0)) / 65536) fun v1 => nv ((Int32.toInt64 x0) * (196608 - ((Int32.toInt64 x1) * v1))) fun v2 => nv (v2 / 131072) fun v3 => if (lg_cmp (v3 * 131072) v2) ≤ 0 then (q_X10_stepped_49 h v3) else (nv (v3 - 1) fun v4 => q_X10_stepped_49 h v4)
set_option maxRecDepth 4000 in
theorem s_X10_stepped_49 {p : Program} {l : Launch} {e : Env} {s : State} {m : MethodId} {args : Array Value} {below : List Frame} {meth : Method} {c : Code} {G : GT} (cx : CX p s m args c cX10_stepped 8 RX10 G) (hr : meth.sig.returnType = (some .int)) (hlk : meth.locks = false) (h : Hp) (x6 : Int64) : PF p l e (rmc 0 0) s m args below meth c 8 G 0 0 (QI below G args s) 49 [none, none, none, none, none, none, some (.long x6), none] [] h (q_X10_stepped_49 h x6) := by
  unfold q_X10_stepped_49
  refine f_lload (pc := 49) cx dX10_stepped_49 rfl ?_
  refine f_lconst (pc := 51) cx dX10_stepped_51 kc_lconst_1 ?_
  refine f_lcmp (pc := 52) cx dX10_stepped_52 ?_
  refine f_if_ge (pc := 53) (tgt := 60) cx dX10_stepped_53 (by decide) (fun _ => ?_) (fun _ => ?_)
  · refine f_lload (pc := 60) cx dX10_stepped_60 rfl ?_
    refine f_ldc2 (pc := 62) cx w_1573 dX10_stepped_62 ?_
    refine f_lcmp (pc := 65) cx dX10_stepped_65 ?_
    refine f_if_le (pc := 66) (tgt := 74) cx dX10_stepped_66 (by decide) (fun _ => ?_) (fun _ => ?_)
    · refine f_lload (pc := 74) cx dX10_stepped_74 rfl ?_
      refine f_l2i (pc := 76) cx dX10_stepped_76 ?_
      exact f_iret cx hr hlk rfl dX10_stepped_77
    · refine f_ldc (pc := 69) cx w_1310 dX10_stepped_69 ?_
      refine f_goto (pc := 71) (tgt := 77) cx dX10_stepped_71 (by decide) ?_
      exact f_iret cx hr hlk rfl dX10_stepped_77
  · refine f_iconst (pc := 56) cx dX10_stepped_56 kc_iconst_1 ?_
    refine f_goto (pc := 57) (tgt := 77) cx dX10_stepped_57 (by decide) ?_
    exact f_iret cx hr hlk rfl dX10_stepped_77
set_option maxRecDepth 4000 in
theorem s_X10_stepped {p : Program} {l : Launch} {e : Env} {s : State} {m : MethodId} {args : Array Value} {below : List Frame} {meth : Method} {c : Code} {G : GT} (cx : CX p s m args c cX10_stepped 8 RX10 G) (hr : meth.sig.returnType = (some .int)) (hlk : meth.locks = false) (h : Hp) (x0 : Int32) (x1 : Int32) : PF p l e (rmc 0 0) s m args below meth c 8 G 0 0 (QI below G args s) 0 [some (.int x0), some (.int x1), none, none, none, none, none, none] [] h (p_X10_stepped h x0 x1) := by
  unfold p_X10_stepped
  refine f_iload_n (pc := 0) cx dX10_stepped_0 rfl rfl ?_
  refine f_i2l (pc := 1) cx dX10_stepped_1 ?_
  refine f_iload_n (pc := 2) cx dX10_stepped_2 rfl rfl ?_
  refine f_i2l (pc := 3) cx dX10_stepped_3 ?_
  refine f_lmul (pc := 4) cx dX10_stepped_4 ?_
  refine f_ldc2 (pc := 5) cx w_1570 dX10_stepped_5 ?_
  refine f_ldiv (pc := 8) cx dX10_stepped_8 (by decide) ?_
  refine f_nvl (fun v1 => ?_)
  refine f_lstore2 (pc := 9) cx dX10_stepped_9 (by decide) rfl ?_
  refine f_iload_n (pc := 10) cx dX10_stepped_10 rfl rfl ?_
  refine f_i2l (pc := 11) cx dX10_stepped_11 ?_
  refine f_ldc2 (pc := 12) cx w_1571 dX10_stepped_12 ?_
  refine f_iload_n (pc := 15) cx dX10_stepped_15 rfl rfl ?_
  refine f_i2l (pc := 16) cx dX10_stepped_16 ?_
  refine f_lload_n (pc := 17) cx dX10_stepped_17 rfl rfl ?_
  refine f_lmul (pc := 18) cx dX10_stepped_18 ?_
  refine f_lsub (pc := 19) cx dX10_stepped_19 ?_
  refine f_lmul (pc := 20) cx dX10_stepped_20 ?_
  refine f_nvl (fun v2 => ?_)
  refine f_lstore4 (pc := 21) cx dX10_stepped_21 (by decide) rfl ?_
  refine f_lload (pc := 23) cx dX10_stepped_23 rfl ?_
  refine f_ldc2 (pc := 25) cx w_1572 dX10_stepped_25 ?_
  refine f_ldiv (pc := 28) cx dX10_stepped_28 (by decide) ?_
  refine f_nvl (fun v3 => ?_)
  refine f_lstore6 (pc := 29) cx dX10_stepped_29 (by decide) rfl ?_
  refine f_lload (pc := 31) cx dX10_stepped_31 rfl ?_
  refine f_ldc2 (pc := 33) cx w_1572 dX10_stepped_33 ?_
  refine f_lmul (pc := 36) cx dX10_stepped_36 ?_
  refine f_lload (pc := 37) cx dX10_stepped_37 rfl ?_
  refine f_lcmp (pc := 39) cx dX10_stepped_39 ?_
  refine f_if_le (pc := 40) (tgt := 49) cx dX10_stepped_40 (by decide) (fun _ => ?_) (fun _ => ?_)
  · exact f_weak (LSb.n (LSb.n (LSb.n (LSb.n (LSb.n (LSb.n (LSb.s (LSb.n LSb.e)))))))) (s_X10_stepped_49 cx hr hlk _ v3)
  · refine f_lload (pc := 43) cx dX10_stepped_43 rfl ?_
    refine f_lconst (pc := 45) cx dX10_stepped_45 kc_lconst_1 ?_
    refine f_lsub (pc := 46) cx dX10_stepped_46 ?_
    refine f_nvl (fun v4 => ?_)
    refine f_lstore6 (pc := 47) cx dX10_stepped_47 (by decide) rfl ?_
    exact f_weak (LSb.n (LSb.n (LSb.n (LSb.n (LSb.n (LSb.n (LSb.s (LSb.n LSb.e)))))))) (s_X10_stepped_49 cx hr hlk _ v4)
set_option maxRecDepth 4000 in
theorem c_X10_stepped (l : Launch) (G : GT) (h : Hp) (x0 : Int32) (x1 : Int32) : CtI l G yX10_stepped cX10_stepped 8 (some .int) 0 0 [.int x0, .int x1] h (p_X10_stepped h x0 x1) := fun a ha => Ct.of (lv := [some (.int x0), some (.int x1), none, none, none, none, none, none]) (by decide) rfl (Nat.le_of_ble_eq_true rfl) rfl (fun p e s m args below meth c cx hr hlk => s_X10_stepped cx hr hlk h x0 x1 a ha)
def p_X10_isTicks (h : Hp) (x0 : Int32) : Option (Int32 × Hp) :=
  if x0 < 1 then (some (0, h)) else (if 200 < x0 then (some (0, h)) else (some (1, h)))
set_option maxRecDepth 4000 in
theorem s_X10_isTicks {p : Program} {l : Launch} {e : Env} {s : State} {m : MethodId} {args : Array Value} {below : List Frame} {meth : Method} {c : Code} {G : GT} (cx : CX p s m args c cX10_isTicks 1 RX10 G) (hr : meth.sig.returnType = (some .boolean)) (hlk : meth.locks = false) (h : Hp) (x0 : Int32) : PF p l e (rmc 0 0) s m args below meth c 1 G 0 0 (QI below G args s) 0 [some (.int x0)] [] h (p_X10_isTicks h x0) := by
  unfold p_X10_isTicks
  refine f_iload_n (pc := 0) cx dX10_isTicks_0 rfl rfl ?_
  refine f_iconst (pc := 1) cx dX10_isTicks_1 kc_iconst_1 ?_
  refine f_icmp_lt (pc := 2) (tgt := 16) cx dX10_isTicks_2 (by decide) (fun _ => ?_) (fun _ => ?_)
  · refine f_iconst (pc := 16) cx dX10_isTicks_16 kc_iconst_0 ?_
    exact f_iret cx hr hlk (bb_n bb_0).1 dX10_isTicks_17
  · refine f_iload_n (pc := 5) cx dX10_isTicks_5 rfl rfl ?_
    refine f_sipush (pc := 6) cx dX10_isTicks_6 kc_sipush_200 ?_
    refine f_icmp_gt (pc := 9) (tgt := 16) cx dX10_isTicks_9 (by decide) (fun _ => ?_) (fun _ => ?_)
    · refine f_iconst (pc := 16) cx dX10_isTicks_16 kc_iconst_0 ?_
      exact f_iret cx hr hlk (bb_n bb_0).1 dX10_isTicks_17
    · refine f_iconst (pc := 12) cx dX10_isTicks_12 kc_iconst_1 ?_
      refine f_goto (pc := 13) (tgt := 17) cx dX10_isTicks_13 (by decide) ?_
      exact f_iret cx hr hlk (bb_n bb_1).1 dX10_isTicks_17
set_option maxRecDepth 4000 in
theorem c_X10_isTicks (l : Launch) (G : GT) (h : Hp) (x0 : Int32) : CtI l G yX10_isTicks cX10_isTicks 1 (some .boolean) 0 0 [.int x0] h (p_X10_isTicks h x0) := fun a ha => Ct.of (lv := [some (.int x0)]) (by decide) rfl (Nat.le_of_ble_eq_true rfl) rfl (fun p e s m args below meth c cx hr hlk => s_X10_isTicks cx hr hlk h x0 a ha)
def p_X10_pass (h : Hp) (o0 : Nat) (x1 : Int32) : Option (Int32 × Hp) :=
  nv (hp h o0 0 0) fun h1 => if x1 < 1 then (some ((-1), h1)) else (if 999 < x1 then (some ((-1), h1)) else (if ((h1 (o0 + 6) 0) + x1) ≤ 999999 then (nv (hp h1 (o0 + 6) 0 ((h1 (o0 + 6) 0) + x1)) fun h2 => some (h2 (o0 + 6) 0, h2)) else (some ((-1), h1))))
set_option maxRecDepth 4000 in
theorem s_X10_pass {p : Program} {l : Launch} {e : Env} {s : State} {m : MethodId} {args : Array Value} {below : List Frame} {meth : Method} {c : Code} {G : GT} (cx : CX p s m args c cX10_pass 2 RX10 G) (hr : meth.sig.returnType = (some .int)) (hlk : meth.locks = false) (h : Hp) (o0 : Nat) (x1 : Int32) (hk_o0 : kd o0 = 9) : PF p l e (rmc 0 0) s m args below meth c 2 G 0 0 (QI below G args s) 0 [some (.ref (gad G o0)), some (.int x1)] [] h (p_X10_pass h o0 x1) := by
  unfold p_X10_pass
  refine f_aload_n (pc := 0) cx dX10_pass_0 rfl rfl ?_
  refine f_iconst (pc := 1) cx dX10_pass_1 kc_iconst_0 ?_
  refine u_X10_45 (pc := 2) cx hk_o0 dX10_pass_2 ?_
  refine f_nvh (fun h1 => ?_)
  refine f_iload_n (pc := 5) cx dX10_pass_5 rfl rfl ?_
  refine f_iconst (pc := 6) cx dX10_pass_6 kc_iconst_1 ?_
  refine f_icmp_lt (pc := 7) (tgt := 31) cx dX10_pass_7 (by decide) (fun _ => ?_) (fun _ => ?_)
  · refine f_iconst (pc := 31) cx dX10_pass_31 kc_iconst_m1 ?_
    exact f_iret cx hr hlk rfl dX10_pass_32
  · refine f_iload_n (pc := 10) cx dX10_pass_10 rfl rfl ?_
    refine f_sipush (pc := 11) cx dX10_pass_11 kc_sipush_999 ?_
    refine f_icmp_gt (pc := 14) (tgt := 31) cx dX10_pass_14 (by decide) (fun _ => ?_) (fun _ => ?_)
    · refine f_iconst (pc := 31) cx dX10_pass_31 kc_iconst_m1 ?_
      exact f_iret cx hr hlk rfl dX10_pass_32
    · refine f_aload_n (pc := 17) cx dX10_pass_17 rfl rfl ?_
      refine g_X10_30 (pc := 18) cx hk_o0 dX10_pass_18 ?_
      refine f_iconst (pc := 21) cx dX10_pass_21 kc_iconst_0 ?_
      refine f_ialdk (pc := 22) (j := 0) (n := 3715) cx (kf_9_20 hk_o0) (by decide) (by decide) kl_0 dX10_pass_22 ?_
      refine f_iload_n (pc := 23) cx dX10_pass_23 rfl rfl ?_
      refine f_iadd (pc := 24) cx dX10_pass_24 ?_
      refine f_ldcw (pc := 25) cx w_1672 dX10_pass_25 ?_
      refine f_icmp_le (pc := 28) (tgt := 33) cx dX10_pass_28 (by decide) (fun _ => ?_) (fun _ => ?_)
      · refine f_aload_n (pc := 33) cx dX10_pass_33 rfl rfl ?_
        refine g_X10_30 (pc := 34) cx hk_o0 dX10_pass_34 ?_
        refine f_iconst (pc := 37) cx dX10_pass_37 kc_iconst_0 ?_
        refine f_dup2 (pc := 38) cx dX10_pass_38 rfl rfl ?_
        refine f_ialdk (pc := 39) (j := 0) (n := 3715) cx (kf_9_20 hk_o0) (by decide) (by decide) kl_0 dX10_pass_39 ?_
        refine f_iload_n (pc := 40) cx dX10_pass_40 rfl rfl ?_
        refine f_iadd (pc := 41) cx dX10_pass_41 ?_
        refine f_iastk (pc := 42) (j := 0) (n := 3715) cx (kf_9_20 hk_o0) (by decide) (by decide) kl_0 dX10_pass_42 ?_
        refine f_nvh (fun h2 => ?_)
        refine f_aload_n (pc := 43) cx dX10_pass_43 rfl rfl ?_
        refine g_X10_30 (pc := 44) cx hk_o0 dX10_pass_44 ?_
        refine f_iconst (pc := 47) cx dX10_pass_47 kc_iconst_0 ?_
        refine f_ialdk (pc := 48) (j := 0) (n := 3715) cx (kf_9_20 hk_o0) (by decide) (by decide) kl_0 dX10_pass_48 ?_
        exact f_iret cx hr hlk rfl dX10_pass_49
      · refine f_iconst (pc := 31) cx dX10_pass_31 kc_iconst_m1 ?_
        exact f_iret cx hr hlk rfl dX10_pass_32
set_option maxRecDepth 4000 in
theorem c_X10_pass (l : Launch) (G : GT) (h : Hp) (o0 : Nat) (x1 : Int32) (hk_o0 : kd o0 = 9) : CtI l G yX10_pass cX10_pass 2 (some .int) 0 0 [.ref (gad G o0), .int x1] h (p_X10_pass h o0 x1) := fun a ha => Ct.of (lv := [some (.ref (gad G o0)), some (.int x1)]) (by decide) rfl (Nat.le_of_ble_eq_true rfl) rfl (fun p e s m args below meth c cx hr hlk => s_X10_pass cx hr hlk h o0 x1 hk_o0 a ha)
def p_X10_watch (h : Hp) (o0 : Nat) (x1 : Int32) (x2 : Int32) : Option (Int32 × Hp) :=
  nv (hp h o0 0 0) fun h1 => if x1 < 0 then (some ((-1), h1)) else (if 5 < x1 then (some ((-1), h1)) else (if x2 < 0 then (some ((-1), h1)) else (if x2 ≤ 99999 then (nv (h1 (o0 + 6) 3) fun v2 => if v2 = 6 then (some ((-2), h1)) else (if ib (50 + (3 * v2)) 3715 then (nv (hp h1 (o0 + 6) (Int32.toNatClampNeg (50 + (3 * v2))) x1) fun h4 => if ib ((50 + (3 * v2)) + 1) 3715 then (nv (hp h4 (o0 + 6) (Int32.toNatClampNeg ((50 + (3 * v2)) + 1)) x2) fun h6 => if ib ((50 + (3 * v2)) + 2) 3715 then (nv (hp h6 (o0 + 6) (Int32.toNatClampNeg ((50 + (3 * v2)) + 2)) 0) fun h8 => nv (hp h8 (o0 + 6) 3 ((h8 (o0 + 6) 3) + 1)) fun h9 => some (v2, h9)) else none) else none) else none)) else (some ((-1), h1)))))
set_option maxRecDepth 4000 in
theorem s_X10_watch {p : Program} {l : Launch} {e : Env} {s : State} {m : MethodId} {args : Array Value} {below : List Frame} {meth : Method} {c : Code} {G : GT} (cx : CX p s m args c cX10_watch 4 RX10 G) (hr : meth.sig.returnType = (some .int)) (hlk : meth.locks = false) (h : Hp) (o0 : Nat) (x1 : Int32) (x2 : Int32) (hk_o0 : kd o0 = 9) : PF p l e (rmc 0 0) s m args below meth c 4 G 0 0 (QI below G args s) 0 [some (.ref (gad G o0)), some (.int x1), some (.int x2), none] [] h (p_X10_watch h o0 x1 x2) := by
  unfold p_X10_watch
  refine f_aload_n (pc := 0) cx dX10_watch_0 rfl rfl ?_
  refine f_iconst (pc := 1) cx dX10_watch_1 kc_iconst_0 ?_
  refine u_X10_45 (pc := 2) cx hk_o0 dX10_watch_2 ?_
  refine f_nvh (fun h1 => ?_)
  refine f_iload_n (pc := 5) cx dX10_watch_5 rfl rfl ?_
  refine f_if_lt (pc := 6) (tgt := 24) cx dX10_watch_6 (by decide) (fun _ => ?_) (fun _ => ?_)
  · refine f_iconst (pc := 24) cx dX10_watch_24 kc_iconst_m1 ?_
    exact f_iret cx hr hlk rfl dX10_watch_25
  · refine f_iload_n (pc := 9) cx dX10_watch_9 rfl rfl ?_
    refine f_iconst (pc := 10) cx dX10_watch_10 kc_iconst_5 ?_
    refine f_icmp_gt (pc := 11) (tgt := 24) cx dX10_watch_11 (by decide) (fun _ => ?_) (fun _ => ?_)
    · refine f_iconst (pc := 24) cx dX10_watch_24 kc_iconst_m1 ?_
      exact f_iret cx hr hlk rfl dX10_watch_25
    · refine f_iload_n (pc := 14) cx dX10_watch_14 rfl rfl ?_
      refine f_if_lt (pc := 15) (tgt := 24) cx dX10_watch_15 (by decide) (fun _ => ?_) (fun _ => ?_)
      · refine f_iconst (pc := 24) cx dX10_watch_24 kc_iconst_m1 ?_
        exact f_iret cx hr hlk rfl dX10_watch_25
      · refine f_iload_n (pc := 18) cx dX10_watch_18 rfl rfl ?_
        refine f_ldc (pc := 19) cx w_1423 dX10_watch_19 ?_
        refine f_icmp_le (pc := 21) (tgt := 26) cx dX10_watch_21 (by decide) (fun _ => ?_) (fun _ => ?_)
        · refine f_aload_n (pc := 26) cx dX10_watch_26 rfl rfl ?_
          refine g_X10_30 (pc := 27) cx hk_o0 dX10_watch_27 ?_
          refine f_iconst (pc := 30) cx dX10_watch_30 kc_iconst_3 ?_
          refine f_ialdk (pc := 31) (j := 3) (n := 3715) cx (kf_9_20 hk_o0) (by decide) (by decide) kl_3 dX10_watch_31 ?_
          refine f_nvi (fun v2 => ?_)
          refine f_istore3 (pc := 32) cx dX10_watch_32 (by decide) rfl ?_
          refine f_iload_n (pc := 33) cx dX10_watch_33 rfl rfl ?_
          refine f_bipush (pc := 34) cx dX10_watch_34 kc_bipush_6 ?_
          refine f_icmp_ne (pc := 36) (tgt := 42) cx dX10_watch_36 (by decide) (fun _ => ?_) (fun _ => ?_)
          · refine f_bipush (pc := 39) cx dX10_watch_39 kc_bipush_m2 ?_
            exact f_iret cx hr hlk rfl dX10_watch_41
          · refine f_aload_n (pc := 42) cx dX10_watch_42 rfl rfl ?_
            refine g_X10_30 (pc := 43) cx hk_o0 dX10_watch_43 ?_
            refine f_bipush (pc := 46) cx dX10_watch_46 kc_bipush_50 ?_
            refine f_iconst (pc := 48) cx dX10_watch_48 kc_iconst_3 ?_
            refine f_iload_n (pc := 49) cx dX10_watch_49 rfl rfl ?_
            refine f_imul (pc := 50) cx dX10_watch_50 ?_
            refine f_iadd (pc := 51) cx dX10_watch_51 ?_
            refine f_iload_n (pc := 52) cx dX10_watch_52 rfl rfl ?_
            refine f_need (fun c3 => ?_)
            refine f_iast (pc := 53) (n := 3715) cx (kf_9_20 hk_o0) (by decide) c3 dX10_watch_53 ?_
            refine f_nvh (fun h4 => ?_)
            refine f_aload_n (pc := 54) cx dX10_watch_54 rfl rfl ?_
            refine g_X10_30 (pc := 55) cx hk_o0 dX10_watch_55 ?_
            refine f_bipush (pc := 58) cx dX10_watch_58 kc_bipush_50 ?_
            refine f_iconst (pc := 60) cx dX10_watch_60 kc_iconst_3 ?_
            refine f_iload_n (pc := 61) cx dX10_watch_61 rfl rfl ?_
            refine f_imul (pc := 62) cx dX10_watch_62 ?_
            refine f_iadd (pc := 63) cx dX10_watch_63 ?_
            refine f_iconst (pc := 64) cx dX10_watch_64 kc_iconst_1 ?_
            refine f_iadd (pc := 65) cx dX10_watch_65 ?_
            refine f_iload_n (pc := 66) cx dX10_watch_66 rfl rfl ?_
            refine f_need (fun c5 => ?_)
            refine f_iast (pc := 67) (n := 3715) cx (kf_9_20 hk_o0) (by decide) c5 dX10_watch_67 ?_
            refine f_nvh (fun h6 => ?_)
            refine f_aload_n (pc := 68) cx dX10_watch_68 rfl rfl ?_
            refine g_X10_30 (pc := 69) cx hk_o0 dX10_watch_69 ?_
            refine f_bipush (pc := 72) cx dX10_watch_72 kc_bipush_50 ?_
            refine f_iconst (pc := 74) cx dX10_watch_74 kc_iconst_3 ?_
            refine f_iload_n (pc := 75) cx dX10_watch_75 rfl rfl ?_
            refine f_imul (pc := 76) cx dX10_watch_76 ?_
            refine f_iadd (pc := 77) cx dX10_watch_77 ?_
            refine f_iconst (pc := 78) cx dX10_watch_78 kc_iconst_2 ?_
            refine f_iadd (pc := 79) cx dX10_watch_79 ?_
            refine f_iconst (pc := 80) cx dX10_watch_80 kc_iconst_0 ?_
            refine f_need (fun c7 => ?_)
            refine f_iast (pc := 81) (n := 3715) cx (kf_9_20 hk_o0) (by decide) c7 dX10_watch_81 ?_
            refine f_nvh (fun h8 => ?_)
            refine f_aload_n (pc := 82) cx dX10_watch_82 rfl rfl ?_
            refine g_X10_30 (pc := 83) cx hk_o0 dX10_watch_83 ?_
            refine f_iconst (pc := 86) cx dX10_watch_86 kc_iconst_3 ?_
            refine f_dup2 (pc := 87) cx dX10_watch_87 rfl rfl ?_
            refine f_ialdk (pc := 88) (j := 3) (n := 3715) cx (kf_9_20 hk_o0) (by decide) (by decide) kl_3 dX10_watch_88 ?_
            refine f_iconst (pc := 89) cx dX10_watch_89 kc_iconst_1 ?_
            refine f_iadd (pc := 90) cx dX10_watch_90 ?_
            refine f_iastk (pc := 91) (j := 3) (n := 3715) cx (kf_9_20 hk_o0) (by decide) (by decide) kl_3 dX10_watch_91 ?_
            refine f_nvh (fun h9 => ?_)
            refine f_iload_n (pc := 92) cx dX10_watch_92 rfl rfl ?_
            exact f_iret cx hr hlk rfl dX10_watch_93
        · refine f_iconst (pc := 24) cx dX10_watch_24 kc_iconst_m1 ?_
          exact f_iret cx hr hlk rfl dX10_watch_25
set_option maxRecDepth 4000 in
theorem c_X10_watch (l : Launch) (G : GT) (h : Hp) (o0 : Nat) (x1 : Int32) (x2 : Int32) (hk_o0 : kd o0 = 9) : CtI l G yX10_watch cX10_watch 4 (some .int) 0 0 [.ref (gad G o0), .int x1, .int x2] h (p_X10_watch h o0 x1 x2) := fun a ha => Ct.of (lv := [some (.ref (gad G o0)), some (.int x1), some (.int x2), none]) (by decide) rfl (Nat.le_of_ble_eq_true rfl) rfl (fun p e s m args below meth c cx hr hlk => s_X10_watch cx hr hlk h o0 x1 x2 hk_o0 a ha)
def p_X10_watched (h : Hp) (o0 : Nat) (x1 : Int32) : Option (Int32 × Hp) :=
  nv (hp h o0 0 0) fun h1 => if 0 ≤ x1 then (if (h1 (o0 + 6) 3) ≤ x1 then (some ((-2), h1)) else (if ib ((50 + (3 * x1)) + 2) 3715 then (some (h1 (o0 + 6) (Int32.toNatClampNeg ((50 + (3 * x1)) + 2)), h1)) else none)) else (some ((-1), h1))
set_option maxRecDepth 4000 in
theorem s_X10_watched {p : Program} {l : Launch} {e : Env} {s : State} {m : MethodId} {args : Array Value} {below : List Frame} {meth : Method} {c : Code} {G : GT} (cx : CX p s m args c cX10_watched 2 RX10 G) (hr : meth.sig.returnType = (some .int)) (hlk : meth.locks = false) (h : Hp) (o0 : Nat) (x1 : Int32) (hk_o0 : kd o0 = 9) : PF p l e (rmc 0 0) s m args below meth c 2 G 0 0 (QI below G args s) 0 [some (.ref (gad G o0)), some (.int x1)] [] h (p_X10_watched h o0 x1) := by
  unfold p_X10_watched
  refine f_aload_n (pc := 0) cx dX10_watched_0 rfl rfl ?_
  refine f_iconst (pc := 1) cx dX10_watched_1 kc_iconst_0 ?_
  refine u_X10_45 (pc := 2) cx hk_o0 dX10_watched_2 ?_
  refine f_nvh (fun h1 => ?_)
  refine f_iload_n (pc := 5) cx dX10_watched_5 rfl rfl ?_
  refine f_if_ge (pc := 6) (tgt := 13) cx dX10_watched_6 (by decide) (fun _ => ?_) (fun _ => ?_)
  · refine f_iload_n (pc := 13) cx dX10_watched_13 rfl rfl ?_
    refine f_aload_n (pc := 14) cx dX10_watched_14 rfl rfl ?_
    refine g_X10_30 (pc := 15) cx hk_o0 dX10_watched_15 ?_
    refine f_iconst (pc := 18) cx dX10_watched_18 kc_iconst_3 ?_
    refine f_ialdk (pc := 19) (j := 3) (n := 3715) cx (kf_9_20 hk_o0) (by decide) (by decide) kl_3 dX10_watched_19 ?_
    refine f_icmp_ge (pc := 20) (tgt := 39) cx dX10_watched_20 (by decide) (fun _ => ?_) (fun _ => ?_)
    · refine f_bipush (pc := 39) cx dX10_watched_39 kc_bipush_m2 ?_
      exact f_iret cx hr hlk rfl dX10_watched_41
    · refine f_aload_n (pc := 23) cx dX10_watched_23 rfl rfl ?_
      refine g_X10_30 (pc := 24) cx hk_o0 dX10_watched_24 ?_
      refine f_bipush (pc := 27) cx dX10_watched_27 kc_bipush_50 ?_
      refine f_iconst (pc := 29) cx dX10_watched_29 kc_iconst_3 ?_
      refine f_iload_n (pc := 30) cx dX10_watched_30 rfl rfl ?_
      refine f_imul (pc := 31) cx dX10_watched_31 ?_
      refine f_iadd (pc := 32) cx dX10_watched_32 ?_
      refine f_iconst (pc := 33) cx dX10_watched_33 kc_iconst_2 ?_
      refine f_iadd (pc := 34) cx dX10_watched_34 ?_
      refine f_need (fun c2 => ?_)
      refine f_iald (pc := 35) (n := 3715) cx (kf_9_20 hk_o0) (by decide) c2 dX10_watched_35 ?_
      refine f_goto (pc := 36) (tgt := 41) cx dX10_watched_36 (by decide) ?_
      exact f_iret cx hr hlk rfl dX10_watched_41
  · refine f_iconst (pc := 9) cx dX10_watched_9 kc_iconst_m1 ?_
    refine f_goto (pc := 10) (tgt := 41) cx dX10_watched_10 (by decide) ?_
    exact f_iret cx hr hlk rfl dX10_watched_41
set_option maxRecDepth 4000 in
theorem c_X10_watched (l : Launch) (G : GT) (h : Hp) (o0 : Nat) (x1 : Int32) (hk_o0 : kd o0 = 9) : CtI l G yX10_watched cX10_watched 2 (some .int) 0 0 [.ref (gad G o0), .int x1] h (p_X10_watched h o0 x1) := fun a ha => Ct.of (lv := [some (.ref (gad G o0)), some (.int x1)]) (by decide) rfl (Nat.le_of_ble_eq_true rfl) rfl (fun p e s m args below meth c cx hr hlk => s_X10_watched cx hr hlk h o0 x1 hk_o0 a ha)
def p_X10_isKey (h : Hp) (x0 : Int32) : Option (Int32 × Hp) :=
  if x0 < 0 then (some (0, h)) else (if 9999 < x0 then (some (0, h)) else (some (1, h)))
set_option maxRecDepth 4000 in
theorem s_X10_isKey {p : Program} {l : Launch} {e : Env} {s : State} {m : MethodId} {args : Array Value} {below : List Frame} {meth : Method} {c : Code} {G : GT} (cx : CX p s m args c cX10_isKey 1 RX10 G) (hr : meth.sig.returnType = (some .boolean)) (hlk : meth.locks = false) (h : Hp) (x0 : Int32) : PF p l e (rmc 0 0) s m args below meth c 1 G 0 0 (QI below G args s) 0 [some (.int x0)] [] h (p_X10_isKey h x0) := by
  unfold p_X10_isKey
  refine f_iload_n (pc := 0) cx dX10_isKey_0 rfl rfl ?_
  refine f_if_lt (pc := 1) (tgt := 15) cx dX10_isKey_1 (by decide) (fun _ => ?_) (fun _ => ?_)
  · refine f_iconst (pc := 15) cx dX10_isKey_15 kc_iconst_0 ?_
    exact f_iret cx hr hlk (bb_n bb_0).1 dX10_isKey_16
  · refine f_iload_n (pc := 4) cx dX10_isKey_4 rfl rfl ?_
    refine f_sipush (pc := 5) cx dX10_isKey_5 kc_sipush_9999 ?_
    refine f_icmp_gt (pc := 8) (tgt := 15) cx dX10_isKey_8 (by decide) (fun _ => ?_) (fun _ => ?_)
    · refine f_iconst (pc := 15) cx dX10_isKey_15 kc_iconst_0 ?_
      exact f_iret cx hr hlk (bb_n bb_0).1 dX10_isKey_16
    · refine f_iconst (pc := 11) cx dX10_isKey_11 kc_iconst_1 ?_
      refine f_goto (pc := 12) (tgt := 16) cx dX10_isKey_12 (by decide) ?_
      exact f_iret cx hr hlk (bb_n bb_1).1 dX10_isKey_16
set_option maxRecDepth 4000 in
theorem c_X10_isKey (l : Launch) (G : GT) (h : Hp) (x0 : Int32) : CtI l G yX10_isKey cX10_isKey 1 (some .boolean) 0 0 [.int x0] h (p_X10_isKey h x0) := fun a ha => Ct.of (lv := [some (.int x0)]) (by decide) rfl (Nat.le_of_ble_eq_true rfl) rfl (fun p e s m args below meth c cx hr hlk => s_X10_isKey cx hr hlk h x0 a ha)
def p_X10_past (h : Hp) (o0 : Nat) (x1 : Int32) (x2 : Int32) : Option (Int32 × Hp) :=
  nv (hp h o0 0 0) fun h1 => if x1 < 0 then (some ((-1), h1)) else (if 3 < x1 then (some ((-1), h1)) else (if 0 ≤ x2 then (if ib (14 + x1) 3715 then (if (h1 (o0 + 6) (Int32.toNatClampNeg (14 + x1))) ≤ x2 then (some ((-2), h1)) else (if ib ((2676 + (200 * x1)) + x2) 3715 then (some (h1 (o0 + 6) (Int32.toNatClampNeg ((2676 + (200 * x1)) + x2)), h1)) else none)) else none) else (some ((-1), h1))))
set_option maxRecDepth 4000 in
theorem s_X10_past {p : Program} {l : Launch} {e : Env} {s : State} {m : MethodId} {args : Array Value} {below : List Frame} {meth : Method} {c : Code} {G : GT} (cx : CX p s m args c cX10_past 3 RX10 G) (hr : meth.sig.returnType = (some .int)) (hlk : meth.locks = false) (h : Hp) (o0 : Nat) (x1 : Int32) (x2 : Int32) (hk_o0 : kd o0 = 9) : PF p l e (rmc 0 0) s m args below meth c 3 G 0 0 (QI below G args s) 0 [some (.ref (gad G o0)), some (.int x1), some (.int x2)] [] h (p_X10_past h o0 x1 x2) := by
  unfold p_X10_past
  refine f_aload_n (pc := 0) cx dX10_past_0 rfl rfl ?_
  refine f_iconst (pc := 1) cx dX10_past_1 kc_iconst_0 ?_
  refine u_X10_45 (pc := 2) cx hk_o0 dX10_past_2 ?_
  refine f_nvh (fun h1 => ?_)
  refine f_iload_n (pc := 5) cx dX10_past_5 rfl rfl ?_
  refine f_if_lt (pc := 6) (tgt := 18) cx dX10_past_6 (by decide) (fun _ => ?_) (fun _ => ?_)
  · refine f_iconst (pc := 18) cx dX10_past_18 kc_iconst_m1 ?_
    exact f_iret cx hr hlk rfl dX10_past_19
  · refine f_iload_n (pc := 9) cx dX10_past_9 rfl rfl ?_
    refine f_iconst (pc := 10) cx dX10_past_10 kc_iconst_3 ?_
    refine f_icmp_gt (pc := 11) (tgt := 18) cx dX10_past_11 (by decide) (fun _ => ?_) (fun _ => ?_)
    · refine f_iconst (pc := 18) cx dX10_past_18 kc_iconst_m1 ?_
      exact f_iret cx hr hlk rfl dX10_past_19
    · refine f_iload_n (pc := 14) cx dX10_past_14 rfl rfl ?_
      refine f_if_ge (pc := 15) (tgt := 20) cx dX10_past_15 (by decide) (fun _ => ?_) (fun _ => ?_)
      · refine f_iload_n (pc := 20) cx dX10_past_20 rfl rfl ?_
        refine f_aload_n (pc := 21) cx dX10_past_21 rfl rfl ?_
        refine g_X10_30 (pc := 22) cx hk_o0 dX10_past_22 ?_
        refine f_bipush (pc := 25) cx dX10_past_25 kc_bipush_14 ?_
        refine f_iload_n (pc := 27) cx dX10_past_27 rfl rfl ?_
        refine f_iadd (pc := 28) cx dX10_past_28 ?_
        refine f_need (fun c2 => ?_)
        refine f_iald (pc := 29) (n := 3715) cx (kf_9_20 hk_o0) (by decide) c2 dX10_past_29 ?_
        refine f_icmp_ge (pc := 30) (tgt := 52) cx dX10_past_30 (by decide) (fun _ => ?_) (fun _ => ?_)
        · refine f_bipush (pc := 52) cx dX10_past_52 kc_bipush_m2 ?_
          exact f_iret cx hr hlk rfl dX10_past_54
        · refine f_aload_n (pc := 33) cx dX10_past_33 rfl rfl ?_
          refine g_X10_30 (pc := 34) cx hk_o0 dX10_past_34 ?_
          refine f_sipush (pc := 37) cx dX10_past_37 kc_sipush_2676 ?_
          refine f_sipush (pc := 40) cx dX10_past_40 kc_sipush_200 ?_
          refine f_iload_n (pc := 43) cx dX10_past_43 rfl rfl ?_
          refine f_imul (pc := 44) cx dX10_past_44 ?_
          refine f_iadd (pc := 45) cx dX10_past_45 ?_
          refine f_iload_n (pc := 46) cx dX10_past_46 rfl rfl ?_
          refine f_iadd (pc := 47) cx dX10_past_47 ?_
          refine f_need (fun c3 => ?_)
          refine f_iald (pc := 48) (n := 3715) cx (kf_9_20 hk_o0) (by decide) c3 dX10_past_48 ?_
          refine f_goto (pc := 49) (tgt := 54) cx dX10_past_49 (by decide) ?_
          exact f_iret cx hr hlk rfl dX10_past_54
      · refine f_iconst (pc := 18) cx dX10_past_18 kc_iconst_m1 ?_
        exact f_iret cx hr hlk rfl dX10_past_19
set_option maxRecDepth 4000 in
theorem c_X10_past (l : Launch) (G : GT) (h : Hp) (o0 : Nat) (x1 : Int32) (x2 : Int32) (hk_o0 : kd o0 = 9) : CtI l G yX10_past cX10_past 3 (some .int) 0 0 [.ref (gad G o0), .int x1, .int x2] h (p_X10_past h o0 x1 x2) := fun a ha => Ct.of (lv := [some (.ref (gad G o0)), some (.int x1), some (.int x2)]) (by decide) rfl (Nat.le_of_ble_eq_true rfl) rfl (fun p e s m args below meth c cx hr hlk => s_X10_past cx hr hlk h o0 x1 x2 hk_o0 a ha)
def b_X10_exactOf_3 (x0 : Int32) (k3 : Hp × Int32 → Option (Int32 × Hp)) (q : Hp × Int32) : Option (Int32 × Hp) :=
  if (lg_cmp (((Int32.toInt64 q.2) * (Int32.toInt64 q.2)) * (Int32.toInt64 x0)) 4294967296) ≤ 0 then (some (q.2, q.1)) else (k3 (q.1, q.2 + (-1)))
def p_X10_exactOf (h : Hp) (x0 : Int32) : Option (Int32 × Hp) :=
  lp (b_X10_exactOf_3 x0) FU (h, 65535)
set_option maxRecDepth 4000 in
theorem s_X10_exactOf_3 {p : Program} {l : Launch} {e : Env} {s : State} {m : MethodId} {args : Array Value} {below : List Frame} {meth : Method} {c : Code} {G : GT} (cx : CX p s m args c cX10_exactOf 2 RX10 G) (hr : meth.sig.returnType = (some .int)) (hlk : meth.locks = false) (x0 : Int32) : ∀ (n : Nat) (q : Hp × Int32), PF p l e (rmc 0 0) s m args below meth c 2 G 0 0 (QI below G args s) 3 [some (.int x0), some (.int q.2)] [] q.1 (lp (b_X10_exactOf_3 x0) n q) := by
  refine f_lp (lvf := fun (q : Hp × Int32) => [some (.int x0), some (.int q.2)]) (hf := fun (q : Hp × Int32) => q.1) (fun k3 hk3 q => ?_)
  show PF p l e (rmc 0 0) s m args below meth c 2 G 0 0 (QI below G args s) 3 [some (.int x0), some (.int q.2)] [] q.1 (b_X10_exactOf_3 x0 k3 q)
  unfold b_X10_exactOf_3
  refine f_iload_n (pc := 3) cx dX10_exactOf_3 rfl rfl ?_
  refine f_i2l (pc := 4) cx dX10_exactOf_4 ?_
  refine f_iload_n (pc := 5) cx dX10_exactOf_5 rfl rfl ?_
  refine f_i2l (pc := 6) cx dX10_exactOf_6 ?_
  refine f_lmul (pc := 7) cx dX10_exactOf_7 ?_
  refine f_iload_n (pc := 8) cx dX10_exactOf_8 rfl rfl ?_
  refine f_i2l (pc := 9) cx dX10_exactOf_9 ?_
  refine f_lmul (pc := 10) cx dX10_exactOf_10 ?_
  refine f_ldc2 (pc := 11) cx w_1749 dX10_exactOf_11 ?_
  refine f_lcmp (pc := 14) cx dX10_exactOf_14 ?_
  refine f_if_le (pc := 15) (tgt := 24) cx dX10_exactOf_15 (by decide) (fun _ => ?_) (fun _ => ?_)
  · refine f_iload_n (pc := 24) cx dX10_exactOf_24 rfl rfl ?_
    exact f_iret cx hr hlk rfl dX10_exactOf_25
  · refine f_iinc1 (pc := 18) cx dX10_exactOf_18 kc_iconst_m1 (by decide) rfl ?_
    refine f_goto (pc := 21) (tgt := 3) cx dX10_exactOf_21 (by decide) ?_
    exact f_weak (LSb.s (LSb.s LSb.e)) (hk3 (q.1, q.2 + (-1)))
set_option maxRecDepth 4000 in
theorem s_X10_exactOf {p : Program} {l : Launch} {e : Env} {s : State} {m : MethodId} {args : Array Value} {below : List Frame} {meth : Method} {c : Code} {G : GT} (cx : CX p s m args c cX10_exactOf 2 RX10 G) (hr : meth.sig.returnType = (some .int)) (hlk : meth.locks = false) (h : Hp) (x0 : Int32) : PF p l e (rmc 0 0) s m args below meth c 2 G 0 0 (QI below G args s) 0 [some (.int x0), none] [] h (p_X10_exactOf h x0) := by
  unfold p_X10_exactOf
  refine f_ldc (pc := 0) cx w_1310 dX10_exactOf_0 ?_
  refine f_istore1 (pc := 2) cx dX10_exactOf_2 (by decide) rfl ?_
  exact f_weak (LSb.s (LSb.s LSb.e)) (s_X10_exactOf_3 cx hr hlk x0 FU (h, 65535))
set_option maxRecDepth 4000 in
theorem c_X10_exactOf (l : Launch) (G : GT) (h : Hp) (x0 : Int32) : CtI l G yX10_exactOf cX10_exactOf 2 (some .int) 0 0 [.int x0] h (p_X10_exactOf h x0) := fun a ha => Ct.of (lv := [some (.int x0), none]) (by decide) rfl (Nat.le_of_ble_eq_true rfl) rfl (fun p e s m args below meth c cx hr hlk => s_X10_exactOf cx hr hlk h x0 a ha)
def p_X10_isCount (h : Hp) (x0 : Int32) : Option (Int32 × Hp) :=
  if x0 < 1 then (some (0, h)) else (if 999 < x0 then (some (0, h)) else (some (1, h)))
set_option maxRecDepth 4000 in
theorem s_X10_isCount {p : Program} {l : Launch} {e : Env} {s : State} {m : MethodId} {args : Array Value} {below : List Frame} {meth : Method} {c : Code} {G : GT} (cx : CX p s m args c cX10_isCount 1 RX10 G) (hr : meth.sig.returnType = (some .boolean)) (hlk : meth.locks = false) (h : Hp) (x0 : Int32) : PF p l e (rmc 0 0) s m args below meth c 1 G 0 0 (QI below G args s) 0 [some (.int x0)] [] h (p_X10_isCount h x0) := by
  unfold p_X10_isCount
  refine f_iload_n (pc := 0) cx dX10_isCount_0 rfl rfl ?_
  refine f_iconst (pc := 1) cx dX10_isCount_1 kc_iconst_1 ?_
  refine f_icmp_lt (pc := 2) (tgt := 16) cx dX10_isCount_2 (by decide) (fun _ => ?_) (fun _ => ?_)
  · refine f_iconst (pc := 16) cx dX10_isCount_16 kc_iconst_0 ?_
    exact f_iret cx hr hlk (bb_n bb_0).1 dX10_isCount_17
  · refine f_iload_n (pc := 5) cx dX10_isCount_5 rfl rfl ?_
    refine f_sipush (pc := 6) cx dX10_isCount_6 kc_sipush_999 ?_
    refine f_icmp_gt (pc := 9) (tgt := 16) cx dX10_isCount_9 (by decide) (fun _ => ?_) (fun _ => ?_)
    · refine f_iconst (pc := 16) cx dX10_isCount_16 kc_iconst_0 ?_
      exact f_iret cx hr hlk (bb_n bb_0).1 dX10_isCount_17
    · refine f_iconst (pc := 12) cx dX10_isCount_12 kc_iconst_1 ?_
      refine f_goto (pc := 13) (tgt := 17) cx dX10_isCount_13 (by decide) ?_
      exact f_iret cx hr hlk (bb_n bb_1).1 dX10_isCount_17
set_option maxRecDepth 4000 in
theorem c_X10_isCount (l : Launch) (G : GT) (h : Hp) (x0 : Int32) : CtI l G yX10_isCount cX10_isCount 1 (some .boolean) 0 0 [.int x0] h (p_X10_isCount h x0) := fun a ha => Ct.of (lv := [some (.int x0)]) (by decide) rfl (Nat.le_of_ble_eq_true rfl) rfl (fun p e s m args below meth c cx hr hlk => s_X10_isCount cx hr hlk h x0 a ha)
def p_X10_isMore (h : Hp) (x0 : Int32) : Option (Int32 × Hp) :=
  if x0 < 0 then (some (0, h)) else (if 999 < x0 then (some (0, h)) else (some (1, h)))
set_option maxRecDepth 4000 in
theorem s_X10_isMore {p : Program} {l : Launch} {e : Env} {s : State} {m : MethodId} {args : Array Value} {below : List Frame} {meth : Method} {c : Code} {G : GT} (cx : CX p s m args c cX10_isMore 1 RX10 G) (hr : meth.sig.returnType = (some .boolean)) (hlk : meth.locks = false) (h : Hp) (x0 : Int32) : PF p l e (rmc 0 0) s m args below meth c 1 G 0 0 (QI below G args s) 0 [some (.int x0)] [] h (p_X10_isMore h x0) := by
  unfold p_X10_isMore
  refine f_iload_n (pc := 0) cx dX10_isMore_0 rfl rfl ?_
  refine f_if_lt (pc := 1) (tgt := 15) cx dX10_isMore_1 (by decide) (fun _ => ?_) (fun _ => ?_)
  · refine f_iconst (pc := 15) cx dX10_isMore_15 kc_iconst_0 ?_
    exact f_iret cx hr hlk (bb_n bb_0).1 dX10_isMore_16
  · refine f_iload_n (pc := 4) cx dX10_isMore_4 rfl rfl ?_
    refine f_sipush (pc := 5) cx dX10_isMore_5 kc_sipush_999 ?_
    refine f_icmp_gt (pc := 8) (tgt := 15) cx dX10_isMore_8 (by decide) (fun _ => ?_) (fun _ => ?_)
    · refine f_iconst (pc := 15) cx dX10_isMore_15 kc_iconst_0 ?_
      exact f_iret cx hr hlk (bb_n bb_0).1 dX10_isMore_16
    · refine f_iconst (pc := 11) cx dX10_isMore_11 kc_iconst_1 ?_
      refine f_goto (pc := 12) (tgt := 16) cx dX10_isMore_12 (by decide) ?_
      exact f_iret cx hr hlk (bb_n bb_1).1 dX10_isMore_16
set_option maxRecDepth 4000 in
theorem c_X10_isMore (l : Launch) (G : GT) (h : Hp) (x0 : Int32) : CtI l G yX10_isMore cX10_isMore 1 (some .boolean) 0 0 [.int x0] h (p_X10_isMore h x0) := fun a ha => Ct.of (lv := [some (.int x0)]) (by decide) rfl (Nat.le_of_ble_eq_true rfl) rfl (fun p e s m args below meth c cx hr hlk => s_X10_isMore cx hr hlk h x0 a ha)
def b_X10_begins_142 (k132 : Hp × Int32 → Option Hp) (o0 : Nat) (x1 : Int32) (k142 : Hp × Int32 → Option Hp) (q : Hp × Int32) : Option Hp :=
  if 5 ≤ q.2 then (Option.bind (p_X10_sends0 q.1 o0 x1 7 (-2)) fun r1 => k132 (r1, x1 + 1)) else (if ib ((5 * x1) + q.2) 20 then (Option.bind (p_X10_sends0 q.1 o0 x1 q.2 (q.1 (o0 + 4) (Int32.toNatClampNeg ((5 * x1) + q.2)))) fun r3 => k142 (r3, q.2 + 1)) else none)
def b_X10_begins_132 (o0 : Nat) (k132 : Hp × Int32 → Option Hp) (q : Hp × Int32) : Option Hp :=
  if (q.1 o0 6) ≤ q.2 then (some q.1) else (lp (b_X10_begins_142 k132 o0 q.2) FU (q.1, 0))
def b_X10_begins_80 (o0 : Nat) (k80 : Hp × Int32 → Option Hp) (q : Hp × Int32) : Option Hp :=
  if 16 ≤ q.2 then (nv (hp q.1 (o0 + 6) 3477 (q.1 o0 6)) fun h4 => lp (b_X10_begins_132 o0) FU (h4, 0)) else (Option.bind (p_X10_puts q.1 o0 q.2 0 (-2)) fun r5 => Option.bind (p_X10_puts r5 o0 q.2 7 (-2)) fun r6 => Option.bind (p_X10_puts r6 o0 q.2 8 65535) fun r7 => k80 (r7, q.2 + 1))
def b_X10_begins_24 (o0 : Nat) (k24 : Hp × Int32 → Option Hp) (q : Hp × Int32) : Option Hp :=
  if 6 ≤ q.2 then (nv (hp q.1 (o0 + 6) 10 (q.1 (o0 + 2) 6)) fun h8 => nv (hp h8 (o0 + 6) 11 (h8 (o0 + 2) 7)) fun h9 => lp (b_X10_begins_80 o0) FU (h9, 0)) else (if ib q.2 8 then (if ib (4 + q.2) 3715 then (nv (hp q.1 (o0 + 6) (Int32.toNatClampNeg (4 + q.2)) (q.1 (o0 + 2) (Int32.toNatClampNeg q.2))) fun h12 => k24 (h12, q.2 + 1)) else none) else none)
def b_X10_begins_2 (o0 : Nat) (k2 : Hp × Int32 → Option Hp) (q : Hp × Int32) : Option Hp :=
  if 3715 ≤ q.2 then (lp (b_X10_begins_24 o0) FU (q.1, 0)) else (if ib q.2 3715 then (nv (hp q.1 (o0 + 6) (Int32.toNatClampNeg q.2) 0) fun h14 => k2 (h14, q.2 + 1)) else none)
def p_X10_begins (h : Hp) (o0 : Nat) : Option Hp :=
  lp (b_X10_begins_2 o0) FU (h, 0)
set_option maxRecDepth 4000 in
theorem s_X10_begins_142 {p : Program} {l : Launch} {e : Env} {s : State} {m : MethodId} {args : Array Value} {below : List Frame} {meth : Method} {c : Code} {G : GT} (cx : CX p s m args c cX10_begins 3 RX10 G) (hr : meth.sig.returnType = none) (hlk : meth.locks = false) (o0 : Nat) (x1 : Int32) (hk_o0 : kd o0 = 9) (k132 : Hp × Int32 → Option Hp) (hk132 : ∀ (q : Hp × Int32), PF p l e (rmc 1 23) s m args below meth c 3 G 0 0 (QV below G args s) 132 [some (.ref (gad G o0)), some (.int q.2), none] [] q.1 (k132 q)) : ∀ (n : Nat) (q : Hp × Int32), PF p l e (rmc 1 23) s m args below meth c 3 G 0 0 (QV below G args s) 142 [some (.ref (gad G o0)), some (.int x1), some (.int q.2)] [] q.1 (lp (b_X10_begins_142 k132 o0 x1) n q) := by
  refine f_lp (lvf := fun (q : Hp × Int32) => [some (.ref (gad G o0)), some (.int x1), some (.int q.2)]) (hf := fun (q : Hp × Int32) => q.1) (fun k142 hk142 q => ?_)
  show PF p l e (rmc 1 23) s m args below meth c 3 G 0 0 (QV below G args s) 142 [some (.ref (gad G o0)), some (.int x1), some (.int q.2)] [] q.1 (b_X10_begins_142 k132 o0 x1 k142 q)
  unfold b_X10_begins_142
  refine f_iload_n (pc := 142) cx dX10_begins_142 rfl rfl ?_
  refine f_iconst (pc := 143) cx dX10_begins_143 kc_iconst_5 ?_
  refine f_icmp_ge (pc := 144) (tgt := 169) cx dX10_begins_144 (by decide) (fun _ => ?_) (fun _ => ?_)
  · refine f_aload_n (pc := 169) cx dX10_begins_169 rfl rfl ?_
    refine f_iload_n (pc := 170) cx dX10_begins_170 rfl rfl ?_
    refine f_bipush (pc := 171) cx dX10_begins_171 kc_bipush_7 ?_
    refine f_bipush (pc := 173) cx dX10_begins_173 kc_bipush_m2 ?_
    refine f_bind (fun r1 hr1 => ?_)
    refine k_X10_170 (pc := 175) cx (c_X10_sends0 l G _ o0 x1 7 (-2) hk_o0 r1 hr1) hk_o0 ⟨by decide, by decide⟩ ⟨Nat.zero_le _, Nat.zero_le _⟩ (Nat.le_of_ble_eq_true rfl) dX10_begins_175 ?_
    refine f_iinc1 (pc := 178) cx dX10_begins_178 kc_iconst_1 (by decide) rfl ?_
    refine f_goto (pc := 181) (tgt := 132) cx dX10_begins_181 (by decide) ?_
    exact f_weak (LSb.s (LSb.s (LSb.n LSb.e))) (hk132 (r1, x1 + 1))
  · refine f_aload_n (pc := 147) cx dX10_begins_147 rfl rfl ?_
    refine f_iload_n (pc := 148) cx dX10_begins_148 rfl rfl ?_
    refine f_iload_n (pc := 149) cx dX10_begins_149 rfl rfl ?_
    refine f_aload_n (pc := 150) cx dX10_begins_150 rfl rfl ?_
    refine g_X10_20 (pc := 151) cx hk_o0 dX10_begins_151 ?_
    refine f_iconst (pc := 154) cx dX10_begins_154 kc_iconst_5 ?_
    refine f_iload_n (pc := 155) cx dX10_begins_155 rfl rfl ?_
    refine f_imul (pc := 156) cx dX10_begins_156 ?_
    refine f_iload_n (pc := 157) cx dX10_begins_157 rfl rfl ?_
    refine f_iadd (pc := 158) cx dX10_begins_158 ?_
    refine f_need (fun c2 => ?_)
    refine f_iald (pc := 159) (n := 20) cx (kf_9_5 hk_o0) (by decide) c2 dX10_begins_159 ?_
    refine f_bind (fun r3 hr3 => ?_)
    refine k_X10_170 (pc := 160) cx (c_X10_sends0 l G _ o0 x1 q.2 (q.1 (o0 + 4) (Int32.toNatClampNeg ((5 * x1) + q.2))) hk_o0 r3 hr3) hk_o0 ⟨by decide, by decide⟩ ⟨Nat.zero_le _, Nat.zero_le _⟩ (Nat.le_of_ble_eq_true rfl) dX10_begins_160 ?_
    refine f_iinc2 (pc := 163) cx dX10_begins_163 kc_iconst_1 (by decide) rfl ?_
    refine f_goto (pc := 166) (tgt := 142) cx dX10_begins_166 (by decide) ?_
    exact f_weak (LSb.s (LSb.s (LSb.s LSb.e))) (hk142 (r3, q.2 + 1))
set_option maxRecDepth 4000 in
theorem s_X10_begins_132 {p : Program} {l : Launch} {e : Env} {s : State} {m : MethodId} {args : Array Value} {below : List Frame} {meth : Method} {c : Code} {G : GT} (cx : CX p s m args c cX10_begins 3 RX10 G) (hr : meth.sig.returnType = none) (hlk : meth.locks = false) (o0 : Nat) (hk_o0 : kd o0 = 9) : ∀ (n : Nat) (q : Hp × Int32), PF p l e (rmc 1 23) s m args below meth c 3 G 0 0 (QV below G args s) 132 [some (.ref (gad G o0)), some (.int q.2), none] [] q.1 (lp (b_X10_begins_132 o0) n q) := by
  refine f_lp (lvf := fun (q : Hp × Int32) => [some (.ref (gad G o0)), some (.int q.2), none]) (hf := fun (q : Hp × Int32) => q.1) (fun k132 hk132 q => ?_)
  show PF p l e (rmc 1 23) s m args below meth c 3 G 0 0 (QV below G args s) 132 [some (.ref (gad G o0)), some (.int q.2), none] [] q.1 (b_X10_begins_132 o0 k132 q)
  unfold b_X10_begins_132
  refine f_iload_n (pc := 132) cx dX10_begins_132 rfl rfl ?_
  refine f_aload_n (pc := 133) cx dX10_begins_133 rfl rfl ?_
  refine g_X10_128 (pc := 134) cx hk_o0 dX10_begins_134 ?_
  refine f_icmp_ge (pc := 137) (tgt := 184) cx dX10_begins_137 (by decide) (fun _ => ?_) (fun _ => ?_)
  · exact f_vret cx hr hlk dX10_begins_184
  · refine f_iconst (pc := 140) cx dX10_begins_140 kc_iconst_0 ?_
    refine f_istore2 (pc := 141) cx dX10_begins_141 (by decide) rfl ?_
    exact f_weak (LSb.s (LSb.s (LSb.s LSb.e))) (s_X10_begins_142 cx hr hlk o0 q.2 hk_o0 k132 hk132 FU (q.1, 0))
set_option maxRecDepth 4000 in
theorem s_X10_begins_80 {p : Program} {l : Launch} {e : Env} {s : State} {m : MethodId} {args : Array Value} {below : List Frame} {meth : Method} {c : Code} {G : GT} (cx : CX p s m args c cX10_begins 3 RX10 G) (hr : meth.sig.returnType = none) (hlk : meth.locks = false) (o0 : Nat) (hk_o0 : kd o0 = 9) : ∀ (n : Nat) (q : Hp × Int32), PF p l e (rmc 1 23) s m args below meth c 3 G 0 0 (QV below G args s) 80 [some (.ref (gad G o0)), some (.int q.2), none] [] q.1 (lp (b_X10_begins_80 o0) n q) := by
  refine f_lp (lvf := fun (q : Hp × Int32) => [some (.ref (gad G o0)), some (.int q.2), none]) (hf := fun (q : Hp × Int32) => q.1) (fun k80 hk80 q => ?_)
  show PF p l e (rmc 1 23) s m args below meth c 3 G 0 0 (QV below G args s) 80 [some (.ref (gad G o0)), some (.int q.2), none] [] q.1 (b_X10_begins_80 o0 k80 q)
  unfold b_X10_begins_80
  refine f_iload_n (pc := 80) cx dX10_begins_80 rfl rfl ?_
  refine f_bipush (pc := 81) cx dX10_begins_81 kc_bipush_16 ?_
  refine f_icmp_ge (pc := 83) (tgt := 118) cx dX10_begins_83 (by decide) (fun _ => ?_) (fun _ => ?_)
  · refine f_aload_n (pc := 118) cx dX10_begins_118 rfl rfl ?_
    refine g_X10_30 (pc := 119) cx hk_o0 dX10_begins_119 ?_
    refine f_sipush (pc := 122) cx dX10_begins_122 kc_sipush_3477 ?_
    refine f_aload_n (pc := 125) cx dX10_begins_125 rfl rfl ?_
    refine g_X10_128 (pc := 126) cx hk_o0 dX10_begins_126 ?_
    refine f_iastk (pc := 129) (j := 3477) (n := 3715) cx (kf_9_20 hk_o0) (by decide) (by decide) kl_3477 dX10_begins_129 ?_
    refine f_nvh (fun h4 => ?_)
    refine f_iconst (pc := 130) cx dX10_begins_130 kc_iconst_0 ?_
    refine f_istore1 (pc := 131) cx dX10_begins_131 (by decide) rfl ?_
    exact f_weak (LSb.s (LSb.s (LSb.n LSb.e))) (s_X10_begins_132 cx hr hlk o0 hk_o0 FU (h4, 0))
  · refine f_aload_n (pc := 86) cx dX10_begins_86 rfl rfl ?_
    refine f_iload_n (pc := 87) cx dX10_begins_87 rfl rfl ?_
    refine f_iconst (pc := 88) cx dX10_begins_88 kc_iconst_0 ?_
    refine f_bipush (pc := 89) cx dX10_begins_89 kc_bipush_m2 ?_
    refine f_bind (fun r5 hr5 => ?_)
    refine k_X10_165 (pc := 91) cx (c_X10_puts l G _ o0 q.2 0 (-2) hk_o0 r5 hr5) hk_o0 ⟨by decide, by decide⟩ ⟨Nat.zero_le _, Nat.zero_le _⟩ (Nat.le_of_ble_eq_true rfl) dX10_begins_91 ?_
    refine f_aload_n (pc := 94) cx dX10_begins_94 rfl rfl ?_
    refine f_iload_n (pc := 95) cx dX10_begins_95 rfl rfl ?_
    refine f_bipush (pc := 96) cx dX10_begins_96 kc_bipush_7 ?_
    refine f_bipush (pc := 98) cx dX10_begins_98 kc_bipush_m2 ?_
    refine f_bind (fun r6 hr6 => ?_)
    refine k_X10_165 (pc := 100) cx (c_X10_puts l G _ o0 q.2 7 (-2) hk_o0 r6 hr6) hk_o0 ⟨by decide, by decide⟩ ⟨Nat.zero_le _, Nat.zero_le _⟩ (Nat.le_of_ble_eq_true rfl) dX10_begins_100 ?_
    refine f_aload_n (pc := 103) cx dX10_begins_103 rfl rfl ?_
    refine f_iload_n (pc := 104) cx dX10_begins_104 rfl rfl ?_
    refine f_bipush (pc := 105) cx dX10_begins_105 kc_bipush_8 ?_
    refine f_ldc (pc := 107) cx w_1310 dX10_begins_107 ?_
    refine f_bind (fun r7 hr7 => ?_)
    refine k_X10_165 (pc := 109) cx (c_X10_puts l G _ o0 q.2 8 65535 hk_o0 r7 hr7) hk_o0 ⟨by decide, by decide⟩ ⟨Nat.zero_le _, Nat.zero_le _⟩ (Nat.le_of_ble_eq_true rfl) dX10_begins_109 ?_
    refine f_iinc1 (pc := 112) cx dX10_begins_112 kc_iconst_1 (by decide) rfl ?_
    refine f_goto (pc := 115) (tgt := 80) cx dX10_begins_115 (by decide) ?_
    exact f_weak (LSb.s (LSb.s (LSb.n LSb.e))) (hk80 (r7, q.2 + 1))
set_option maxRecDepth 4000 in
theorem s_X10_begins_24 {p : Program} {l : Launch} {e : Env} {s : State} {m : MethodId} {args : Array Value} {below : List Frame} {meth : Method} {c : Code} {G : GT} (cx : CX p s m args c cX10_begins 3 RX10 G) (hr : meth.sig.returnType = none) (hlk : meth.locks = false) (o0 : Nat) (hk_o0 : kd o0 = 9) : ∀ (n : Nat) (q : Hp × Int32), PF p l e (rmc 1 23) s m args below meth c 3 G 0 0 (QV below G args s) 24 [some (.ref (gad G o0)), some (.int q.2), none] [] q.1 (lp (b_X10_begins_24 o0) n q) := by
  refine f_lp (lvf := fun (q : Hp × Int32) => [some (.ref (gad G o0)), some (.int q.2), none]) (hf := fun (q : Hp × Int32) => q.1) (fun k24 hk24 q => ?_)
  show PF p l e (rmc 1 23) s m args below meth c 3 G 0 0 (QV below G args s) 24 [some (.ref (gad G o0)), some (.int q.2), none] [] q.1 (b_X10_begins_24 o0 k24 q)
  unfold b_X10_begins_24
  refine f_iload_n (pc := 24) cx dX10_begins_24 rfl rfl ?_
  refine f_bipush (pc := 25) cx dX10_begins_25 kc_bipush_6 ?_
  refine f_icmp_ge (pc := 27) (tgt := 50) cx dX10_begins_27 (by decide) (fun _ => ?_) (fun _ => ?_)
  · refine f_aload_n (pc := 50) cx dX10_begins_50 rfl rfl ?_
    refine g_X10_30 (pc := 51) cx hk_o0 dX10_begins_51 ?_
    refine f_bipush (pc := 54) cx dX10_begins_54 kc_bipush_10 ?_
    refine f_aload_n (pc := 56) cx dX10_begins_56 rfl rfl ?_
    refine g_X10_13 (pc := 57) cx hk_o0 dX10_begins_57 ?_
    refine f_bipush (pc := 60) cx dX10_begins_60 kc_bipush_6 ?_
    refine f_ialdk (pc := 62) (j := 6) (n := 8) cx (kf_9_3 hk_o0) (by decide) (by decide) kl_6 dX10_begins_62 ?_
    refine f_iastk (pc := 63) (j := 10) (n := 3715) cx (kf_9_20 hk_o0) (by decide) (by decide) kl_10 dX10_begins_63 ?_
    refine f_nvh (fun h8 => ?_)
    refine f_aload_n (pc := 64) cx dX10_begins_64 rfl rfl ?_
    refine g_X10_30 (pc := 65) cx hk_o0 dX10_begins_65 ?_
    refine f_bipush (pc := 68) cx dX10_begins_68 kc_bipush_11 ?_
    refine f_aload_n (pc := 70) cx dX10_begins_70 rfl rfl ?_
    refine g_X10_13 (pc := 71) cx hk_o0 dX10_begins_71 ?_
    refine f_bipush (pc := 74) cx dX10_begins_74 kc_bipush_7 ?_
    refine f_ialdk (pc := 76) (j := 7) (n := 8) cx (kf_9_3 hk_o0) (by decide) (by decide) kl_7 dX10_begins_76 ?_
    refine f_iastk (pc := 77) (j := 11) (n := 3715) cx (kf_9_20 hk_o0) (by decide) (by decide) kl_11 dX10_begins_77 ?_
    refine f_nvh (fun h9 => ?_)
    refine f_iconst (pc := 78) cx dX10_begins_78 kc_iconst_0 ?_
    refine f_istore1 (pc := 79) cx dX10_begins_79 (by decide) rfl ?_
    exact f_weak (LSb.s (LSb.s (LSb.n LSb.e))) (s_X10_begins_80 cx hr hlk o0 hk_o0 FU (h9, 0))
  · refine f_aload_n (pc := 30) cx dX10_begins_30 rfl rfl ?_
    refine g_X10_30 (pc := 31) cx hk_o0 dX10_begins_31 ?_
    refine f_iconst (pc := 34) cx dX10_begins_34 kc_iconst_4 ?_
    refine f_iload_n (pc := 35) cx dX10_begins_35 rfl rfl ?_
    refine f_iadd (pc := 36) cx dX10_begins_36 ?_
    refine f_aload_n (pc := 37) cx dX10_begins_37 rfl rfl ?_
    refine g_X10_13 (pc := 38) cx hk_o0 dX10_begins_38 ?_
    refine f_iload_n (pc := 41) cx dX10_begins_41 rfl rfl ?_
    refine f_need (fun c10 => ?_)
    refine f_iald (pc := 42) (n := 8) cx (kf_9_3 hk_o0) (by decide) c10 dX10_begins_42 ?_
    refine f_need (fun c11 => ?_)
    refine f_iast (pc := 43) (n := 3715) cx (kf_9_20 hk_o0) (by decide) c11 dX10_begins_43 ?_
    refine f_nvh (fun h12 => ?_)
    refine f_iinc1 (pc := 44) cx dX10_begins_44 kc_iconst_1 (by decide) rfl ?_
    refine f_goto (pc := 47) (tgt := 24) cx dX10_begins_47 (by decide) ?_
    exact f_weak (LSb.s (LSb.s (LSb.n LSb.e))) (hk24 (h12, q.2 + 1))
set_option maxRecDepth 4000 in
theorem s_X10_begins_2 {p : Program} {l : Launch} {e : Env} {s : State} {m : MethodId} {args : Array Value} {below : List Frame} {meth : Method} {c : Code} {G : GT} (cx : CX p s m args c cX10_begins 3 RX10 G) (hr : meth.sig.returnType = none) (hlk : meth.locks = false) (o0 : Nat) (hk_o0 : kd o0 = 9) : ∀ (n : Nat) (q : Hp × Int32), PF p l e (rmc 1 23) s m args below meth c 3 G 0 0 (QV below G args s) 2 [some (.ref (gad G o0)), some (.int q.2), none] [] q.1 (lp (b_X10_begins_2 o0) n q) := by
  refine f_lp (lvf := fun (q : Hp × Int32) => [some (.ref (gad G o0)), some (.int q.2), none]) (hf := fun (q : Hp × Int32) => q.1) (fun k2 hk2 q => ?_)
  show PF p l e (rmc 1 23) s m args below meth c 3 G 0 0 (QV below G args s) 2 [some (.ref (gad G o0)), some (.int q.2), none] [] q.1 (b_X10_begins_2 o0 k2 q)
  unfold b_X10_begins_2
  refine f_iload_n (pc := 2) cx dX10_begins_2 rfl rfl ?_
  refine f_sipush (pc := 3) cx dX10_begins_3 kc_sipush_3715 ?_
  refine f_icmp_ge (pc := 6) (tgt := 22) cx dX10_begins_6 (by decide) (fun _ => ?_) (fun _ => ?_)
  · refine f_iconst (pc := 22) cx dX10_begins_22 kc_iconst_0 ?_
    refine f_istore1 (pc := 23) cx dX10_begins_23 (by decide) rfl ?_
    exact f_weak (LSb.s (LSb.s (LSb.n LSb.e))) (s_X10_begins_24 cx hr hlk o0 hk_o0 FU (q.1, 0))
  · refine f_aload_n (pc := 9) cx dX10_begins_9 rfl rfl ?_
    refine g_X10_30 (pc := 10) cx hk_o0 dX10_begins_10 ?_
    refine f_iload_n (pc := 13) cx dX10_begins_13 rfl rfl ?_
    refine f_iconst (pc := 14) cx dX10_begins_14 kc_iconst_0 ?_
    refine f_need (fun c13 => ?_)
    refine f_iast (pc := 15) (n := 3715) cx (kf_9_20 hk_o0) (by decide) c13 dX10_begins_15 ?_
    refine f_nvh (fun h14 => ?_)
    refine f_iinc1 (pc := 16) cx dX10_begins_16 kc_iconst_1 (by decide) rfl ?_
    refine f_goto (pc := 19) (tgt := 2) cx dX10_begins_19 (by decide) ?_
    exact f_weak (LSb.s (LSb.s (LSb.n LSb.e))) (hk2 (h14, q.2 + 1))
set_option maxRecDepth 4000 in
theorem s_X10_begins {p : Program} {l : Launch} {e : Env} {s : State} {m : MethodId} {args : Array Value} {below : List Frame} {meth : Method} {c : Code} {G : GT} (cx : CX p s m args c cX10_begins 3 RX10 G) (hr : meth.sig.returnType = none) (hlk : meth.locks = false) (h : Hp) (o0 : Nat) (hk_o0 : kd o0 = 9) : PF p l e (rmc 1 23) s m args below meth c 3 G 0 0 (QV below G args s) 0 [some (.ref (gad G o0)), none, none] [] h (p_X10_begins h o0) := by
  unfold p_X10_begins
  refine f_iconst (pc := 0) cx dX10_begins_0 kc_iconst_0 ?_
  refine f_istore1 (pc := 1) cx dX10_begins_1 (by decide) rfl ?_
  exact f_weak (LSb.s (LSb.s (LSb.n LSb.e))) (s_X10_begins_2 cx hr hlk o0 hk_o0 FU (h, 0))
set_option maxRecDepth 4000 in
theorem c_X10_begins (l : Launch) (G : GT) (h : Hp) (o0 : Nat) (hk_o0 : kd o0 = 9) : CtV l G yX10_begins cX10_begins 3 none 1 23 [.ref (gad G o0)] h (p_X10_begins h o0) := fun a ha => Ct.of (lv := [some (.ref (gad G o0)), none, none]) (by decide) rfl (Nat.le_of_ble_eq_true rfl) rfl (fun p e s m args below meth c cx hr hlk => s_X10_begins cx hr hlk h o0 hk_o0 a ha)
def p_X10_enters (h : Hp) (o0 : Nat) (x1 : Int32) (x2 : Int32) : Option Hp :=
  Option.bind (p_X10_manyIn h o0 x2) fun r1 => if ib ((18 + (16 * (x2 - 1))) + r1.1) 3715 then (nv (hp r1.2 (o0 + 6) (Int32.toNatClampNeg ((18 + (16 * (x2 - 1))) + r1.1)) x1) fun h3 => if ib ((12 + x2) - 1) 3715 then (if ib ((12 + x2) - 1) 3715 then (nv (hp h3 (o0 + 6) (Int32.toNatClampNeg ((12 + x2) - 1)) ((h3 (o0 + 6) (Int32.toNatClampNeg ((12 + x2) - 1))) + 1)) fun h6 => Option.bind (p_X10_puts h6 o0 x1 2 x2) fun r7 => some r7) else none) else none) else none
set_option maxRecDepth 4000 in
theorem s_X10_enters {p : Program} {l : Launch} {e : Env} {s : State} {m : MethodId} {args : Array Value} {below : List Frame} {meth : Method} {c : Code} {G : GT} (cx : CX p s m args c cX10_enters 3 RX10 G) (hr : meth.sig.returnType = none) (hlk : meth.locks = false) (h : Hp) (o0 : Nat) (x1 : Int32) (x2 : Int32) (hk_o0 : kd o0 = 9) : PF p l e (rmc 1 23) s m args below meth c 3 G 0 0 (QV below G args s) 0 [some (.ref (gad G o0)), some (.int x1), some (.int x2)] [] h (p_X10_enters h o0 x1 x2) := by
  unfold p_X10_enters
  refine f_aload_n (pc := 0) cx dX10_enters_0 rfl rfl ?_
  refine g_X10_30 (pc := 1) cx hk_o0 dX10_enters_1 ?_
  refine f_bipush (pc := 4) cx dX10_enters_4 kc_bipush_18 ?_
  refine f_bipush (pc := 6) cx dX10_enters_6 kc_bipush_16 ?_
  refine f_iload_n (pc := 8) cx dX10_enters_8 rfl rfl ?_
  refine f_iconst (pc := 9) cx dX10_enters_9 kc_iconst_1 ?_
  refine f_isub (pc := 10) cx dX10_enters_10 ?_
  refine f_imul (pc := 11) cx dX10_enters_11 ?_
  refine f_iadd (pc := 12) cx dX10_enters_12 ?_
  refine f_aload_n (pc := 13) cx dX10_enters_13 rfl rfl ?_
  refine f_iload_n (pc := 14) cx dX10_enters_14 rfl rfl ?_
  refine f_bind (fun r1 hr1 => ?_)
  refine k_X10_173 (pc := 15) cx (c_X10_manyIn l G _ o0 x2 hk_o0 r1 hr1) hk_o0 ⟨by decide, by decide⟩ ⟨Nat.zero_le _, Nat.zero_le _⟩ (Nat.le_of_ble_eq_true rfl) dX10_enters_15 ?_
  refine f_iadd (pc := 18) cx dX10_enters_18 ?_
  refine f_iload_n (pc := 19) cx dX10_enters_19 rfl rfl ?_
  refine f_need (fun c2 => ?_)
  refine f_iast (pc := 20) (n := 3715) cx (kf_9_20 hk_o0) (by decide) c2 dX10_enters_20 ?_
  refine f_nvh (fun h3 => ?_)
  refine f_aload_n (pc := 21) cx dX10_enters_21 rfl rfl ?_
  refine g_X10_30 (pc := 22) cx hk_o0 dX10_enters_22 ?_
  refine f_bipush (pc := 25) cx dX10_enters_25 kc_bipush_12 ?_
  refine f_iload_n (pc := 27) cx dX10_enters_27 rfl rfl ?_
  refine f_iadd (pc := 28) cx dX10_enters_28 ?_
  refine f_iconst (pc := 29) cx dX10_enters_29 kc_iconst_1 ?_
  refine f_isub (pc := 30) cx dX10_enters_30 ?_
  refine f_dup2 (pc := 31) cx dX10_enters_31 rfl rfl ?_
  refine f_need (fun c4 => ?_)
  refine f_iald (pc := 32) (n := 3715) cx (kf_9_20 hk_o0) (by decide) c4 dX10_enters_32 ?_
  refine f_iconst (pc := 33) cx dX10_enters_33 kc_iconst_1 ?_
  refine f_iadd (pc := 34) cx dX10_enters_34 ?_
  refine f_need (fun c5 => ?_)
  refine f_iast (pc := 35) (n := 3715) cx (kf_9_20 hk_o0) (by decide) c5 dX10_enters_35 ?_
  refine f_nvh (fun h6 => ?_)
  refine f_aload_n (pc := 36) cx dX10_enters_36 rfl rfl ?_
  refine f_iload_n (pc := 37) cx dX10_enters_37 rfl rfl ?_
  refine f_iconst (pc := 38) cx dX10_enters_38 kc_iconst_2 ?_
  refine f_iload_n (pc := 39) cx dX10_enters_39 rfl rfl ?_
  refine f_bind (fun r7 hr7 => ?_)
  refine k_X10_165 (pc := 40) cx (c_X10_puts l G _ o0 x1 2 x2 hk_o0 r7 hr7) hk_o0 ⟨by decide, by decide⟩ ⟨Nat.zero_le _, Nat.zero_le _⟩ (Nat.le_of_ble_eq_true rfl) dX10_enters_40 ?_
  exact f_vret cx hr hlk dX10_enters_43
set_option maxRecDepth 4000 in
theorem c_X10_enters (l : Launch) (G : GT) (h : Hp) (o0 : Nat) (x1 : Int32) (x2 : Int32) (hk_o0 : kd o0 = 9) : CtV l G yX10_enters cX10_enters 3 none 1 23 [.ref (gad G o0), .int x1, .int x2] h (p_X10_enters h o0 x1 x2) := fun a ha => Ct.of (lv := [some (.ref (gad G o0)), some (.int x1), some (.int x2)]) (by decide) rfl (Nat.le_of_ble_eq_true rfl) rfl (fun p e s m args below meth c cx hr hlk => s_X10_enters cx hr hlk h o0 x1 x2 hk_o0 a ha)
def b_X10_leaves_24 (o0 : Nat) (x1 : Int32) (x2 : Int32) (k24 : Hp × Int32 → Option Hp) (q : Hp × Int32) : Option Hp :=
  Option.bind (p_X10_manyIn q.1 o0 x1) fun r1 => if r1.1 ≤ q.2 then (Option.bind (p_X10_puts r1.2 o0 x2 2 0) fun r2 => some r2) else (if ib (((18 + (16 * (x1 - 1))) + q.2) + 1) 3715 then (if ib ((18 + (16 * (x1 - 1))) + q.2) 3715 then (nv (hp r1.2 (o0 + 6) (Int32.toNatClampNeg ((18 + (16 * (x1 - 1))) + q.2)) (r1.2 (o0 + 6) (Int32.toNatClampNeg (((18 + (16 * (x1 - 1))) + q.2) + 1)))) fun h5 => k24 (h5, q.2 + 1)) else none) else none)
def p_X10_leaves (h : Hp) (o0 : Nat) (x1 : Int32) : Option Hp :=
  Option.bind (p_X10_inList h o0 x1 0) fun r6 => if ib ((12 + x1) - 1) 3715 then (if ib ((12 + x1) - 1) 3715 then (nv (hp r6.2 (o0 + 6) (Int32.toNatClampNeg ((12 + x1) - 1)) ((r6.2 (o0 + 6) (Int32.toNatClampNeg ((12 + x1) - 1))) - 1)) fun h9 => lp (b_X10_leaves_24 o0 x1 r6.1) FU (h9, 0)) else none) else none
set_option maxRecDepth 4000 in
theorem s_X10_leaves_24 {p : Program} {l : Launch} {e : Env} {s : State} {m : MethodId} {args : Array Value} {below : List Frame} {meth : Method} {c : Code} {G : GT} (cx : CX p s m args c cX10_leaves 4 RX10 G) (hr : meth.sig.returnType = none) (hlk : meth.locks = false) (o0 : Nat) (x1 : Int32) (x2 : Int32) (hk_o0 : kd o0 = 9) : ∀ (n : Nat) (q : Hp × Int32), PF p l e (rmc 1 23) s m args below meth c 4 G 0 0 (QV below G args s) 24 [some (.ref (gad G o0)), some (.int x1), some (.int x2), some (.int q.2)] [] q.1 (lp (b_X10_leaves_24 o0 x1 x2) n q) := by
  refine f_lp (lvf := fun (q : Hp × Int32) => [some (.ref (gad G o0)), some (.int x1), some (.int x2), some (.int q.2)]) (hf := fun (q : Hp × Int32) => q.1) (fun k24 hk24 q => ?_)
  show PF p l e (rmc 1 23) s m args below meth c 4 G 0 0 (QV below G args s) 24 [some (.ref (gad G o0)), some (.int x1), some (.int x2), some (.int q.2)] [] q.1 (b_X10_leaves_24 o0 x1 x2 k24 q)
  unfold b_X10_leaves_24
  refine f_iload_n (pc := 24) cx dX10_leaves_24 rfl rfl ?_
  refine f_aload_n (pc := 25) cx dX10_leaves_25 rfl rfl ?_
  refine f_iload_n (pc := 26) cx dX10_leaves_26 rfl rfl ?_
  refine f_bind (fun r1 hr1 => ?_)
  refine k_X10_173 (pc := 27) cx (c_X10_manyIn l G _ o0 x1 hk_o0 r1 hr1) hk_o0 ⟨by decide, by decide⟩ ⟨Nat.zero_le _, Nat.zero_le _⟩ (Nat.le_of_ble_eq_true rfl) dX10_leaves_27 ?_
  refine f_icmp_ge (pc := 30) (tgt := 73) cx dX10_leaves_30 (by decide) (fun _ => ?_) (fun _ => ?_)
  · refine f_aload_n (pc := 73) cx dX10_leaves_73 rfl rfl ?_
    refine f_iload_n (pc := 74) cx dX10_leaves_74 rfl rfl ?_
    refine f_iconst (pc := 75) cx dX10_leaves_75 kc_iconst_2 ?_
    refine f_iconst (pc := 76) cx dX10_leaves_76 kc_iconst_0 ?_
    refine f_bind (fun r2 hr2 => ?_)
    refine k_X10_165 (pc := 77) cx (c_X10_puts l G _ o0 x2 2 0 hk_o0 r2 hr2) hk_o0 ⟨by decide, by decide⟩ ⟨Nat.zero_le _, Nat.zero_le _⟩ (Nat.le_of_ble_eq_true rfl) dX10_leaves_77 ?_
    exact f_vret cx hr hlk dX10_leaves_80
  · refine f_aload_n (pc := 33) cx dX10_leaves_33 rfl rfl ?_
    refine g_X10_30 (pc := 34) cx hk_o0 dX10_leaves_34 ?_
    refine f_bipush (pc := 37) cx dX10_leaves_37 kc_bipush_18 ?_
    refine f_bipush (pc := 39) cx dX10_leaves_39 kc_bipush_16 ?_
    refine f_iload_n (pc := 41) cx dX10_leaves_41 rfl rfl ?_
    refine f_iconst (pc := 42) cx dX10_leaves_42 kc_iconst_1 ?_
    refine f_isub (pc := 43) cx dX10_leaves_43 ?_
    refine f_imul (pc := 44) cx dX10_leaves_44 ?_
    refine f_iadd (pc := 45) cx dX10_leaves_45 ?_
    refine f_iload_n (pc := 46) cx dX10_leaves_46 rfl rfl ?_
    refine f_iadd (pc := 47) cx dX10_leaves_47 ?_
    refine f_aload_n (pc := 48) cx dX10_leaves_48 rfl rfl ?_
    refine g_X10_30 (pc := 49) cx hk_o0 dX10_leaves_49 ?_
    refine f_bipush (pc := 52) cx dX10_leaves_52 kc_bipush_18 ?_
    refine f_bipush (pc := 54) cx dX10_leaves_54 kc_bipush_16 ?_
    refine f_iload_n (pc := 56) cx dX10_leaves_56 rfl rfl ?_
    refine f_iconst (pc := 57) cx dX10_leaves_57 kc_iconst_1 ?_
    refine f_isub (pc := 58) cx dX10_leaves_58 ?_
    refine f_imul (pc := 59) cx dX10_leaves_59 ?_
    refine f_iadd (pc := 60) cx dX10_leaves_60 ?_
    refine f_iload_n (pc := 61) cx dX10_leaves_61 rfl rfl ?_
    refine f_iadd (pc := 62) cx dX10_leaves_62 ?_
    refine f_iconst (pc := 63) cx dX10_leaves_63 kc_iconst_1 ?_
    refine f_iadd (pc := 64) cx dX10_leaves_64 ?_
    refine f_need (fun c3 => ?_)
    refine f_iald (pc := 65) (n := 3715) cx (kf_9_20 hk_o0) (by decide) c3 dX10_leaves_65 ?_
    refine f_need (fun c4 => ?_)
    refine f_iast (pc := 66) (n := 3715) cx (kf_9_20 hk_o0) (by decide) c4 dX10_leaves_66 ?_
    refine f_nvh (fun h5 => ?_)
    refine f_iinc3 (pc := 67) cx dX10_leaves_67 kc_iconst_1 (by decide) rfl ?_
    refine f_goto (pc := 70) (tgt := 24) cx dX10_leaves_70 (by decide) ?_
    exact f_weak (LSb.s (LSb.s (LSb.s (LSb.s LSb.e)))) (hk24 (h5, q.2 + 1))
set_option maxRecDepth 4000 in
theorem s_X10_leaves {p : Program} {l : Launch} {e : Env} {s : State} {m : MethodId} {args : Array Value} {below : List Frame} {meth : Method} {c : Code} {G : GT} (cx : CX p s m args c cX10_leaves 4 RX10 G) (hr : meth.sig.returnType = none) (hlk : meth.locks = false) (h : Hp) (o0 : Nat) (x1 : Int32) (hk_o0 : kd o0 = 9) : PF p l e (rmc 1 23) s m args below meth c 4 G 0 0 (QV below G args s) 0 [some (.ref (gad G o0)), some (.int x1), none, none] [] h (p_X10_leaves h o0 x1) := by
  unfold p_X10_leaves
  refine f_aload_n (pc := 0) cx dX10_leaves_0 rfl rfl ?_
  refine f_iload_n (pc := 1) cx dX10_leaves_1 rfl rfl ?_
  refine f_iconst (pc := 2) cx dX10_leaves_2 kc_iconst_0 ?_
  refine f_bind (fun r6 hr6 => ?_)
  refine k_X10_176 (pc := 3) cx (c_X10_inList l G _ o0 x1 0 hk_o0 r6 hr6) hk_o0 ⟨by decide, by decide⟩ ⟨Nat.zero_le _, Nat.zero_le _⟩ (Nat.le_of_ble_eq_true rfl) dX10_leaves_3 ?_
  refine f_istore2 (pc := 6) cx dX10_leaves_6 (by decide) rfl ?_
  refine f_aload_n (pc := 7) cx dX10_leaves_7 rfl rfl ?_
  refine g_X10_30 (pc := 8) cx hk_o0 dX10_leaves_8 ?_
  refine f_bipush (pc := 11) cx dX10_leaves_11 kc_bipush_12 ?_
  refine f_iload_n (pc := 13) cx dX10_leaves_13 rfl rfl ?_
  refine f_iadd (pc := 14) cx dX10_leaves_14 ?_
  refine f_iconst (pc := 15) cx dX10_leaves_15 kc_iconst_1 ?_
  refine f_isub (pc := 16) cx dX10_leaves_16 ?_
  refine f_dup2 (pc := 17) cx dX10_leaves_17 rfl rfl ?_
  refine f_need (fun c7 => ?_)
  refine f_iald (pc := 18) (n := 3715) cx (kf_9_20 hk_o0) (by decide) c7 dX10_leaves_18 ?_
  refine f_iconst (pc := 19) cx dX10_leaves_19 kc_iconst_1 ?_
  refine f_isub (pc := 20) cx dX10_leaves_20 ?_
  refine f_need (fun c8 => ?_)
  refine f_iast (pc := 21) (n := 3715) cx (kf_9_20 hk_o0) (by decide) c8 dX10_leaves_21 ?_
  refine f_nvh (fun h9 => ?_)
  refine f_iconst (pc := 22) cx dX10_leaves_22 kc_iconst_0 ?_
  refine f_istore3 (pc := 23) cx dX10_leaves_23 (by decide) rfl ?_
  exact f_weak (LSb.s (LSb.s (LSb.s (LSb.s LSb.e)))) (s_X10_leaves_24 cx hr hlk o0 x1 r6.1 hk_o0 FU (h9, 0))
set_option maxRecDepth 4000 in
theorem c_X10_leaves (l : Launch) (G : GT) (h : Hp) (o0 : Nat) (x1 : Int32) (hk_o0 : kd o0 = 9) : CtV l G yX10_leaves cX10_leaves 4 none 1 23 [.ref (gad G o0), .int x1] h (p_X10_leaves h o0 x1) := fun a ha => Ct.of (lv := [some (.ref (gad G o0)), some (.int x1), none, none]) (by decide) rfl (Nat.le_of_ble_eq_true rfl) rfl (fun p e s m args below meth c cx hr hlk => s_X10_leaves cx hr hlk h o0 x1 hk_o0 a ha)
def b_X10_goesTo_68 (o0 : Nat) (x1 : Int32) (x2 : Int32) (k68 : Hp × Int32 → Option (Int32 × Hp)) (q : Hp × Int32) : Option (Int32 × Hp) :=
  if (q.1 (o0 + 6) 11) ≤ q.2 then (if ¬ (q.1 (o0 + 6) 11) = 0 then (some (x2 + (x1 - x1 / (q.1 (o0 + 6) 11) * (q.1 (o0 + 6) 11)), q.1)) else none) else (Option.bind (p_X10_of q.1 o0 (x2 + q.2) 2) fun r2 => if r2.1 = 0 then (some (x2 + q.2, r2.2)) else (k68 (r2.2, q.2 + 1)))
def b_X10_goesTo_22 (o0 : Nat) (x1 : Int32) (x2 : Int32) (k22 : Hp × Int32 → Option (Int32 × Hp)) (q : Hp × Int32) : Option (Int32 × Hp) :=
  if (q.1 (o0 + 6) 11) ≤ q.2 then (lp (b_X10_goesTo_68 o0 x1 x2) FU (q.1, 0)) else (Option.bind (p_X10_of q.1 o0 (x2 + q.2) 2) fun r3 => if r3.1 = 0 then (k22 (r3.2, q.2 + 1)) else (Option.bind (p_X10_of r3.2 o0 (x2 + q.2) 0) fun r4 => if r4.1 = x1 then (some (x2 + q.2, r4.2)) else (k22 (r4.2, q.2 + 1))))
def p_X10_goesTo (h : Hp) (o0 : Nat) (x1 : Int32) : Option (Int32 × Hp) :=
  Option.bind (p_X10_setOf h x1 (h (o0 + 6) 10)) fun r5 => nv (r5.1 * (r5.2 (o0 + 6) 11)) fun v6 => lp (b_X10_goesTo_22 o0 x1 v6) FU (r5.2, 0)
set_option maxRecDepth 4000 in
theorem s_X10_goesTo_68 {p : Program} {l : Launch} {e : Env} {s : State} {m : MethodId} {args : Array Value} {below : List Frame} {meth : Method} {c : Code} {G : GT} (cx : CX p s m args c cX10_goesTo 4 RX10 G) (hr : meth.sig.returnType = (some .int)) (hlk : meth.locks = false) (o0 : Nat) (x1 : Int32) (x2 : Int32) (hk_o0 : kd o0 = 9) : ∀ (n : Nat) (q : Hp × Int32), PF p l e (rmc 1 22) s m args below meth c 4 G 0 0 (QI below G args s) 68 [some (.ref (gad G o0)), some (.int x1), some (.int x2), some (.int q.2)] [] q.1 (lp (b_X10_goesTo_68 o0 x1 x2) n q) := by
  refine f_lp (lvf := fun (q : Hp × Int32) => [some (.ref (gad G o0)), some (.int x1), some (.int x2), some (.int q.2)]) (hf := fun (q : Hp × Int32) => q.1) (fun k68 hk68 q => ?_)
  show PF p l e (rmc 1 22) s m args below meth c 4 G 0 0 (QI below G args s) 68 [some (.ref (gad G o0)), some (.int x1), some (.int x2), some (.int q.2)] [] q.1 (b_X10_goesTo_68 o0 x1 x2 k68 q)
  unfold b_X10_goesTo_68
  refine f_iload_n (pc := 68) cx dX10_goesTo_68 rfl rfl ?_
  refine f_aload_n (pc := 69) cx dX10_goesTo_69 rfl rfl ?_
  refine g_X10_30 (pc := 70) cx hk_o0 dX10_goesTo_70 ?_
  refine f_bipush (pc := 73) cx dX10_goesTo_73 kc_bipush_11 ?_
  refine f_ialdk (pc := 75) (j := 11) (n := 3715) cx (kf_9_20 hk_o0) (by decide) (by decide) kl_11 dX10_goesTo_75 ?_
  refine f_icmp_ge (pc := 76) (tgt := 100) cx dX10_goesTo_76 (by decide) (fun _ => ?_) (fun _ => ?_)
  · refine f_iload_n (pc := 100) cx dX10_goesTo_100 rfl rfl ?_
    refine f_iload_n (pc := 101) cx dX10_goesTo_101 rfl rfl ?_
    refine f_aload_n (pc := 102) cx dX10_goesTo_102 rfl rfl ?_
    refine g_X10_30 (pc := 103) cx hk_o0 dX10_goesTo_103 ?_
    refine f_bipush (pc := 106) cx dX10_goesTo_106 kc_bipush_11 ?_
    refine f_ialdk (pc := 108) (j := 11) (n := 3715) cx (kf_9_20 hk_o0) (by decide) (by decide) kl_11 dX10_goesTo_108 ?_
    refine f_need (fun c1 => ?_)
    refine f_irem (pc := 109) cx dX10_goesTo_109 c1 ?_
    refine f_iadd (pc := 110) cx dX10_goesTo_110 ?_
    exact f_iret cx hr hlk rfl dX10_goesTo_111
  · refine f_aload_n (pc := 79) cx dX10_goesTo_79 rfl rfl ?_
    refine f_iload_n (pc := 80) cx dX10_goesTo_80 rfl rfl ?_
    refine f_iload_n (pc := 81) cx dX10_goesTo_81 rfl rfl ?_
    refine f_iadd (pc := 82) cx dX10_goesTo_82 ?_
    refine f_iconst (pc := 83) cx dX10_goesTo_83 kc_iconst_2 ?_
    refine f_bind (fun r2 hr2 => ?_)
    refine k_X10_184 (pc := 84) cx (c_X10_of l G _ o0 (x2 + q.2) 2 hk_o0 r2 hr2) hk_o0 ⟨by decide, by decide⟩ ⟨Nat.zero_le _, Nat.zero_le _⟩ (Nat.le_of_ble_eq_true rfl) dX10_goesTo_84 ?_
    refine f_if_ne (pc := 87) (tgt := 94) cx dX10_goesTo_87 (by decide) (fun _ => ?_) (fun _ => ?_)
    · refine f_iload_n (pc := 90) cx dX10_goesTo_90 rfl rfl ?_
      refine f_iload_n (pc := 91) cx dX10_goesTo_91 rfl rfl ?_
      refine f_iadd (pc := 92) cx dX10_goesTo_92 ?_
      exact f_iret cx hr hlk rfl dX10_goesTo_93
    · refine f_iinc3 (pc := 94) cx dX10_goesTo_94 kc_iconst_1 (by decide) rfl ?_
      refine f_goto (pc := 97) (tgt := 68) cx dX10_goesTo_97 (by decide) ?_
      exact f_weak (LSb.s (LSb.s (LSb.s (LSb.s LSb.e)))) (hk68 (r2.2, q.2 + 1))
set_option maxRecDepth 4000 in
theorem s_X10_goesTo_22 {p : Program} {l : Launch} {e : Env} {s : State} {m : MethodId} {args : Array Value} {below : List Frame} {meth : Method} {c : Code} {G : GT} (cx : CX p s m args c cX10_goesTo 4 RX10 G) (hr : meth.sig.returnType = (some .int)) (hlk : meth.locks = false) (o0 : Nat) (x1 : Int32) (x2 : Int32) (hk_o0 : kd o0 = 9) : ∀ (n : Nat) (q : Hp × Int32), PF p l e (rmc 1 22) s m args below meth c 4 G 0 0 (QI below G args s) 22 [some (.ref (gad G o0)), some (.int x1), some (.int x2), some (.int q.2)] [] q.1 (lp (b_X10_goesTo_22 o0 x1 x2) n q) := by
  refine f_lp (lvf := fun (q : Hp × Int32) => [some (.ref (gad G o0)), some (.int x1), some (.int x2), some (.int q.2)]) (hf := fun (q : Hp × Int32) => q.1) (fun k22 hk22 q => ?_)
  show PF p l e (rmc 1 22) s m args below meth c 4 G 0 0 (QI below G args s) 22 [some (.ref (gad G o0)), some (.int x1), some (.int x2), some (.int q.2)] [] q.1 (b_X10_goesTo_22 o0 x1 x2 k22 q)
  unfold b_X10_goesTo_22
  refine f_iload_n (pc := 22) cx dX10_goesTo_22 rfl rfl ?_
  refine f_aload_n (pc := 23) cx dX10_goesTo_23 rfl rfl ?_
  refine g_X10_30 (pc := 24) cx hk_o0 dX10_goesTo_24 ?_
  refine f_bipush (pc := 27) cx dX10_goesTo_27 kc_bipush_11 ?_
  refine f_ialdk (pc := 29) (j := 11) (n := 3715) cx (kf_9_20 hk_o0) (by decide) (by decide) kl_11 dX10_goesTo_29 ?_
  refine f_icmp_ge (pc := 30) (tgt := 66) cx dX10_goesTo_30 (by decide) (fun _ => ?_) (fun _ => ?_)
  · refine f_iconst (pc := 66) cx dX10_goesTo_66 kc_iconst_0 ?_
    refine f_istore3 (pc := 67) cx dX10_goesTo_67 (by decide) rfl ?_
    exact f_weak (LSb.s (LSb.s (LSb.s (LSb.s LSb.e)))) (s_X10_goesTo_68 cx hr hlk o0 x1 x2 hk_o0 FU (q.1, 0))
  · refine f_aload_n (pc := 33) cx dX10_goesTo_33 rfl rfl ?_
    refine f_iload_n (pc := 34) cx dX10_goesTo_34 rfl rfl ?_
    refine f_iload_n (pc := 35) cx dX10_goesTo_35 rfl rfl ?_
    refine f_iadd (pc := 36) cx dX10_goesTo_36 ?_
    refine f_iconst (pc := 37) cx dX10_goesTo_37 kc_iconst_2 ?_
    refine f_bind (fun r3 hr3 => ?_)
    refine k_X10_184 (pc := 38) cx (c_X10_of l G _ o0 (x2 + q.2) 2 hk_o0 r3 hr3) hk_o0 ⟨by decide, by decide⟩ ⟨Nat.zero_le _, Nat.zero_le _⟩ (Nat.le_of_ble_eq_true rfl) dX10_goesTo_38 ?_
    refine f_if_eq (pc := 41) (tgt := 60) cx dX10_goesTo_41 (by decide) (fun _ => ?_) (fun _ => ?_)
    · refine f_iinc3 (pc := 60) cx dX10_goesTo_60 kc_iconst_1 (by decide) rfl ?_
      refine f_goto (pc := 63) (tgt := 22) cx dX10_goesTo_63 (by decide) ?_
      exact f_weak (LSb.s (LSb.s (LSb.s (LSb.s LSb.e)))) (hk22 (r3.2, q.2 + 1))
    · refine f_aload_n (pc := 44) cx dX10_goesTo_44 rfl rfl ?_
      refine f_iload_n (pc := 45) cx dX10_goesTo_45 rfl rfl ?_
      refine f_iload_n (pc := 46) cx dX10_goesTo_46 rfl rfl ?_
      refine f_iadd (pc := 47) cx dX10_goesTo_47 ?_
      refine f_iconst (pc := 48) cx dX10_goesTo_48 kc_iconst_0 ?_
      refine f_bind (fun r4 hr4 => ?_)
      refine k_X10_184 (pc := 49) cx (c_X10_of l G _ o0 (x2 + q.2) 0 hk_o0 r4 hr4) hk_o0 ⟨by decide, by decide⟩ ⟨Nat.zero_le _, Nat.zero_le _⟩ (Nat.le_of_ble_eq_true rfl) dX10_goesTo_49 ?_
      refine f_iload_n (pc := 52) cx dX10_goesTo_52 rfl rfl ?_
      refine f_icmp_ne (pc := 53) (tgt := 60) cx dX10_goesTo_53 (by decide) (fun _ => ?_) (fun _ => ?_)
      · refine f_iload_n (pc := 56) cx dX10_goesTo_56 rfl rfl ?_
        refine f_iload_n (pc := 57) cx dX10_goesTo_57 rfl rfl ?_
        refine f_iadd (pc := 58) cx dX10_goesTo_58 ?_
        exact f_iret cx hr hlk rfl dX10_goesTo_59
      · refine f_iinc3 (pc := 60) cx dX10_goesTo_60 kc_iconst_1 (by decide) rfl ?_
        refine f_goto (pc := 63) (tgt := 22) cx dX10_goesTo_63 (by decide) ?_
        exact f_weak (LSb.s (LSb.s (LSb.s (LSb.s LSb.e)))) (hk22 (r4.2, q.2 + 1))
set_option maxRecDepth 4000 in
theorem s_X10_goesTo {p : Program} {l : Launch} {e : Env} {s : State} {m : MethodId} {args : Array Value} {below : List Frame} {meth : Method} {c : Code} {G : GT} (cx : CX p s m args c cX10_goesTo 4 RX10 G) (hr : meth.sig.returnType = (some .int)) (hlk : meth.locks = false) (h : Hp) (o0 : Nat) (x1 : Int32) (hk_o0 : kd o0 = 9) : PF p l e (rmc 1 22) s m args below meth c 4 G 0 0 (QI below G args s) 0 [some (.ref (gad G o0)), some (.int x1), none, none] [] h (p_X10_goesTo h o0 x1) := by
  unfold p_X10_goesTo
  refine f_iload_n (pc := 0) cx dX10_goesTo_0 rfl rfl ?_
  refine f_aload_n (pc := 1) cx dX10_goesTo_1 rfl rfl ?_
  refine g_X10_30 (pc := 2) cx hk_o0 dX10_goesTo_2 ?_
  refine f_bipush (pc := 5) cx dX10_goesTo_5 kc_bipush_10 ?_
  refine f_ialdk (pc := 7) (j := 10) (n := 3715) cx (kf_9_20 hk_o0) (by decide) (by decide) kl_10 dX10_goesTo_7 ?_
  refine f_bind (fun r5 hr5 => ?_)
  refine k_X10_181 (pc := 8) cx (c_X10_setOf l G _ x1 (h (o0 + 6) 10) r5 hr5) ⟨by decide, by decide⟩ ⟨Nat.zero_le _, Nat.zero_le _⟩ (Nat.le_of_ble_eq_true rfl) dX10_goesTo_8 ?_
  refine f_aload_n (pc := 11) cx dX10_goesTo_11 rfl rfl ?_
  refine g_X10_30 (pc := 12) cx hk_o0 dX10_goesTo_12 ?_
  refine f_bipush (pc := 15) cx dX10_goesTo_15 kc_bipush_11 ?_
  refine f_ialdk (pc := 17) (j := 11) (n := 3715) cx (kf_9_20 hk_o0) (by decide) (by decide) kl_11 dX10_goesTo_17 ?_
  refine f_imul (pc := 18) cx dX10_goesTo_18 ?_
  refine f_nvi (fun v6 => ?_)
  refine f_istore2 (pc := 19) cx dX10_goesTo_19 (by decide) rfl ?_
  refine f_iconst (pc := 20) cx dX10_goesTo_20 kc_iconst_0 ?_
  refine f_istore3 (pc := 21) cx dX10_goesTo_21 (by decide) rfl ?_
  exact f_weak (LSb.s (LSb.s (LSb.s (LSb.s LSb.e)))) (s_X10_goesTo_22 cx hr hlk o0 x1 v6 hk_o0 FU (r5.2, 0))
set_option maxRecDepth 4000 in
theorem c_X10_goesTo (l : Launch) (G : GT) (h : Hp) (o0 : Nat) (x1 : Int32) (hk_o0 : kd o0 = 9) : CtI l G yX10_goesTo cX10_goesTo 4 (some .int) 1 22 [.ref (gad G o0), .int x1] h (p_X10_goesTo h o0 x1) := fun a ha => Ct.of (lv := [some (.ref (gad G o0)), some (.int x1), none, none]) (by decide) rfl (Nat.le_of_ble_eq_true rfl) rfl (fun p e s m args below meth c cx hr hlk => s_X10_goesTo cx hr hlk h o0 x1 hk_o0 a ha)
def b_X10_firstIn_2 (o0 : Nat) (x1 : Int32) (k2 : Hp × Int32 → Option (Int32 × Hp)) (q : Hp × Int32) : Option (Int32 × Hp) :=
  if (q.1 (o0 + 6) 1) ≤ q.2 then (some ((-1), q.1)) else (Option.bind (p_X10_frameOf q.1 o0 q.2 4) fun r1 => if r1.1 = x1 then (Option.bind (p_X10_frameOf r1.2 o0 q.2 6) fun r2 => if r2.1 = 0 then (some (q.2, r2.2)) else (k2 (r2.2, q.2 + 1))) else (k2 (r1.2, q.2 + 1)))
def p_X10_firstIn (h : Hp) (o0 : Nat) (x1 : Int32) : Option (Int32 × Hp) :=
  lp (b_X10_firstIn_2 o0 x1) FU (h, 0)
set_option maxRecDepth 4000 in
theorem s_X10_firstIn_2 {p : Program} {l : Launch} {e : Env} {s : State} {m : MethodId} {args : Array Value} {below : List Frame} {meth : Method} {c : Code} {G : GT} (cx : CX p s m args c cX10_firstIn 3 RX10 G) (hr : meth.sig.returnType = (some .int)) (hlk : meth.locks = false) (o0 : Nat) (x1 : Int32) (hk_o0 : kd o0 = 9) : ∀ (n : Nat) (q : Hp × Int32), PF p l e (rmc 1 22) s m args below meth c 3 G 0 0 (QI below G args s) 2 [some (.ref (gad G o0)), some (.int x1), some (.int q.2)] [] q.1 (lp (b_X10_firstIn_2 o0 x1) n q) := by
  refine f_lp (lvf := fun (q : Hp × Int32) => [some (.ref (gad G o0)), some (.int x1), some (.int q.2)]) (hf := fun (q : Hp × Int32) => q.1) (fun k2 hk2 q => ?_)
  show PF p l e (rmc 1 22) s m args below meth c 3 G 0 0 (QI below G args s) 2 [some (.ref (gad G o0)), some (.int x1), some (.int q.2)] [] q.1 (b_X10_firstIn_2 o0 x1 k2 q)
  unfold b_X10_firstIn_2
  refine f_iload_n (pc := 2) cx dX10_firstIn_2 rfl rfl ?_
  refine f_aload_n (pc := 3) cx dX10_firstIn_3 rfl rfl ?_
  refine g_X10_30 (pc := 4) cx hk_o0 dX10_firstIn_4 ?_
  refine f_iconst (pc := 7) cx dX10_firstIn_7 kc_iconst_1 ?_
  refine f_ialdk (pc := 8) (j := 1) (n := 3715) cx (kf_9_20 hk_o0) (by decide) (by decide) kl_1 dX10_firstIn_8 ?_
  refine f_icmp_ge (pc := 9) (tgt := 40) cx dX10_firstIn_9 (by decide) (fun _ => ?_) (fun _ => ?_)
  · refine f_iconst (pc := 40) cx dX10_firstIn_40 kc_iconst_m1 ?_
    exact f_iret cx hr hlk rfl dX10_firstIn_41
  · refine f_aload_n (pc := 12) cx dX10_firstIn_12 rfl rfl ?_
    refine f_iload_n (pc := 13) cx dX10_firstIn_13 rfl rfl ?_
    refine f_iconst (pc := 14) cx dX10_firstIn_14 kc_iconst_4 ?_
    refine f_bind (fun r1 hr1 => ?_)
    refine k_X10_194 (pc := 15) cx (c_X10_frameOf l G _ o0 q.2 4 hk_o0 r1 hr1) hk_o0 ⟨by decide, by decide⟩ ⟨Nat.zero_le _, Nat.zero_le _⟩ (Nat.le_of_ble_eq_true rfl) dX10_firstIn_15 ?_
    refine f_iload_n (pc := 18) cx dX10_firstIn_18 rfl rfl ?_
    refine f_icmp_ne (pc := 19) (tgt := 34) cx dX10_firstIn_19 (by decide) (fun _ => ?_) (fun _ => ?_)
    · refine f_aload_n (pc := 22) cx dX10_firstIn_22 rfl rfl ?_
      refine f_iload_n (pc := 23) cx dX10_firstIn_23 rfl rfl ?_
      refine f_bipush (pc := 24) cx dX10_firstIn_24 kc_bipush_6 ?_
      refine f_bind (fun r2 hr2 => ?_)
      refine k_X10_194 (pc := 26) cx (c_X10_frameOf l G _ o0 q.2 6 hk_o0 r2 hr2) hk_o0 ⟨by decide, by decide⟩ ⟨Nat.zero_le _, Nat.zero_le _⟩ (Nat.le_of_ble_eq_true rfl) dX10_firstIn_26 ?_
      refine f_if_ne (pc := 29) (tgt := 34) cx dX10_firstIn_29 (by decide) (fun _ => ?_) (fun _ => ?_)
      · refine f_iload_n (pc := 32) cx dX10_firstIn_32 rfl rfl ?_
        exact f_iret cx hr hlk rfl dX10_firstIn_33
      · refine f_iinc2 (pc := 34) cx dX10_firstIn_34 kc_iconst_1 (by decide) rfl ?_
        refine f_goto (pc := 37) (tgt := 2) cx dX10_firstIn_37 (by decide) ?_
        exact f_weak (LSb.s (LSb.s (LSb.s LSb.e))) (hk2 (r2.2, q.2 + 1))
    · refine f_iinc2 (pc := 34) cx dX10_firstIn_34 kc_iconst_1 (by decide) rfl ?_
      refine f_goto (pc := 37) (tgt := 2) cx dX10_firstIn_37 (by decide) ?_
      exact f_weak (LSb.s (LSb.s (LSb.s LSb.e))) (hk2 (r1.2, q.2 + 1))
set_option maxRecDepth 4000 in
theorem s_X10_firstIn {p : Program} {l : Launch} {e : Env} {s : State} {m : MethodId} {args : Array Value} {below : List Frame} {meth : Method} {c : Code} {G : GT} (cx : CX p s m args c cX10_firstIn 3 RX10 G) (hr : meth.sig.returnType = (some .int)) (hlk : meth.locks = false) (h : Hp) (o0 : Nat) (x1 : Int32) (hk_o0 : kd o0 = 9) : PF p l e (rmc 1 22) s m args below meth c 3 G 0 0 (QI below G args s) 0 [some (.ref (gad G o0)), some (.int x1), none] [] h (p_X10_firstIn h o0 x1) := by
  unfold p_X10_firstIn
  refine f_iconst (pc := 0) cx dX10_firstIn_0 kc_iconst_0 ?_
  refine f_istore2 (pc := 1) cx dX10_firstIn_1 (by decide) rfl ?_
  exact f_weak (LSb.s (LSb.s (LSb.s LSb.e))) (s_X10_firstIn_2 cx hr hlk o0 x1 hk_o0 FU (h, 0))
set_option maxRecDepth 4000 in
theorem c_X10_firstIn (l : Launch) (G : GT) (h : Hp) (o0 : Nat) (x1 : Int32) (hk_o0 : kd o0 = 9) : CtI l G yX10_firstIn cX10_firstIn 3 (some .int) 1 22 [.ref (gad G o0), .int x1] h (p_X10_firstIn h o0 x1) := fun a ha => Ct.of (lv := [some (.ref (gad G o0)), some (.int x1), none]) (by decide) rfl (Nat.le_of_ble_eq_true rfl) rfl (fun p e s m args below meth c cx hr hlk => s_X10_firstIn cx hr hlk h o0 x1 hk_o0 a ha)
def p_X10_becomes (h : Hp) (o0 : Nat) (x1 : Int32) (x2 : Int32) : Option Hp :=
  Option.bind (p_X10_frames h o0 x1 6 x2) fun r1 => Option.bind (p_X10_frames r1 o0 x1 7 (r1 (o0 + 6) 0)) fun r2 => Option.bind (p_X10_frameOf r2 o0 x1 4) fun r3 => Option.bind (p_X10_frameOf r3.2 o0 x1 4) fun r4 => Option.bind (p_X10_of r4.2 o0 r4.1 12) fun r5 => Option.bind (p_X10_frameOf r5.2 o0 x1 1) fun r6 => Option.bind (p_X10_puts r6.2 o0 r3.1 12 (r5.1 - r6.1)) fun r7 => nv (hp r7 (o0 + 6) 2 ((r7 (o0 + 6) 2) - 1)) fun h8 => if ib (3515 + (h8 (o0 + 6) 3514)) 3715 then (nv (hp h8 (o0 + 6) (Int32.toNatClampNeg (3515 + (h8 (o0 + 6) 3514))) x1) fun h10 => nv (hp h10 (o0 + 6) 3514 ((h10 (o0 + 6) 3514) + 1)) fun h11 => some h11) else none
set_option maxRecDepth 4000 in
theorem s_X10_becomes {p : Program} {l : Launch} {e : Env} {s : State} {m : MethodId} {args : Array Value} {below : List Frame} {meth : Method} {c : Code} {G : GT} (cx : CX p s m args c cX10_becomes 3 RX10 G) (hr : meth.sig.returnType = none) (hlk : meth.locks = false) (h : Hp) (o0 : Nat) (x1 : Int32) (x2 : Int32) (hk_o0 : kd o0 = 9) : PF p l e (rmc 1 23) s m args below meth c 3 G 0 0 (QV below G args s) 0 [some (.ref (gad G o0)), some (.int x1), some (.int x2)] [] h (p_X10_becomes h o0 x1 x2) := by
  unfold p_X10_becomes
  refine f_aload_n (pc := 0) cx dX10_becomes_0 rfl rfl ?_
  refine f_iload_n (pc := 1) cx dX10_becomes_1 rfl rfl ?_
  refine f_bipush (pc := 2) cx dX10_becomes_2 kc_bipush_6 ?_
  refine f_iload_n (pc := 4) cx dX10_becomes_4 rfl rfl ?_
  refine f_bind (fun r1 hr1 => ?_)
  refine k_X10_197 (pc := 5) cx (c_X10_frames l G _ o0 x1 6 x2 hk_o0 r1 hr1) hk_o0 ⟨by decide, by decide⟩ ⟨Nat.zero_le _, Nat.zero_le _⟩ (Nat.le_of_ble_eq_true rfl) dX10_becomes_5 ?_
  refine f_aload_n (pc := 8) cx dX10_becomes_8 rfl rfl ?_
  refine f_iload_n (pc := 9) cx dX10_becomes_9 rfl rfl ?_
  refine f_bipush (pc := 10) cx dX10_becomes_10 kc_bipush_7 ?_
  refine f_aload_n (pc := 12) cx dX10_becomes_12 rfl rfl ?_
  refine g_X10_30 (pc := 13) cx hk_o0 dX10_becomes_13 ?_
  refine f_iconst (pc := 16) cx dX10_becomes_16 kc_iconst_0 ?_
  refine f_ialdk (pc := 17) (j := 0) (n := 3715) cx (kf_9_20 hk_o0) (by decide) (by decide) kl_0 dX10_becomes_17 ?_
  refine f_bind (fun r2 hr2 => ?_)
  refine k_X10_197 (pc := 18) cx (c_X10_frames l G _ o0 x1 7 (r1 (o0 + 6) 0) hk_o0 r2 hr2) hk_o0 ⟨by decide, by decide⟩ ⟨Nat.zero_le _, Nat.zero_le _⟩ (Nat.le_of_ble_eq_true rfl) dX10_becomes_18 ?_
  refine f_aload_n (pc := 21) cx dX10_becomes_21 rfl rfl ?_
  refine f_aload_n (pc := 22) cx dX10_becomes_22 rfl rfl ?_
  refine f_iload_n (pc := 23) cx dX10_becomes_23 rfl rfl ?_
  refine f_iconst (pc := 24) cx dX10_becomes_24 kc_iconst_4 ?_
  refine f_bind (fun r3 hr3 => ?_)
  refine k_X10_194 (pc := 25) cx (c_X10_frameOf l G _ o0 x1 4 hk_o0 r3 hr3) hk_o0 ⟨by decide, by decide⟩ ⟨Nat.zero_le _, Nat.zero_le _⟩ (Nat.le_of_ble_eq_true rfl) dX10_becomes_25 ?_
  refine f_bipush (pc := 28) cx dX10_becomes_28 kc_bipush_12 ?_
  refine f_aload_n (pc := 30) cx dX10_becomes_30 rfl rfl ?_
  refine f_aload_n (pc := 31) cx dX10_becomes_31 rfl rfl ?_
  refine f_iload_n (pc := 32) cx dX10_becomes_32 rfl rfl ?_
  refine f_iconst (pc := 33) cx dX10_becomes_33 kc_iconst_4 ?_
  refine f_bind (fun r4 hr4 => ?_)
  refine k_X10_194 (pc := 34) cx (c_X10_frameOf l G _ o0 x1 4 hk_o0 r4 hr4) hk_o0 ⟨by decide, by decide⟩ ⟨Nat.zero_le _, Nat.zero_le _⟩ (Nat.le_of_ble_eq_true rfl) dX10_becomes_34 ?_
  refine f_bipush (pc := 37) cx dX10_becomes_37 kc_bipush_12 ?_
  refine f_bind (fun r5 hr5 => ?_)
  refine k_X10_184 (pc := 39) cx (c_X10_of l G _ o0 r4.1 12 hk_o0 r5 hr5) hk_o0 ⟨by decide, by decide⟩ ⟨Nat.zero_le _, Nat.zero_le _⟩ (Nat.le_of_ble_eq_true rfl) dX10_becomes_39 ?_
  refine f_aload_n (pc := 42) cx dX10_becomes_42 rfl rfl ?_
  refine f_iload_n (pc := 43) cx dX10_becomes_43 rfl rfl ?_
  refine f_iconst (pc := 44) cx dX10_becomes_44 kc_iconst_1 ?_
  refine f_bind (fun r6 hr6 => ?_)
  refine k_X10_194 (pc := 45) cx (c_X10_frameOf l G _ o0 x1 1 hk_o0 r6 hr6) hk_o0 ⟨by decide, by decide⟩ ⟨Nat.zero_le _, Nat.zero_le _⟩ (Nat.le_of_ble_eq_true rfl) dX10_becomes_45 ?_
  refine f_isub (pc := 48) cx dX10_becomes_48 ?_
  refine f_bind (fun r7 hr7 => ?_)
  refine k_X10_165 (pc := 49) cx (c_X10_puts l G _ o0 r3.1 12 (r5.1 - r6.1) hk_o0 r7 hr7) hk_o0 ⟨by decide, by decide⟩ ⟨Nat.zero_le _, Nat.zero_le _⟩ (Nat.le_of_ble_eq_true rfl) dX10_becomes_49 ?_
  refine f_aload_n (pc := 52) cx dX10_becomes_52 rfl rfl ?_
  refine g_X10_30 (pc := 53) cx hk_o0 dX10_becomes_53 ?_
  refine f_iconst (pc := 56) cx dX10_becomes_56 kc_iconst_2 ?_
  refine f_dup2 (pc := 57) cx dX10_becomes_57 rfl rfl ?_
  refine f_ialdk (pc := 58) (j := 2) (n := 3715) cx (kf_9_20 hk_o0) (by decide) (by decide) kl_2 dX10_becomes_58 ?_
  refine f_iconst (pc := 59) cx dX10_becomes_59 kc_iconst_1 ?_
  refine f_isub (pc := 60) cx dX10_becomes_60 ?_
  refine f_iastk (pc := 61) (j := 2) (n := 3715) cx (kf_9_20 hk_o0) (by decide) (by decide) kl_2 dX10_becomes_61 ?_
  refine f_nvh (fun h8 => ?_)
  refine f_aload_n (pc := 62) cx dX10_becomes_62 rfl rfl ?_
  refine g_X10_30 (pc := 63) cx hk_o0 dX10_becomes_63 ?_
  refine f_sipush (pc := 66) cx dX10_becomes_66 kc_sipush_3515 ?_
  refine f_aload_n (pc := 69) cx dX10_becomes_69 rfl rfl ?_
  refine g_X10_30 (pc := 70) cx hk_o0 dX10_becomes_70 ?_
  refine f_sipush (pc := 73) cx dX10_becomes_73 kc_sipush_3514 ?_
  refine f_ialdk (pc := 76) (j := 3514) (n := 3715) cx (kf_9_20 hk_o0) (by decide) (by decide) kl_3514 dX10_becomes_76 ?_
  refine f_iadd (pc := 77) cx dX10_becomes_77 ?_
  refine f_iload_n (pc := 78) cx dX10_becomes_78 rfl rfl ?_
  refine f_need (fun c9 => ?_)
  refine f_iast (pc := 79) (n := 3715) cx (kf_9_20 hk_o0) (by decide) c9 dX10_becomes_79 ?_
  refine f_nvh (fun h10 => ?_)
  refine f_aload_n (pc := 80) cx dX10_becomes_80 rfl rfl ?_
  refine g_X10_30 (pc := 81) cx hk_o0 dX10_becomes_81 ?_
  refine f_sipush (pc := 84) cx dX10_becomes_84 kc_sipush_3514 ?_
  refine f_dup2 (pc := 87) cx dX10_becomes_87 rfl rfl ?_
  refine f_ialdk (pc := 88) (j := 3514) (n := 3715) cx (kf_9_20 hk_o0) (by decide) (by decide) kl_3514 dX10_becomes_88 ?_
  refine f_iconst (pc := 89) cx dX10_becomes_89 kc_iconst_1 ?_
  refine f_iadd (pc := 90) cx dX10_becomes_90 ?_
  refine f_iastk (pc := 91) (j := 3514) (n := 3715) cx (kf_9_20 hk_o0) (by decide) (by decide) kl_3514 dX10_becomes_91 ?_
  refine f_nvh (fun h11 => ?_)
  exact f_vret cx hr hlk dX10_becomes_92
set_option maxRecDepth 4000 in
theorem c_X10_becomes (l : Launch) (G : GT) (h : Hp) (o0 : Nat) (x1 : Int32) (x2 : Int32) (hk_o0 : kd o0 = 9) : CtV l G yX10_becomes cX10_becomes 3 none 1 23 [.ref (gad G o0), .int x1, .int x2] h (p_X10_becomes h o0 x1 x2) := fun a ha => Ct.of (lv := [some (.ref (gad G o0)), some (.int x1), some (.int x2)]) (by decide) rfl (Nat.le_of_ble_eq_true rfl) rfl (fun p e s m args below meth c cx hr hlk => s_X10_becomes cx hr hlk h o0 x1 x2 hk_o0 a ha)
def p_X10_law (h : Hp) (o0 : Nat) (x1 : Int32) (x2 : Int32) : Option (Int32 × Hp) :=
  Option.bind (p_X10_interval h o0) fun r1 => Option.bind (p_X10_of r1.2 o0 x1 8) fun r2 => some (x2 + (Int64.toInt32 (((Int32.toInt64 r1.1) * (Int32.toInt64 r2.1)) / 65536)), r2.2)
set_option maxRecDepth 4000 in
theorem s_X10_law {p : Program} {l : Launch} {e : Env} {s : State} {m : MethodId} {args : Array Value} {below : List Frame} {meth : Method} {c : Code} {G : GT} (cx : CX p s m args c cX10_law 3 RX10 G) (hr : meth.sig.returnType = (some .int)) (hlk : meth.locks = false) (h : Hp) (o0 : Nat) (x1 : Int32) (x2 : Int32) (hk_o0 : kd o0 = 9) : PF p l e (rmc 1 22) s m args below meth c 3 G 0 0 (QI below G args s) 0 [some (.ref (gad G o0)), some (.int x1), some (.int x2)] [] h (p_X10_law h o0 x1 x2) := by
  unfold p_X10_law
  refine f_iload_n (pc := 0) cx dX10_law_0 rfl rfl ?_
  refine f_aload_n (pc := 1) cx dX10_law_1 rfl rfl ?_
  refine f_bind (fun r1 hr1 => ?_)
  refine k_X10_225 (pc := 2) cx (c_X10_interval l G _ o0 hk_o0 r1 hr1) hk_o0 ⟨by decide, by decide⟩ ⟨Nat.zero_le _, Nat.zero_le _⟩ (Nat.le_of_ble_eq_true rfl) dX10_law_2 ?_
  refine f_i2l (pc := 5) cx dX10_law_5 ?_
  refine f_aload_n (pc := 6) cx dX10_law_6 rfl rfl ?_
  refine f_iload_n (pc := 7) cx dX10_law_7 rfl rfl ?_
  refine f_bipush (pc := 8) cx dX10_law_8 kc_bipush_8 ?_
  refine f_bind (fun r2 hr2 => ?_)
  refine k_X10_184 (pc := 10) cx (c_X10_of l G _ o0 x1 8 hk_o0 r2 hr2) hk_o0 ⟨by decide, by decide⟩ ⟨Nat.zero_le _, Nat.zero_le _⟩ (Nat.le_of_ble_eq_true rfl) dX10_law_10 ?_
  refine f_i2l (pc := 13) cx dX10_law_13 ?_
  refine f_lmul (pc := 14) cx dX10_law_14 ?_
  refine f_ldc2 (pc := 15) cx w_1570 dX10_law_15 ?_
  refine f_ldiv (pc := 18) cx dX10_law_18 (by decide) ?_
  refine f_l2i (pc := 19) cx dX10_law_19 ?_
  refine f_iadd (pc := 20) cx dX10_law_20 ?_
  exact f_iret cx hr hlk rfl dX10_law_21
set_option maxRecDepth 4000 in
theorem c_X10_law (l : Launch) (G : GT) (h : Hp) (o0 : Nat) (x1 : Int32) (x2 : Int32) (hk_o0 : kd o0 = 9) : CtI l G yX10_law cX10_law 3 (some .int) 1 22 [.ref (gad G o0), .int x1, .int x2] h (p_X10_law h o0 x1 x2) := fun a ha => Ct.of (lv := [some (.ref (gad G o0)), some (.int x1), some (.int x2)]) (by decide) rfl (Nat.le_of_ble_eq_true rfl) rfl (fun p e s m args below meth c cx hr hlk => s_X10_law cx hr hlk h o0 x1 x2 hk_o0 a ha)
def p_X10_steps (h : Hp) (o0 : Nat) (x1 : Int32) : Option Hp :=
  Option.bind (p_X10_of h o0 x1 8) fun r1 => Option.bind (p_X10_of r1.2 o0 x1 3) fun r2 => Option.bind (p_X10_stepped r2.2 r1.1 r2.1) fun r3 => Option.bind (p_X10_puts r3.2 o0 x1 8 r3.1) fun r4 => some r4
set_option maxRecDepth 4000 in
theorem s_X10_steps {p : Program} {l : Launch} {e : Env} {s : State} {m : MethodId} {args : Array Value} {below : List Frame} {meth : Method} {c : Code} {G : GT} (cx : CX p s m args c cX10_steps 2 RX10 G) (hr : meth.sig.returnType = none) (hlk : meth.locks = false) (h : Hp) (o0 : Nat) (x1 : Int32) (hk_o0 : kd o0 = 9) : PF p l e (rmc 1 27) s m args below meth c 2 G 0 0 (QV below G args s) 0 [some (.ref (gad G o0)), some (.int x1)] [] h (p_X10_steps h o0 x1) := by
  unfold p_X10_steps
  refine f_aload_n (pc := 0) cx dX10_steps_0 rfl rfl ?_
  refine f_iload_n (pc := 1) cx dX10_steps_1 rfl rfl ?_
  refine f_bipush (pc := 2) cx dX10_steps_2 kc_bipush_8 ?_
  refine f_aload_n (pc := 4) cx dX10_steps_4 rfl rfl ?_
  refine f_iload_n (pc := 5) cx dX10_steps_5 rfl rfl ?_
  refine f_bipush (pc := 6) cx dX10_steps_6 kc_bipush_8 ?_
  refine f_bind (fun r1 hr1 => ?_)
  refine k_X10_184 (pc := 8) cx (c_X10_of l G _ o0 x1 8 hk_o0 r1 hr1) hk_o0 ⟨by decide, by decide⟩ ⟨Nat.zero_le _, Nat.zero_le _⟩ (Nat.le_of_ble_eq_true rfl) dX10_steps_8 ?_
  refine f_aload_n (pc := 11) cx dX10_steps_11 rfl rfl ?_
  refine f_iload_n (pc := 12) cx dX10_steps_12 rfl rfl ?_
  refine f_iconst (pc := 13) cx dX10_steps_13 kc_iconst_3 ?_
  refine f_bind (fun r2 hr2 => ?_)
  refine k_X10_184 (pc := 14) cx (c_X10_of l G _ o0 x1 3 hk_o0 r2 hr2) hk_o0 ⟨by decide, by decide⟩ ⟨Nat.zero_le _, Nat.zero_le _⟩ (Nat.le_of_ble_eq_true rfl) dX10_steps_14 ?_
  refine f_bind (fun r3 hr3 => ?_)
  refine k_X10_236 (pc := 17) cx (c_X10_stepped l G _ r1.1 r2.1 r3 hr3) ⟨by decide, by decide⟩ ⟨Nat.zero_le _, Nat.zero_le _⟩ (Nat.le_of_ble_eq_true rfl) dX10_steps_17 ?_
  refine f_bind (fun r4 hr4 => ?_)
  refine k_X10_165 (pc := 20) cx (c_X10_puts l G _ o0 x1 8 r3.1 hk_o0 r4 hr4) hk_o0 ⟨by decide, by decide⟩ ⟨Nat.zero_le _, Nat.zero_le _⟩ (Nat.le_of_ble_eq_true rfl) dX10_steps_20 ?_
  exact f_vret cx hr hlk dX10_steps_23
set_option maxRecDepth 4000 in
theorem c_X10_steps (l : Launch) (G : GT) (h : Hp) (o0 : Nat) (x1 : Int32) (hk_o0 : kd o0 = 9) : CtV l G yX10_steps cX10_steps 2 none 1 27 [.ref (gad G o0), .int x1] h (p_X10_steps h o0 x1) := fun a ha => Ct.of (lv := [some (.ref (gad G o0)), some (.int x1)]) (by decide) rfl (Nat.le_of_ble_eq_true rfl) rfl (fun p e s m args below meth c cx hr hlk => s_X10_steps cx hr hlk h o0 x1 hk_o0 a ha)
def p_X10_drops (h : Hp) (o0 : Nat) (x1 : Int32) : Option Hp :=
  Option.bind (p_X10_frames h o0 x1 6 2) fun r1 => Option.bind (p_X10_happens r1 o0 1 x1) fun r2 => Option.bind (p_X10_frameOf r2 o0 x1 0) fun r3 => Option.bind (p_X10_watches r3.2 o0 1 r3.1 0) fun r4 => some r4
set_option maxRecDepth 4000 in
theorem s_X10_drops {p : Program} {l : Launch} {e : Env} {s : State} {m : MethodId} {args : Array Value} {below : List Frame} {meth : Method} {c : Code} {G : GT} (cx : CX p s m args c cX10_drops 2 RX10 G) (hr : meth.sig.returnType = none) (hlk : meth.locks = false) (h : Hp) (o0 : Nat) (x1 : Int32) (hk_o0 : kd o0 = 9) : PF p l e (rmc 1 25) s m args below meth c 2 G 0 0 (QV below G args s) 0 [some (.ref (gad G o0)), some (.int x1)] [] h (p_X10_drops h o0 x1) := by
  unfold p_X10_drops
  refine f_aload_n (pc := 0) cx dX10_drops_0 rfl rfl ?_
  refine f_iload_n (pc := 1) cx dX10_drops_1 rfl rfl ?_
  refine f_bipush (pc := 2) cx dX10_drops_2 kc_bipush_6 ?_
  refine f_iconst (pc := 4) cx dX10_drops_4 kc_iconst_2 ?_
  refine f_bind (fun r1 hr1 => ?_)
  refine k_X10_197 (pc := 5) cx (c_X10_frames l G _ o0 x1 6 2 hk_o0 r1 hr1) hk_o0 ⟨by decide, by decide⟩ ⟨Nat.zero_le _, Nat.zero_le _⟩ (Nat.le_of_ble_eq_true rfl) dX10_drops_5 ?_
  refine f_aload_n (pc := 8) cx dX10_drops_8 rfl rfl ?_
  refine f_iconst (pc := 9) cx dX10_drops_9 kc_iconst_1 ?_
  refine f_iload_n (pc := 10) cx dX10_drops_10 rfl rfl ?_
  refine f_bind (fun r2 hr2 => ?_)
  refine k_X10_218 (pc := 11) cx (c_X10_happens l G _ o0 1 x1 hk_o0 r2 hr2) hk_o0 ⟨by decide, by decide⟩ ⟨Nat.zero_le _, Nat.zero_le _⟩ (Nat.le_of_ble_eq_true rfl) dX10_drops_11 ?_
  refine f_aload_n (pc := 14) cx dX10_drops_14 rfl rfl ?_
  refine f_iconst (pc := 15) cx dX10_drops_15 kc_iconst_1 ?_
  refine f_aload_n (pc := 16) cx dX10_drops_16 rfl rfl ?_
  refine f_iload_n (pc := 17) cx dX10_drops_17 rfl rfl ?_
  refine f_iconst (pc := 18) cx dX10_drops_18 kc_iconst_0 ?_
  refine f_bind (fun r3 hr3 => ?_)
  refine k_X10_194 (pc := 19) cx (c_X10_frameOf l G _ o0 x1 0 hk_o0 r3 hr3) hk_o0 ⟨by decide, by decide⟩ ⟨Nat.zero_le _, Nat.zero_le _⟩ (Nat.le_of_ble_eq_true rfl) dX10_drops_19 ?_
  refine f_iconst (pc := 22) cx dX10_drops_22 kc_iconst_0 ?_
  refine f_bind (fun r4 hr4 => ?_)
  refine k_X10_221 (pc := 23) cx (c_X10_watches l G _ o0 1 r3.1 0 hk_o0 r4 hr4) hk_o0 ⟨by decide, by decide⟩ ⟨Nat.zero_le _, Nat.zero_le _⟩ (Nat.le_of_ble_eq_true rfl) dX10_drops_23 ?_
  exact f_vret cx hr hlk dX10_drops_26
set_option maxRecDepth 4000 in
theorem c_X10_drops (l : Launch) (G : GT) (h : Hp) (o0 : Nat) (x1 : Int32) (hk_o0 : kd o0 = 9) : CtV l G yX10_drops cX10_drops 2 none 1 25 [.ref (gad G o0), .int x1] h (p_X10_drops h o0 x1) := fun a ha => Ct.of (lv := [some (.ref (gad G o0)), some (.int x1)]) (by decide) rfl (Nat.le_of_ble_eq_true rfl) rfl (fun p e s m args below meth c cx hr hlk => s_X10_drops cx hr hlk h o0 x1 hk_o0 a ha)
def p_X10_marks (h : Hp) (o0 : Nat) (x1 : Int32) : Option Hp :=
  Option.bind (p_X10_frames h o0 x1 5 1) fun r1 => Option.bind (p_X10_happens r1 o0 2 x1) fun r2 => Option.bind (p_X10_frameOf r2 o0 x1 1) fun r3 => Option.bind (p_X10_watches r3.2 o0 3 r3.1 1) fun r4 => some r4
set_option maxRecDepth 4000 in
theorem s_X10_marks {p : Program} {l : Launch} {e : Env} {s : State} {m : MethodId} {args : Array Value} {below : List Frame} {meth : Method} {c : Code} {G : GT} (cx : CX p s m args c cX10_marks 2 RX10 G) (hr : meth.sig.returnType = none) (hlk : meth.locks = false) (h : Hp) (o0 : Nat) (x1 : Int32) (hk_o0 : kd o0 = 9) : PF p l e (rmc 1 25) s m args below meth c 2 G 0 0 (QV below G args s) 0 [some (.ref (gad G o0)), some (.int x1)] [] h (p_X10_marks h o0 x1) := by
  unfold p_X10_marks
  refine f_aload_n (pc := 0) cx dX10_marks_0 rfl rfl ?_
  refine f_iload_n (pc := 1) cx dX10_marks_1 rfl rfl ?_
  refine f_iconst (pc := 2) cx dX10_marks_2 kc_iconst_5 ?_
  refine f_iconst (pc := 3) cx dX10_marks_3 kc_iconst_1 ?_
  refine f_bind (fun r1 hr1 => ?_)
  refine k_X10_197 (pc := 4) cx (c_X10_frames l G _ o0 x1 5 1 hk_o0 r1 hr1) hk_o0 ⟨by decide, by decide⟩ ⟨Nat.zero_le _, Nat.zero_le _⟩ (Nat.le_of_ble_eq_true rfl) dX10_marks_4 ?_
  refine f_aload_n (pc := 7) cx dX10_marks_7 rfl rfl ?_
  refine f_iconst (pc := 8) cx dX10_marks_8 kc_iconst_2 ?_
  refine f_iload_n (pc := 9) cx dX10_marks_9 rfl rfl ?_
  refine f_bind (fun r2 hr2 => ?_)
  refine k_X10_218 (pc := 10) cx (c_X10_happens l G _ o0 2 x1 hk_o0 r2 hr2) hk_o0 ⟨by decide, by decide⟩ ⟨Nat.zero_le _, Nat.zero_le _⟩ (Nat.le_of_ble_eq_true rfl) dX10_marks_10 ?_
  refine f_aload_n (pc := 13) cx dX10_marks_13 rfl rfl ?_
  refine f_iconst (pc := 14) cx dX10_marks_14 kc_iconst_3 ?_
  refine f_aload_n (pc := 15) cx dX10_marks_15 rfl rfl ?_
  refine f_iload_n (pc := 16) cx dX10_marks_16 rfl rfl ?_
  refine f_iconst (pc := 17) cx dX10_marks_17 kc_iconst_1 ?_
  refine f_bind (fun r3 hr3 => ?_)
  refine k_X10_194 (pc := 18) cx (c_X10_frameOf l G _ o0 x1 1 hk_o0 r3 hr3) hk_o0 ⟨by decide, by decide⟩ ⟨Nat.zero_le _, Nat.zero_le _⟩ (Nat.le_of_ble_eq_true rfl) dX10_marks_18 ?_
  refine f_iconst (pc := 21) cx dX10_marks_21 kc_iconst_1 ?_
  refine f_bind (fun r4 hr4 => ?_)
  refine k_X10_221 (pc := 22) cx (c_X10_watches l G _ o0 3 r3.1 1 hk_o0 r4 hr4) hk_o0 ⟨by decide, by decide⟩ ⟨Nat.zero_le _, Nat.zero_le _⟩ (Nat.le_of_ble_eq_true rfl) dX10_marks_22 ?_
  exact f_vret cx hr hlk dX10_marks_25
set_option maxRecDepth 4000 in
theorem c_X10_marks (l : Launch) (G : GT) (h : Hp) (o0 : Nat) (x1 : Int32) (hk_o0 : kd o0 = 9) : CtV l G yX10_marks cX10_marks 2 none 1 25 [.ref (gad G o0), .int x1] h (p_X10_marks h o0 x1) := fun a ha => Ct.of (lv := [some (.ref (gad G o0)), some (.int x1)]) (by decide) rfl (Nat.le_of_ble_eq_true rfl) rfl (fun p e s m args below meth c cx hr hlk => s_X10_marks cx hr hlk h o0 x1 hk_o0 a ha)
def p_X10_sends (h : Hp) (o0 : Nat) (x1 : Int32) (x2 : Int32) : Option Hp :=
  Option.bind (p_X10_of h o0 x1 1) fun r1 => Option.bind (p_X10_frameOf r1.2 o0 x2 1) fun r2 => Option.bind (p_X10_puts r2.2 o0 x1 1 (r1.1 - r2.1)) fun r3 => Option.bind (p_X10_happens r3 o0 0 x2) fun r4 => Option.bind (p_X10_frameOf r4 o0 x2 3) fun r5 => Option.bind (p_X10_watches r5.2 o0 0 ((r4 (o0 + 6) 0) - r5.1) 1) fun r6 => Option.bind (p_X10_of r6 o0 x1 1) fun r7 => Option.bind (p_X10_watches r7.2 o0 2 ((-r7.1) - 1) 1) fun r8 => nv (r8 (o0 + 6) 9) fun v9 => if v9 ≤ 0 then (some r8) else (Option.bind (p_X10_frameOf r8 o0 x2 1) fun r10 => if ¬ v9 = 0 then (nv (hp r10.2 (o0 + 6) 0 ((r8 (o0 + 6) 0) + (((r10.1 + v9) - 1) / v9))) fun h12 => some h12) else none)
set_option maxRecDepth 4000 in
theorem s_X10_sends {p : Program} {l : Launch} {e : Env} {s : State} {m : MethodId} {args : Array Value} {below : List Frame} {meth : Method} {c : Code} {G : GT} (cx : CX p s m args c cX10_sends 4 RX10 G) (hr : meth.sig.returnType = none) (hlk : meth.locks = false) (h : Hp) (o0 : Nat) (x1 : Int32) (x2 : Int32) (hk_o0 : kd o0 = 9) : PF p l e (rmc 1 25) s m args below meth c 4 G 0 0 (QV below G args s) 0 [some (.ref (gad G o0)), some (.int x1), some (.int x2), none] [] h (p_X10_sends h o0 x1 x2) := by
  unfold p_X10_sends
  refine f_aload_n (pc := 0) cx dX10_sends_0 rfl rfl ?_
  refine f_iload_n (pc := 1) cx dX10_sends_1 rfl rfl ?_
  refine f_iconst (pc := 2) cx dX10_sends_2 kc_iconst_1 ?_
  refine f_aload_n (pc := 3) cx dX10_sends_3 rfl rfl ?_
  refine f_iload_n (pc := 4) cx dX10_sends_4 rfl rfl ?_
  refine f_iconst (pc := 5) cx dX10_sends_5 kc_iconst_1 ?_
  refine f_bind (fun r1 hr1 => ?_)
  refine k_X10_184 (pc := 6) cx (c_X10_of l G _ o0 x1 1 hk_o0 r1 hr1) hk_o0 ⟨by decide, by decide⟩ ⟨Nat.zero_le _, Nat.zero_le _⟩ (Nat.le_of_ble_eq_true rfl) dX10_sends_6 ?_
  refine f_aload_n (pc := 9) cx dX10_sends_9 rfl rfl ?_
  refine f_iload_n (pc := 10) cx dX10_sends_10 rfl rfl ?_
  refine f_iconst (pc := 11) cx dX10_sends_11 kc_iconst_1 ?_
  refine f_bind (fun r2 hr2 => ?_)
  refine k_X10_194 (pc := 12) cx (c_X10_frameOf l G _ o0 x2 1 hk_o0 r2 hr2) hk_o0 ⟨by decide, by decide⟩ ⟨Nat.zero_le _, Nat.zero_le _⟩ (Nat.le_of_ble_eq_true rfl) dX10_sends_12 ?_
  refine f_isub (pc := 15) cx dX10_sends_15 ?_
  refine f_bind (fun r3 hr3 => ?_)
  refine k_X10_165 (pc := 16) cx (c_X10_puts l G _ o0 x1 1 (r1.1 - r2.1) hk_o0 r3 hr3) hk_o0 ⟨by decide, by decide⟩ ⟨Nat.zero_le _, Nat.zero_le _⟩ (Nat.le_of_ble_eq_true rfl) dX10_sends_16 ?_
  refine f_aload_n (pc := 19) cx dX10_sends_19 rfl rfl ?_
  refine f_iconst (pc := 20) cx dX10_sends_20 kc_iconst_0 ?_
  refine f_iload_n (pc := 21) cx dX10_sends_21 rfl rfl ?_
  refine f_bind (fun r4 hr4 => ?_)
  refine k_X10_218 (pc := 22) cx (c_X10_happens l G _ o0 0 x2 hk_o0 r4 hr4) hk_o0 ⟨by decide, by decide⟩ ⟨Nat.zero_le _, Nat.zero_le _⟩ (Nat.le_of_ble_eq_true rfl) dX10_sends_22 ?_
  refine f_aload_n (pc := 25) cx dX10_sends_25 rfl rfl ?_
  refine f_iconst (pc := 26) cx dX10_sends_26 kc_iconst_0 ?_
  refine f_aload_n (pc := 27) cx dX10_sends_27 rfl rfl ?_
  refine g_X10_30 (pc := 28) cx hk_o0 dX10_sends_28 ?_
  refine f_iconst (pc := 31) cx dX10_sends_31 kc_iconst_0 ?_
  refine f_ialdk (pc := 32) (j := 0) (n := 3715) cx (kf_9_20 hk_o0) (by decide) (by decide) kl_0 dX10_sends_32 ?_
  refine f_aload_n (pc := 33) cx dX10_sends_33 rfl rfl ?_
  refine f_iload_n (pc := 34) cx dX10_sends_34 rfl rfl ?_
  refine f_iconst (pc := 35) cx dX10_sends_35 kc_iconst_3 ?_
  refine f_bind (fun r5 hr5 => ?_)
  refine k_X10_194 (pc := 36) cx (c_X10_frameOf l G _ o0 x2 3 hk_o0 r5 hr5) hk_o0 ⟨by decide, by decide⟩ ⟨Nat.zero_le _, Nat.zero_le _⟩ (Nat.le_of_ble_eq_true rfl) dX10_sends_36 ?_
  refine f_isub (pc := 39) cx dX10_sends_39 ?_
  refine f_iconst (pc := 40) cx dX10_sends_40 kc_iconst_1 ?_
  refine f_bind (fun r6 hr6 => ?_)
  refine k_X10_221 (pc := 41) cx (c_X10_watches l G _ o0 0 ((r4 (o0 + 6) 0) - r5.1) 1 hk_o0 r6 hr6) hk_o0 ⟨by decide, by decide⟩ ⟨Nat.zero_le _, Nat.zero_le _⟩ (Nat.le_of_ble_eq_true rfl) dX10_sends_41 ?_
  refine f_aload_n (pc := 44) cx dX10_sends_44 rfl rfl ?_
  refine f_iconst (pc := 45) cx dX10_sends_45 kc_iconst_2 ?_
  refine f_aload_n (pc := 46) cx dX10_sends_46 rfl rfl ?_
  refine f_iload_n (pc := 47) cx dX10_sends_47 rfl rfl ?_
  refine f_iconst (pc := 48) cx dX10_sends_48 kc_iconst_1 ?_
  refine f_bind (fun r7 hr7 => ?_)
  refine k_X10_184 (pc := 49) cx (c_X10_of l G _ o0 x1 1 hk_o0 r7 hr7) hk_o0 ⟨by decide, by decide⟩ ⟨Nat.zero_le _, Nat.zero_le _⟩ (Nat.le_of_ble_eq_true rfl) dX10_sends_49 ?_
  refine f_ineg (pc := 52) cx dX10_sends_52 ?_
  refine f_iconst (pc := 53) cx dX10_sends_53 kc_iconst_1 ?_
  refine f_isub (pc := 54) cx dX10_sends_54 ?_
  refine f_iconst (pc := 55) cx dX10_sends_55 kc_iconst_1 ?_
  refine f_bind (fun r8 hr8 => ?_)
  refine k_X10_221 (pc := 56) cx (c_X10_watches l G _ o0 2 ((-r7.1) - 1) 1 hk_o0 r8 hr8) hk_o0 ⟨by decide, by decide⟩ ⟨Nat.zero_le _, Nat.zero_le _⟩ (Nat.le_of_ble_eq_true rfl) dX10_sends_56 ?_
  refine f_aload_n (pc := 59) cx dX10_sends_59 rfl rfl ?_
  refine g_X10_30 (pc := 60) cx hk_o0 dX10_sends_60 ?_
  refine f_bipush (pc := 63) cx dX10_sends_63 kc_bipush_9 ?_
  refine f_ialdk (pc := 65) (j := 9) (n := 3715) cx (kf_9_20 hk_o0) (by decide) (by decide) kl_9 dX10_sends_65 ?_
  refine f_nvi (fun v9 => ?_)
  refine f_istore3 (pc := 66) cx dX10_sends_66 (by decide) rfl ?_
  refine f_iload_n (pc := 67) cx dX10_sends_67 rfl rfl ?_
  refine f_if_le (pc := 68) (tgt := 92) cx dX10_sends_68 (by decide) (fun _ => ?_) (fun _ => ?_)
  · exact f_vret cx hr hlk dX10_sends_92
  · refine f_aload_n (pc := 71) cx dX10_sends_71 rfl rfl ?_
    refine g_X10_30 (pc := 72) cx hk_o0 dX10_sends_72 ?_
    refine f_iconst (pc := 75) cx dX10_sends_75 kc_iconst_0 ?_
    refine f_dup2 (pc := 76) cx dX10_sends_76 rfl rfl ?_
    refine f_ialdk (pc := 77) (j := 0) (n := 3715) cx (kf_9_20 hk_o0) (by decide) (by decide) kl_0 dX10_sends_77 ?_
    refine f_aload_n (pc := 78) cx dX10_sends_78 rfl rfl ?_
    refine f_iload_n (pc := 79) cx dX10_sends_79 rfl rfl ?_
    refine f_iconst (pc := 80) cx dX10_sends_80 kc_iconst_1 ?_
    refine f_bind (fun r10 hr10 => ?_)
    refine k_X10_194 (pc := 81) cx (c_X10_frameOf l G _ o0 x2 1 hk_o0 r10 hr10) hk_o0 ⟨by decide, by decide⟩ ⟨Nat.zero_le _, Nat.zero_le _⟩ (Nat.le_of_ble_eq_true rfl) dX10_sends_81 ?_
    refine f_iload_n (pc := 84) cx dX10_sends_84 rfl rfl ?_
    refine f_iadd (pc := 85) cx dX10_sends_85 ?_
    refine f_iconst (pc := 86) cx dX10_sends_86 kc_iconst_1 ?_
    refine f_isub (pc := 87) cx dX10_sends_87 ?_
    refine f_iload_n (pc := 88) cx dX10_sends_88 rfl rfl ?_
    refine f_need (fun c11 => ?_)
    refine f_idiv (pc := 89) cx dX10_sends_89 c11 ?_
    refine f_iadd (pc := 90) cx dX10_sends_90 ?_
    refine f_iastk (pc := 91) (j := 0) (n := 3715) cx (kf_9_20 hk_o0) (by decide) (by decide) kl_0 dX10_sends_91 ?_
    refine f_nvh (fun h12 => ?_)
    exact f_vret cx hr hlk dX10_sends_92
set_option maxRecDepth 4000 in
theorem c_X10_sends (l : Launch) (G : GT) (h : Hp) (o0 : Nat) (x1 : Int32) (x2 : Int32) (hk_o0 : kd o0 = 9) : CtV l G yX10_sends cX10_sends 4 none 1 25 [.ref (gad G o0), .int x1, .int x2] h (p_X10_sends h o0 x1 x2) := fun a ha => Ct.of (lv := [some (.ref (gad G o0)), some (.int x1), some (.int x2), none]) (by decide) rfl (Nat.le_of_ble_eq_true rfl) rfl (fun p e s m args below meth c cx hr hlk => s_X10_sends cx hr hlk h o0 x1 x2 hk_o0 a ha)
def q_X10_hears_152 (h : Hp) (o0 : Nat) (x1 : Int32) (p0 : Nat) (y1 : Int32) (y2 : Int32) (y3 : Int32) : Option Hp :=
  Option.bind (p_X10_sends0 h p0 y1 y2 y3) fun r1 => Option.bind (p_X10_senderOf r1 o0 x1 6) fun r2 => Option.bind (p_X10_sends0 r2.2 o0 x1 6 (r2.1 + 1)) fun r3 => Option.bind (p_X10_sends0 r3 o0 x1 7 (r3 (o0 + 6) 0)) fun r4 => some r4
def q_X10_hears_133 (h : Hp) (o0 : Nat) (x1 : Int32) (x3 : Int32) : Option Hp :=
  if 100 ≤ (x3 / 2) then (q_X10_hears_152 h o0 x1 o0 x1 2 (x3 / 2)) else (q_X10_hears_152 h o0 x1 o0 x1 2 100)
def q_X10_hears_97 (h : Hp) (o0 : Nat) (x1 : Int32) (x3 : Int32) : Option Hp :=
  Option.bind (p_X10_senderOf h o0 x1 7) fun r5 => if r5.1 = (-2) then (q_X10_hears_133 r5.2 o0 x1 x3) else (Option.bind (p_X10_senderOf r5.2 o0 x1 7) fun r6 => Option.bind (p_X10_senderOf r6.2 o0 x1 3) fun r7 => if r7.1 ≤ ((r5.2 (o0 + 6) 0) - r6.1) then (q_X10_hears_133 r7.2 o0 x1 x3) else (some r7.2))
def p_X10_hears (h : Hp) (o0 : Nat) (x1 : Int32) (x2 : Int32) : Option Hp :=
  Option.bind (p_X10_frames h o0 x2 11 1) fun r8 => Option.bind (p_X10_senderOf r8 o0 x1 8) fun r9 => Option.bind (p_X10_sends0 r9.2 o0 x1 8 (r9.1 + 1)) fun r10 => Option.bind (p_X10_senderOf r10 o0 x1 5) fun r11 => Option.bind (p_X10_sends0 r11.2 o0 x1 5 (r11.1 - 1)) fun r12 => Option.bind (p_X10_senderOf r12 o0 x1 2) fun r13 => Option.bind (p_X10_frameOf r13.2 o0 x2 6) fun r14 => if r14.1 = 1 then (Option.bind (p_X10_frameOf r14.2 o0 x2 5) fun r15 => if r15.1 = 0 then (if ¬ r13.1 = 0 then (nv (r13.1 + (10000 / r13.1)) fun v17 => if v17 ≤ 2000 then (Option.bind (p_X10_sends0 r15.2 o0 x1 2 v17) fun r18 => some r18) else (Option.bind (p_X10_sends0 r15.2 o0 x1 2 2000) fun r19 => some r19)) else none) else (q_X10_hears_97 r15.2 o0 x1 r13.1)) else (q_X10_hears_97 r14.2 o0 x1 r13.1)
set_option maxRecDepth 4000 in
theorem s_X10_hears_152 {p : Program} {l : Launch} {e : Env} {s : State} {m : MethodId} {args : Array Value} {below : List Frame} {meth : Method} {c : Code} {G : GT} (cx : CX p s m args c cX10_hears 5 RX10 G) (hr : meth.sig.returnType = none) (hlk : meth.locks = false) (h : Hp) (o0 : Nat) (x1 : Int32) (p0 : Nat) (y1 : Int32) (y2 : Int32) (y3 : Int32) (hk_o0 : kd o0 = 9) (hk_p0 : kd p0 = 9) : PF p l e (rmc 1 23) s m args below meth c 5 G 0 0 (QV below G args s) 152 [some (.ref (gad G o0)), some (.int x1), none, none, none] [.int y3, .int y2, .int y1, .ref (gad G p0)] h (q_X10_hears_152 h o0 x1 p0 y1 y2 y3) := by
  unfold q_X10_hears_152
  refine f_bind (fun r1 hr1 => ?_)
  refine k_X10_170 (pc := 152) cx (c_X10_sends0 l G _ p0 y1 y2 y3 hk_p0 r1 hr1) hk_p0 ⟨by decide, by decide⟩ ⟨Nat.zero_le _, Nat.zero_le _⟩ (Nat.le_of_ble_eq_true rfl) dX10_hears_152 ?_
  refine f_aload_n (pc := 155) cx dX10_hears_155 rfl rfl ?_
  refine f_iload_n (pc := 156) cx dX10_hears_156 rfl rfl ?_
  refine f_bipush (pc := 157) cx dX10_hears_157 kc_bipush_6 ?_
  refine f_aload_n (pc := 159) cx dX10_hears_159 rfl rfl ?_
  refine f_iload_n (pc := 160) cx dX10_hears_160 rfl rfl ?_
  refine f_bipush (pc := 161) cx dX10_hears_161 kc_bipush_6 ?_
  refine f_bind (fun r2 hr2 => ?_)
  refine k_X10_272 (pc := 163) cx (c_X10_senderOf l G _ o0 x1 6 hk_o0 r2 hr2) hk_o0 ⟨by decide, by decide⟩ ⟨Nat.zero_le _, Nat.zero_le _⟩ (Nat.le_of_ble_eq_true rfl) dX10_hears_163 ?_
  refine f_iconst (pc := 166) cx dX10_hears_166 kc_iconst_1 ?_
  refine f_iadd (pc := 167) cx dX10_hears_167 ?_
  refine f_bind (fun r3 hr3 => ?_)
  refine k_X10_170 (pc := 168) cx (c_X10_sends0 l G _ o0 x1 6 (r2.1 + 1) hk_o0 r3 hr3) hk_o0 ⟨by decide, by decide⟩ ⟨Nat.zero_le _, Nat.zero_le _⟩ (Nat.le_of_ble_eq_true rfl) dX10_hears_168 ?_
  refine f_aload_n (pc := 171) cx dX10_hears_171 rfl rfl ?_
  refine f_iload_n (pc := 172) cx dX10_hears_172 rfl rfl ?_
  refine f_bipush (pc := 173) cx dX10_hears_173 kc_bipush_7 ?_
  refine f_aload_n (pc := 175) cx dX10_hears_175 rfl rfl ?_
  refine g_X10_30 (pc := 176) cx hk_o0 dX10_hears_176 ?_
  refine f_iconst (pc := 179) cx dX10_hears_179 kc_iconst_0 ?_
  refine f_ialdk (pc := 180) (j := 0) (n := 3715) cx (kf_9_20 hk_o0) (by decide) (by decide) kl_0 dX10_hears_180 ?_
  refine f_bind (fun r4 hr4 => ?_)
  refine k_X10_170 (pc := 181) cx (c_X10_sends0 l G _ o0 x1 7 (r3 (o0 + 6) 0) hk_o0 r4 hr4) hk_o0 ⟨by decide, by decide⟩ ⟨Nat.zero_le _, Nat.zero_le _⟩ (Nat.le_of_ble_eq_true rfl) dX10_hears_181 ?_
  exact f_vret cx hr hlk dX10_hears_184
set_option maxRecDepth 4000 in
theorem s_X10_hears_133 {p : Program} {l : Launch} {e : Env} {s : State} {m : MethodId} {args : Array Value} {below : List Frame} {meth : Method} {c : Code} {G : GT} (cx : CX p s m args c cX10_hears 5 RX10 G) (hr : meth.sig.returnType = none) (hlk : meth.locks = false) (h : Hp) (o0 : Nat) (x1 : Int32) (x3 : Int32) (hk_o0 : kd o0 = 9) : PF p l e (rmc 1 23) s m args below meth c 5 G 0 0 (QV below G args s) 133 [some (.ref (gad G o0)), some (.int x1), none, some (.int x3), none] [] h (q_X10_hears_133 h o0 x1 x3) := by
  unfold q_X10_hears_133
  refine f_aload_n (pc := 133) cx dX10_hears_133 rfl rfl ?_
  refine f_iload_n (pc := 134) cx dX10_hears_134 rfl rfl ?_
  refine f_iconst (pc := 135) cx dX10_hears_135 kc_iconst_2 ?_
  refine f_iload_n (pc := 136) cx dX10_hears_136 rfl rfl ?_
  refine f_iconst (pc := 137) cx dX10_hears_137 kc_iconst_2 ?_
  refine f_idiv (pc := 138) cx dX10_hears_138 (by decide) ?_
  refine f_bipush (pc := 139) cx dX10_hears_139 kc_bipush_100 ?_
  refine f_icmp_ge (pc := 141) (tgt := 149) cx dX10_hears_141 (by decide) (fun _ => ?_) (fun _ => ?_)
  · refine f_iload_n (pc := 149) cx dX10_hears_149 rfl rfl ?_
    refine f_iconst (pc := 150) cx dX10_hears_150 kc_iconst_2 ?_
    refine f_idiv (pc := 151) cx dX10_hears_151 (by decide) ?_
    exact f_weak (LSb.s (LSb.s (LSb.n (LSb.n (LSb.n LSb.e))))) (s_X10_hears_152 cx hr hlk _ o0 x1 o0 x1 2 (x3 / 2) hk_o0 hk_o0)
  · refine f_bipush (pc := 144) cx dX10_hears_144 kc_bipush_100 ?_
    refine f_goto (pc := 146) (tgt := 152) cx dX10_hears_146 (by decide) ?_
    exact f_weak (LSb.s (LSb.s (LSb.n (LSb.n (LSb.n LSb.e))))) (s_X10_hears_152 cx hr hlk _ o0 x1 o0 x1 2 100 hk_o0 hk_o0)
set_option maxRecDepth 4000 in
theorem s_X10_hears_97 {p : Program} {l : Launch} {e : Env} {s : State} {m : MethodId} {args : Array Value} {below : List Frame} {meth : Method} {c : Code} {G : GT} (cx : CX p s m args c cX10_hears 5 RX10 G) (hr : meth.sig.returnType = none) (hlk : meth.locks = false) (h : Hp) (o0 : Nat) (x1 : Int32) (x3 : Int32) (hk_o0 : kd o0 = 9) : PF p l e (rmc 1 23) s m args below meth c 5 G 0 0 (QV below G args s) 97 [some (.ref (gad G o0)), some (.int x1), none, some (.int x3), none] [] h (q_X10_hears_97 h o0 x1 x3) := by
  unfold q_X10_hears_97
  refine f_aload_n (pc := 97) cx dX10_hears_97 rfl rfl ?_
  refine f_iload_n (pc := 98) cx dX10_hears_98 rfl rfl ?_
  refine f_bipush (pc := 99) cx dX10_hears_99 kc_bipush_7 ?_
  refine f_bind (fun r5 hr5 => ?_)
  refine k_X10_272 (pc := 101) cx (c_X10_senderOf l G _ o0 x1 7 hk_o0 r5 hr5) hk_o0 ⟨by decide, by decide⟩ ⟨Nat.zero_le _, Nat.zero_le _⟩ (Nat.le_of_ble_eq_true rfl) dX10_hears_101 ?_
  refine f_bipush (pc := 104) cx dX10_hears_104 kc_bipush_m2 ?_
  refine f_icmp_eq (pc := 106) (tgt := 133) cx dX10_hears_106 (by decide) (fun _ => ?_) (fun _ => ?_)
  · exact f_weak (LSb.s (LSb.s (LSb.n (LSb.s (LSb.n LSb.e))))) (s_X10_hears_133 cx hr hlk _ o0 x1 x3 hk_o0)
  · refine f_aload_n (pc := 109) cx dX10_hears_109 rfl rfl ?_
    refine g_X10_30 (pc := 110) cx hk_o0 dX10_hears_110 ?_
    refine f_iconst (pc := 113) cx dX10_hears_113 kc_iconst_0 ?_
    refine f_ialdk (pc := 114) (j := 0) (n := 3715) cx (kf_9_20 hk_o0) (by decide) (by decide) kl_0 dX10_hears_114 ?_
    refine f_aload_n (pc := 115) cx dX10_hears_115 rfl rfl ?_
    refine f_iload_n (pc := 116) cx dX10_hears_116 rfl rfl ?_
    refine f_bipush (pc := 117) cx dX10_hears_117 kc_bipush_7 ?_
    refine f_bind (fun r6 hr6 => ?_)
    refine k_X10_272 (pc := 119) cx (c_X10_senderOf l G _ o0 x1 7 hk_o0 r6 hr6) hk_o0 ⟨by decide, by decide⟩ ⟨Nat.zero_le _, Nat.zero_le _⟩ (Nat.le_of_ble_eq_true rfl) dX10_hears_119 ?_
    refine f_isub (pc := 122) cx dX10_hears_122 ?_
    refine f_aload_n (pc := 123) cx dX10_hears_123 rfl rfl ?_
    refine f_iload_n (pc := 124) cx dX10_hears_124 rfl rfl ?_
    refine f_iconst (pc := 125) cx dX10_hears_125 kc_iconst_3 ?_
    refine f_bind (fun r7 hr7 => ?_)
    refine k_X10_272 (pc := 126) cx (c_X10_senderOf l G _ o0 x1 3 hk_o0 r7 hr7) hk_o0 ⟨by decide, by decide⟩ ⟨Nat.zero_le _, Nat.zero_le _⟩ (Nat.le_of_ble_eq_true rfl) dX10_hears_126 ?_
    refine f_icmp_ge (pc := 129) (tgt := 133) cx dX10_hears_129 (by decide) (fun _ => ?_) (fun _ => ?_)
    · exact f_weak (LSb.s (LSb.s (LSb.n (LSb.s (LSb.n LSb.e))))) (s_X10_hears_133 cx hr hlk _ o0 x1 x3 hk_o0)
    · exact f_vret cx hr hlk dX10_hears_132
set_option maxRecDepth 4000 in
theorem s_X10_hears {p : Program} {l : Launch} {e : Env} {s : State} {m : MethodId} {args : Array Value} {below : List Frame} {meth : Method} {c : Code} {G : GT} (cx : CX p s m args c cX10_hears 5 RX10 G) (hr : meth.sig.returnType = none) (hlk : meth.locks = false) (h : Hp) (o0 : Nat) (x1 : Int32) (x2 : Int32) (hk_o0 : kd o0 = 9) : PF p l e (rmc 1 23) s m args below meth c 5 G 0 0 (QV below G args s) 0 [some (.ref (gad G o0)), some (.int x1), some (.int x2), none, none] [] h (p_X10_hears h o0 x1 x2) := by
  unfold p_X10_hears
  refine f_aload_n (pc := 0) cx dX10_hears_0 rfl rfl ?_
  refine f_iload_n (pc := 1) cx dX10_hears_1 rfl rfl ?_
  refine f_bipush (pc := 2) cx dX10_hears_2 kc_bipush_11 ?_
  refine f_iconst (pc := 4) cx dX10_hears_4 kc_iconst_1 ?_
  refine f_bind (fun r8 hr8 => ?_)
  refine k_X10_197 (pc := 5) cx (c_X10_frames l G _ o0 x2 11 1 hk_o0 r8 hr8) hk_o0 ⟨by decide, by decide⟩ ⟨Nat.zero_le _, Nat.zero_le _⟩ (Nat.le_of_ble_eq_true rfl) dX10_hears_5 ?_
  refine f_aload_n (pc := 8) cx dX10_hears_8 rfl rfl ?_
  refine f_iload_n (pc := 9) cx dX10_hears_9 rfl rfl ?_
  refine f_bipush (pc := 10) cx dX10_hears_10 kc_bipush_8 ?_
  refine f_aload_n (pc := 12) cx dX10_hears_12 rfl rfl ?_
  refine f_iload_n (pc := 13) cx dX10_hears_13 rfl rfl ?_
  refine f_bipush (pc := 14) cx dX10_hears_14 kc_bipush_8 ?_
  refine f_bind (fun r9 hr9 => ?_)
  refine k_X10_272 (pc := 16) cx (c_X10_senderOf l G _ o0 x1 8 hk_o0 r9 hr9) hk_o0 ⟨by decide, by decide⟩ ⟨Nat.zero_le _, Nat.zero_le _⟩ (Nat.le_of_ble_eq_true rfl) dX10_hears_16 ?_
  refine f_iconst (pc := 19) cx dX10_hears_19 kc_iconst_1 ?_
  refine f_iadd (pc := 20) cx dX10_hears_20 ?_
  refine f_bind (fun r10 hr10 => ?_)
  refine k_X10_170 (pc := 21) cx (c_X10_sends0 l G _ o0 x1 8 (r9.1 + 1) hk_o0 r10 hr10) hk_o0 ⟨by decide, by decide⟩ ⟨Nat.zero_le _, Nat.zero_le _⟩ (Nat.le_of_ble_eq_true rfl) dX10_hears_21 ?_
  refine f_aload_n (pc := 24) cx dX10_hears_24 rfl rfl ?_
  refine f_iload_n (pc := 25) cx dX10_hears_25 rfl rfl ?_
  refine f_iconst (pc := 26) cx dX10_hears_26 kc_iconst_5 ?_
  refine f_aload_n (pc := 27) cx dX10_hears_27 rfl rfl ?_
  refine f_iload_n (pc := 28) cx dX10_hears_28 rfl rfl ?_
  refine f_iconst (pc := 29) cx dX10_hears_29 kc_iconst_5 ?_
  refine f_bind (fun r11 hr11 => ?_)
  refine k_X10_272 (pc := 30) cx (c_X10_senderOf l G _ o0 x1 5 hk_o0 r11 hr11) hk_o0 ⟨by decide, by decide⟩ ⟨Nat.zero_le _, Nat.zero_le _⟩ (Nat.le_of_ble_eq_true rfl) dX10_hears_30 ?_
  refine f_iconst (pc := 33) cx dX10_hears_33 kc_iconst_1 ?_
  refine f_isub (pc := 34) cx dX10_hears_34 ?_
  refine f_bind (fun r12 hr12 => ?_)
  refine k_X10_170 (pc := 35) cx (c_X10_sends0 l G _ o0 x1 5 (r11.1 - 1) hk_o0 r12 hr12) hk_o0 ⟨by decide, by decide⟩ ⟨Nat.zero_le _, Nat.zero_le _⟩ (Nat.le_of_ble_eq_true rfl) dX10_hears_35 ?_
  refine f_aload_n (pc := 38) cx dX10_hears_38 rfl rfl ?_
  refine f_iload_n (pc := 39) cx dX10_hears_39 rfl rfl ?_
  refine f_iconst (pc := 40) cx dX10_hears_40 kc_iconst_2 ?_
  refine f_bind (fun r13 hr13 => ?_)
  refine k_X10_272 (pc := 41) cx (c_X10_senderOf l G _ o0 x1 2 hk_o0 r13 hr13) hk_o0 ⟨by decide, by decide⟩ ⟨Nat.zero_le _, Nat.zero_le _⟩ (Nat.le_of_ble_eq_true rfl) dX10_hears_41 ?_
  refine f_istore3 (pc := 44) cx dX10_hears_44 (by decide) rfl ?_
  refine f_aload_n (pc := 45) cx dX10_hears_45 rfl rfl ?_
  refine f_iload_n (pc := 46) cx dX10_hears_46 rfl rfl ?_
  refine f_bipush (pc := 47) cx dX10_hears_47 kc_bipush_6 ?_
  refine f_bind (fun r14 hr14 => ?_)
  refine k_X10_194 (pc := 49) cx (c_X10_frameOf l G _ o0 x2 6 hk_o0 r14 hr14) hk_o0 ⟨by decide, by decide⟩ ⟨Nat.zero_le _, Nat.zero_le _⟩ (Nat.le_of_ble_eq_true rfl) dX10_hears_49 ?_
  refine f_iconst (pc := 52) cx dX10_hears_52 kc_iconst_1 ?_
  refine f_icmp_ne (pc := 53) (tgt := 97) cx dX10_hears_53 (by decide) (fun _ => ?_) (fun _ => ?_)
  · refine f_aload_n (pc := 56) cx dX10_hears_56 rfl rfl ?_
    refine f_iload_n (pc := 57) cx dX10_hears_57 rfl rfl ?_
    refine f_iconst (pc := 58) cx dX10_hears_58 kc_iconst_5 ?_
    refine f_bind (fun r15 hr15 => ?_)
    refine k_X10_194 (pc := 59) cx (c_X10_frameOf l G _ o0 x2 5 hk_o0 r15 hr15) hk_o0 ⟨by decide, by decide⟩ ⟨Nat.zero_le _, Nat.zero_le _⟩ (Nat.le_of_ble_eq_true rfl) dX10_hears_59 ?_
    refine f_if_ne (pc := 62) (tgt := 97) cx dX10_hears_62 (by decide) (fun _ => ?_) (fun _ => ?_)
    · refine f_iload_n (pc := 65) cx dX10_hears_65 rfl rfl ?_
      refine f_sipush (pc := 66) cx dX10_hears_66 kc_sipush_10000 ?_
      refine f_iload_n (pc := 69) cx dX10_hears_69 rfl rfl ?_
      refine f_need (fun c16 => ?_)
      refine f_idiv (pc := 70) cx dX10_hears_70 c16 ?_
      refine f_iadd (pc := 71) cx dX10_hears_71 ?_
      refine f_nvi (fun v17 => ?_)
      refine f_istore4 (pc := 72) cx dX10_hears_72 (by decide) rfl ?_
      refine f_aload_n (pc := 74) cx dX10_hears_74 rfl rfl ?_
      refine f_iload_n (pc := 75) cx dX10_hears_75 rfl rfl ?_
      refine f_iconst (pc := 76) cx dX10_hears_76 kc_iconst_2 ?_
      refine f_iload (pc := 77) cx dX10_hears_77 rfl ?_
      refine f_sipush (pc := 79) cx dX10_hears_79 kc_sipush_2000 ?_
      refine f_icmp_le (pc := 82) (tgt := 91) cx dX10_hears_82 (by decide) (fun _ => ?_) (fun _ => ?_)
      · refine f_iload (pc := 91) cx dX10_hears_91 rfl ?_
        refine f_bind (fun r18 hr18 => ?_)
        refine k_X10_170 (pc := 93) cx (c_X10_sends0 l G _ o0 x1 2 v17 hk_o0 r18 hr18) hk_o0 ⟨by decide, by decide⟩ ⟨Nat.zero_le _, Nat.zero_le _⟩ (Nat.le_of_ble_eq_true rfl) dX10_hears_93 ?_
        exact f_vret cx hr hlk dX10_hears_96
      · refine f_sipush (pc := 85) cx dX10_hears_85 kc_sipush_2000 ?_
        refine f_goto (pc := 88) (tgt := 93) cx dX10_hears_88 (by decide) ?_
        refine f_bind (fun r19 hr19 => ?_)
        refine k_X10_170 (pc := 93) cx (c_X10_sends0 l G _ o0 x1 2 2000 hk_o0 r19 hr19) hk_o0 ⟨by decide, by decide⟩ ⟨Nat.zero_le _, Nat.zero_le _⟩ (Nat.le_of_ble_eq_true rfl) dX10_hears_93 ?_
        exact f_vret cx hr hlk dX10_hears_96
    · exact f_weak (LSb.s (LSb.s (LSb.n (LSb.s (LSb.n LSb.e))))) (s_X10_hears_97 cx hr hlk _ o0 x1 r13.1 hk_o0)
  · exact f_weak (LSb.s (LSb.s (LSb.n (LSb.s (LSb.n LSb.e))))) (s_X10_hears_97 cx hr hlk _ o0 x1 r13.1 hk_o0)
set_option maxRecDepth 4000 in
theorem c_X10_hears (l : Launch) (G : GT) (h : Hp) (o0 : Nat) (x1 : Int32) (x2 : Int32) (hk_o0 : kd o0 = 9) : CtV l G yX10_hears cX10_hears 5 none 1 23 [.ref (gad G o0), .int x1, .int x2] h (p_X10_hears h o0 x1 x2) := fun a ha => Ct.of (lv := [some (.ref (gad G o0)), some (.int x1), some (.int x2), none, none]) (by decide) rfl (Nat.le_of_ble_eq_true rfl) rfl (fun p e s m args below meth c cx hr hlk => s_X10_hears cx hr hlk h o0 x1 x2 hk_o0 a ha)
def p_X10_sender_ (h : Hp) (o0 : Nat) (x1 : Int32) (x2 : Int32) : Option (Int32 × Hp) :=
  nv (hp h o0 0 0) fun h1 => if x1 < 0 then (some ((-1), h1)) else (if (h1 (o0 + 6) 3477) ≤ x1 then (some ((-1), h1)) else (if x2 < 0 then (some ((-1), h1)) else (if 8 < x2 then (some ((-1), h1)) else (Option.bind (p_X10_senderOf h1 o0 x1 x2) fun r2 => some (r2.1, r2.2)))))
set_option maxRecDepth 4000 in
theorem s_X10_sender_ {p : Program} {l : Launch} {e : Env} {s : State} {m : MethodId} {args : Array Value} {below : List Frame} {meth : Method} {c : Code} {G : GT} (cx : CX p s m args c cX10_sender_ 3 RX10 G) (hr : meth.sig.returnType = (some .int)) (hlk : meth.locks = false) (h : Hp) (o0 : Nat) (x1 : Int32) (x2 : Int32) (hk_o0 : kd o0 = 9) : PF p l e (rmc 1 22) s m args below meth c 3 G 0 0 (QI below G args s) 0 [some (.ref (gad G o0)), some (.int x1), some (.int x2)] [] h (p_X10_sender_ h o0 x1 x2) := by
  unfold p_X10_sender_
  refine f_aload_n (pc := 0) cx dX10_sender__0 rfl rfl ?_
  refine f_iconst (pc := 1) cx dX10_sender__1 kc_iconst_0 ?_
  refine u_X10_45 (pc := 2) cx hk_o0 dX10_sender__2 ?_
  refine f_nvh (fun h1 => ?_)
  refine f_iload_n (pc := 5) cx dX10_sender__5 rfl rfl ?_
  refine f_if_lt (pc := 6) (tgt := 40) cx dX10_sender__6 (by decide) (fun _ => ?_) (fun _ => ?_)
  · refine f_iconst (pc := 40) cx dX10_sender__40 kc_iconst_m1 ?_
    exact f_iret cx hr hlk rfl dX10_sender__41
  · refine f_iload_n (pc := 9) cx dX10_sender__9 rfl rfl ?_
    refine f_aload_n (pc := 10) cx dX10_sender__10 rfl rfl ?_
    refine g_X10_30 (pc := 11) cx hk_o0 dX10_sender__11 ?_
    refine f_sipush (pc := 14) cx dX10_sender__14 kc_sipush_3477 ?_
    refine f_ialdk (pc := 17) (j := 3477) (n := 3715) cx (kf_9_20 hk_o0) (by decide) (by decide) kl_3477 dX10_sender__17 ?_
    refine f_icmp_ge (pc := 18) (tgt := 40) cx dX10_sender__18 (by decide) (fun _ => ?_) (fun _ => ?_)
    · refine f_iconst (pc := 40) cx dX10_sender__40 kc_iconst_m1 ?_
      exact f_iret cx hr hlk rfl dX10_sender__41
    · refine f_iload_n (pc := 21) cx dX10_sender__21 rfl rfl ?_
      refine f_if_lt (pc := 22) (tgt := 40) cx dX10_sender__22 (by decide) (fun _ => ?_) (fun _ => ?_)
      · refine f_iconst (pc := 40) cx dX10_sender__40 kc_iconst_m1 ?_
        exact f_iret cx hr hlk rfl dX10_sender__41
      · refine f_iload_n (pc := 25) cx dX10_sender__25 rfl rfl ?_
        refine f_bipush (pc := 26) cx dX10_sender__26 kc_bipush_8 ?_
        refine f_icmp_gt (pc := 28) (tgt := 40) cx dX10_sender__28 (by decide) (fun _ => ?_) (fun _ => ?_)
        · refine f_iconst (pc := 40) cx dX10_sender__40 kc_iconst_m1 ?_
          exact f_iret cx hr hlk rfl dX10_sender__41
        · refine f_aload_n (pc := 31) cx dX10_sender__31 rfl rfl ?_
          refine f_iload_n (pc := 32) cx dX10_sender__32 rfl rfl ?_
          refine f_iload_n (pc := 33) cx dX10_sender__33 rfl rfl ?_
          refine f_bind (fun r2 hr2 => ?_)
          refine k_X10_272 (pc := 34) cx (c_X10_senderOf l G _ o0 x1 x2 hk_o0 r2 hr2) hk_o0 ⟨by decide, by decide⟩ ⟨Nat.zero_le _, Nat.zero_le _⟩ (Nat.le_of_ble_eq_true rfl) dX10_sender__34 ?_
          refine f_goto (pc := 37) (tgt := 41) cx dX10_sender__37 (by decide) ?_
          exact f_iret cx hr hlk rfl dX10_sender__41
set_option maxRecDepth 4000 in
theorem c_X10_sender_ (l : Launch) (G : GT) (h : Hp) (o0 : Nat) (x1 : Int32) (x2 : Int32) (hk_o0 : kd o0 = 9) : CtI l G yX10_sender_ cX10_sender_ 3 (some .int) 1 22 [.ref (gad G o0), .int x1, .int x2] h (p_X10_sender_ h o0 x1 x2) := fun a ha => Ct.of (lv := [some (.ref (gad G o0)), some (.int x1), some (.int x2)]) (by decide) rfl (Nat.le_of_ble_eq_true rfl) rfl (fun p e s m args below meth c cx hr hlk => s_X10_sender_ cx hr hlk h o0 x1 x2 hk_o0 a ha)
def p_X10_whose (h : Hp) (o0 : Nat) (x1 : Int32) : Option (Int32 × Hp) :=
  nv (hp h o0 0 0) fun h1 => if x1 < 0 then (some ((-1), h1)) else (if (h1 (o0 + 6) 1) ≤ x1 then (some ((-1), h1)) else (Option.bind (p_X10_frameOf h1 o0 x1 10) fun r2 => some (r2.1, r2.2)))
set_option maxRecDepth 4000 in
theorem s_X10_whose {p : Program} {l : Launch} {e : Env} {s : State} {m : MethodId} {args : Array Value} {below : List Frame} {meth : Method} {c : Code} {G : GT} (cx : CX p s m args c cX10_whose 2 RX10 G) (hr : meth.sig.returnType = (some .int)) (hlk : meth.locks = false) (h : Hp) (o0 : Nat) (x1 : Int32) (hk_o0 : kd o0 = 9) : PF p l e (rmc 1 22) s m args below meth c 2 G 0 0 (QI below G args s) 0 [some (.ref (gad G o0)), some (.int x1)] [] h (p_X10_whose h o0 x1) := by
  unfold p_X10_whose
  refine f_aload_n (pc := 0) cx dX10_whose_0 rfl rfl ?_
  refine f_iconst (pc := 1) cx dX10_whose_1 kc_iconst_0 ?_
  refine u_X10_45 (pc := 2) cx hk_o0 dX10_whose_2 ?_
  refine f_nvh (fun h1 => ?_)
  refine f_iload_n (pc := 5) cx dX10_whose_5 rfl rfl ?_
  refine f_if_lt (pc := 6) (tgt := 29) cx dX10_whose_6 (by decide) (fun _ => ?_) (fun _ => ?_)
  · refine f_iconst (pc := 29) cx dX10_whose_29 kc_iconst_m1 ?_
    exact f_iret cx hr hlk rfl dX10_whose_30
  · refine f_iload_n (pc := 9) cx dX10_whose_9 rfl rfl ?_
    refine f_aload_n (pc := 10) cx dX10_whose_10 rfl rfl ?_
    refine g_X10_30 (pc := 11) cx hk_o0 dX10_whose_11 ?_
    refine f_iconst (pc := 14) cx dX10_whose_14 kc_iconst_1 ?_
    refine f_ialdk (pc := 15) (j := 1) (n := 3715) cx (kf_9_20 hk_o0) (by decide) (by decide) kl_1 dX10_whose_15 ?_
    refine f_icmp_ge (pc := 16) (tgt := 29) cx dX10_whose_16 (by decide) (fun _ => ?_) (fun _ => ?_)
    · refine f_iconst (pc := 29) cx dX10_whose_29 kc_iconst_m1 ?_
      exact f_iret cx hr hlk rfl dX10_whose_30
    · refine f_aload_n (pc := 19) cx dX10_whose_19 rfl rfl ?_
      refine f_iload_n (pc := 20) cx dX10_whose_20 rfl rfl ?_
      refine f_bipush (pc := 21) cx dX10_whose_21 kc_bipush_10 ?_
      refine f_bind (fun r2 hr2 => ?_)
      refine k_X10_194 (pc := 23) cx (c_X10_frameOf l G _ o0 x1 10 hk_o0 r2 hr2) hk_o0 ⟨by decide, by decide⟩ ⟨Nat.zero_le _, Nat.zero_le _⟩ (Nat.le_of_ble_eq_true rfl) dX10_whose_23 ?_
      refine f_goto (pc := 26) (tgt := 30) cx dX10_whose_26 (by decide) ?_
      exact f_iret cx hr hlk rfl dX10_whose_30
set_option maxRecDepth 4000 in
theorem c_X10_whose (l : Launch) (G : GT) (h : Hp) (o0 : Nat) (x1 : Int32) (hk_o0 : kd o0 = 9) : CtI l G yX10_whose cX10_whose 2 (some .int) 1 22 [.ref (gad G o0), .int x1] h (p_X10_whose h o0 x1) := fun a ha => Ct.of (lv := [some (.ref (gad G o0)), some (.int x1)]) (by decide) rfl (Nat.le_of_ble_eq_true rfl) rfl (fun p e s m args below meth c cx hr hlk => s_X10_whose cx hr hlk h o0 x1 hk_o0 a ha)
def b_X10_windows_4 (o0 : Nat) (k4 : Hp × Int32 × Int32 → Option (Int32 × Hp)) (q : Hp × Int32 × Int32) : Option (Int32 × Hp) :=
  if (q.1 (o0 + 6) 3477) ≤ q.2.2 then (some (q.2.1, q.1)) else (Option.bind (p_X10_senderOf q.1 o0 q.2.2 2) fun r1 => nv (q.2.1 + r1.1) fun v2 => k4 (r1.2, v2, q.2.2 + 1))
def p_X10_windows (h : Hp) (o0 : Nat) : Option (Int32 × Hp) :=
  lp (b_X10_windows_4 o0) FU (h, 0, 0)
set_option maxRecDepth 4000 in
theorem s_X10_windows_4 {p : Program} {l : Launch} {e : Env} {s : State} {m : MethodId} {args : Array Value} {below : List Frame} {meth : Method} {c : Code} {G : GT} (cx : CX p s m args c cX10_windows 3 RX10 G) (hr : meth.sig.returnType = (some .int)) (hlk : meth.locks = false) (o0 : Nat) (hk_o0 : kd o0 = 9) : ∀ (n : Nat) (q : Hp × Int32 × Int32), PF p l e (rmc 1 22) s m args below meth c 3 G 0 0 (QI below G args s) 4 [some (.ref (gad G o0)), some (.int q.2.1), some (.int q.2.2)] [] q.1 (lp (b_X10_windows_4 o0) n q) := by
  refine f_lp (lvf := fun (q : Hp × Int32 × Int32) => [some (.ref (gad G o0)), some (.int q.2.1), some (.int q.2.2)]) (hf := fun (q : Hp × Int32 × Int32) => q.1) (fun k4 hk4 q => ?_)
  show PF p l e (rmc 1 22) s m args below meth c 3 G 0 0 (QI below G args s) 4 [some (.ref (gad G o0)), some (.int q.2.1), some (.int q.2.2)] [] q.1 (b_X10_windows_4 o0 k4 q)
  unfold b_X10_windows_4
  refine f_iload_n (pc := 4) cx dX10_windows_4 rfl rfl ?_
  refine f_aload_n (pc := 5) cx dX10_windows_5 rfl rfl ?_
  refine g_X10_30 (pc := 6) cx hk_o0 dX10_windows_6 ?_
  refine f_sipush (pc := 9) cx dX10_windows_9 kc_sipush_3477 ?_
  refine f_ialdk (pc := 12) (j := 3477) (n := 3715) cx (kf_9_20 hk_o0) (by decide) (by decide) kl_3477 dX10_windows_12 ?_
  refine f_icmp_ge (pc := 13) (tgt := 31) cx dX10_windows_13 (by decide) (fun _ => ?_) (fun _ => ?_)
  · refine f_iload_n (pc := 31) cx dX10_windows_31 rfl rfl ?_
    exact f_iret cx hr hlk rfl dX10_windows_32
  · refine f_iload_n (pc := 16) cx dX10_windows_16 rfl rfl ?_
    refine f_aload_n (pc := 17) cx dX10_windows_17 rfl rfl ?_
    refine f_iload_n (pc := 18) cx dX10_windows_18 rfl rfl ?_
    refine f_iconst (pc := 19) cx dX10_windows_19 kc_iconst_2 ?_
    refine f_bind (fun r1 hr1 => ?_)
    refine k_X10_272 (pc := 20) cx (c_X10_senderOf l G _ o0 q.2.2 2 hk_o0 r1 hr1) hk_o0 ⟨by decide, by decide⟩ ⟨Nat.zero_le _, Nat.zero_le _⟩ (Nat.le_of_ble_eq_true rfl) dX10_windows_20 ?_
    refine f_iadd (pc := 23) cx dX10_windows_23 ?_
    refine f_nvi (fun v2 => ?_)
    refine f_istore1 (pc := 24) cx dX10_windows_24 (by decide) rfl ?_
    refine f_iinc2 (pc := 25) cx dX10_windows_25 kc_iconst_1 (by decide) rfl ?_
    refine f_goto (pc := 28) (tgt := 4) cx dX10_windows_28 (by decide) ?_
    exact f_weak (LSb.s (LSb.s (LSb.s LSb.e))) (hk4 (r1.2, v2, q.2.2 + 1))
set_option maxRecDepth 4000 in
theorem s_X10_windows {p : Program} {l : Launch} {e : Env} {s : State} {m : MethodId} {args : Array Value} {below : List Frame} {meth : Method} {c : Code} {G : GT} (cx : CX p s m args c cX10_windows 3 RX10 G) (hr : meth.sig.returnType = (some .int)) (hlk : meth.locks = false) (h : Hp) (o0 : Nat) (hk_o0 : kd o0 = 9) : PF p l e (rmc 1 22) s m args below meth c 3 G 0 0 (QI below G args s) 0 [some (.ref (gad G o0)), none, none] [] h (p_X10_windows h o0) := by
  unfold p_X10_windows
  refine f_iconst (pc := 0) cx dX10_windows_0 kc_iconst_0 ?_
  refine f_istore1 (pc := 1) cx dX10_windows_1 (by decide) rfl ?_
  refine f_iconst (pc := 2) cx dX10_windows_2 kc_iconst_0 ?_
  refine f_istore2 (pc := 3) cx dX10_windows_3 (by decide) rfl ?_
  exact f_weak (LSb.s (LSb.s (LSb.s LSb.e))) (s_X10_windows_4 cx hr hlk o0 hk_o0 FU (h, 0, 0))
set_option maxRecDepth 4000 in
theorem c_X10_windows (l : Launch) (G : GT) (h : Hp) (o0 : Nat) (hk_o0 : kd o0 = 9) : CtI l G yX10_windows cX10_windows 3 (some .int) 1 22 [.ref (gad G o0)] h (p_X10_windows h o0) := fun a ha => Ct.of (lv := [some (.ref (gad G o0)), none, none]) (by decide) rfl (Nat.le_of_ble_eq_true rfl) rfl (fun p e s m args below meth c cx hr hlk => s_X10_windows cx hr hlk h o0 hk_o0 a ha)
def b_X10_cuts_4 (o0 : Nat) (k4 : Hp × Int32 × Int32 → Option (Int32 × Hp)) (q : Hp × Int32 × Int32) : Option (Int32 × Hp) :=
  if (q.1 (o0 + 6) 3477) ≤ q.2.2 then (some (q.2.1, q.1)) else (Option.bind (p_X10_senderOf q.1 o0 q.2.2 6) fun r1 => nv (q.2.1 + r1.1) fun v2 => k4 (r1.2, v2, q.2.2 + 1))
def p_X10_cuts (h : Hp) (o0 : Nat) : Option (Int32 × Hp) :=
  lp (b_X10_cuts_4 o0) FU (h, 0, 0)
set_option maxRecDepth 4000 in
theorem s_X10_cuts_4 {p : Program} {l : Launch} {e : Env} {s : State} {m : MethodId} {args : Array Value} {below : List Frame} {meth : Method} {c : Code} {G : GT} (cx : CX p s m args c cX10_cuts 3 RX10 G) (hr : meth.sig.returnType = (some .int)) (hlk : meth.locks = false) (o0 : Nat) (hk_o0 : kd o0 = 9) : ∀ (n : Nat) (q : Hp × Int32 × Int32), PF p l e (rmc 1 22) s m args below meth c 3 G 0 0 (QI below G args s) 4 [some (.ref (gad G o0)), some (.int q.2.1), some (.int q.2.2)] [] q.1 (lp (b_X10_cuts_4 o0) n q) := by
  refine f_lp (lvf := fun (q : Hp × Int32 × Int32) => [some (.ref (gad G o0)), some (.int q.2.1), some (.int q.2.2)]) (hf := fun (q : Hp × Int32 × Int32) => q.1) (fun k4 hk4 q => ?_)
  show PF p l e (rmc 1 22) s m args below meth c 3 G 0 0 (QI below G args s) 4 [some (.ref (gad G o0)), some (.int q.2.1), some (.int q.2.2)] [] q.1 (b_X10_cuts_4 o0 k4 q)
  unfold b_X10_cuts_4
  refine f_iload_n (pc := 4) cx dX10_cuts_4 rfl rfl ?_
  refine f_aload_n (pc := 5) cx dX10_cuts_5 rfl rfl ?_
  refine g_X10_30 (pc := 6) cx hk_o0 dX10_cuts_6 ?_
  refine f_sipush (pc := 9) cx dX10_cuts_9 kc_sipush_3477 ?_
  refine f_ialdk (pc := 12) (j := 3477) (n := 3715) cx (kf_9_20 hk_o0) (by decide) (by decide) kl_3477 dX10_cuts_12 ?_
  refine f_icmp_ge (pc := 13) (tgt := 32) cx dX10_cuts_13 (by decide) (fun _ => ?_) (fun _ => ?_)
  · refine f_iload_n (pc := 32) cx dX10_cuts_32 rfl rfl ?_
    exact f_iret cx hr hlk rfl dX10_cuts_33
  · refine f_iload_n (pc := 16) cx dX10_cuts_16 rfl rfl ?_
    refine f_aload_n (pc := 17) cx dX10_cuts_17 rfl rfl ?_
    refine f_iload_n (pc := 18) cx dX10_cuts_18 rfl rfl ?_
    refine f_bipush (pc := 19) cx dX10_cuts_19 kc_bipush_6 ?_
    refine f_bind (fun r1 hr1 => ?_)
    refine k_X10_272 (pc := 21) cx (c_X10_senderOf l G _ o0 q.2.2 6 hk_o0 r1 hr1) hk_o0 ⟨by decide, by decide⟩ ⟨Nat.zero_le _, Nat.zero_le _⟩ (Nat.le_of_ble_eq_true rfl) dX10_cuts_21 ?_
    refine f_iadd (pc := 24) cx dX10_cuts_24 ?_
    refine f_nvi (fun v2 => ?_)
    refine f_istore1 (pc := 25) cx dX10_cuts_25 (by decide) rfl ?_
    refine f_iinc2 (pc := 26) cx dX10_cuts_26 kc_iconst_1 (by decide) rfl ?_
    refine f_goto (pc := 29) (tgt := 4) cx dX10_cuts_29 (by decide) ?_
    exact f_weak (LSb.s (LSb.s (LSb.s LSb.e))) (hk4 (r1.2, v2, q.2.2 + 1))
set_option maxRecDepth 4000 in
theorem s_X10_cuts {p : Program} {l : Launch} {e : Env} {s : State} {m : MethodId} {args : Array Value} {below : List Frame} {meth : Method} {c : Code} {G : GT} (cx : CX p s m args c cX10_cuts 3 RX10 G) (hr : meth.sig.returnType = (some .int)) (hlk : meth.locks = false) (h : Hp) (o0 : Nat) (hk_o0 : kd o0 = 9) : PF p l e (rmc 1 22) s m args below meth c 3 G 0 0 (QI below G args s) 0 [some (.ref (gad G o0)), none, none] [] h (p_X10_cuts h o0) := by
  unfold p_X10_cuts
  refine f_iconst (pc := 0) cx dX10_cuts_0 kc_iconst_0 ?_
  refine f_istore1 (pc := 1) cx dX10_cuts_1 (by decide) rfl ?_
  refine f_iconst (pc := 2) cx dX10_cuts_2 kc_iconst_0 ?_
  refine f_istore2 (pc := 3) cx dX10_cuts_3 (by decide) rfl ?_
  exact f_weak (LSb.s (LSb.s (LSb.s LSb.e))) (s_X10_cuts_4 cx hr hlk o0 hk_o0 FU (h, 0, 0))
set_option maxRecDepth 4000 in
theorem c_X10_cuts (l : Launch) (G : GT) (h : Hp) (o0 : Nat) (hk_o0 : kd o0 = 9) : CtI l G yX10_cuts cX10_cuts 3 (some .int) 1 22 [.ref (gad G o0)] h (p_X10_cuts h o0) := fun a ha => Ct.of (lv := [some (.ref (gad G o0)), none, none]) (by decide) rfl (Nat.le_of_ble_eq_true rfl) rfl (fun p e s m args below meth c cx hr hlk => s_X10_cuts cx hr hlk h o0 hk_o0 a ha)
def b_X10_bytesSent_4 (o0 : Nat) (k4 : Hp × Int32 × Int32 → Option (Int32 × Hp)) (q : Hp × Int32 × Int32) : Option (Int32 × Hp) :=
  if (q.1 (o0 + 6) 14) ≤ q.2.2 then (some (q.2.1, q.1)) else (if ib (2676 + q.2.2) 3715 then (Option.bind (p_X10_frameOf q.1 o0 (q.1 (o0 + 6) (Int32.toNatClampNeg (2676 + q.2.2))) 1) fun r2 => nv (q.2.1 + r2.1) fun v3 => k4 (r2.2, v3, q.2.2 + 1)) else none)
def p_X10_bytesSent (h : Hp) (o0 : Nat) (x1 : Int32) : Option (Int32 × Hp) :=
  lp (b_X10_bytesSent_4 o0) FU (h, 0, x1)
set_option maxRecDepth 4000 in
theorem s_X10_bytesSent_4 {p : Program} {l : Launch} {e : Env} {s : State} {m : MethodId} {args : Array Value} {below : List Frame} {meth : Method} {c : Code} {G : GT} (cx : CX p s m args c cX10_bytesSent 4 RX10 G) (hr : meth.sig.returnType = (some .int)) (hlk : meth.locks = false) (o0 : Nat) (hk_o0 : kd o0 = 9) : ∀ (n : Nat) (q : Hp × Int32 × Int32), PF p l e (rmc 1 22) s m args below meth c 4 G 0 0 (QI below G args s) 4 [some (.ref (gad G o0)), none, some (.int q.2.1), some (.int q.2.2)] [] q.1 (lp (b_X10_bytesSent_4 o0) n q) := by
  refine f_lp (lvf := fun (q : Hp × Int32 × Int32) => [some (.ref (gad G o0)), none, some (.int q.2.1), some (.int q.2.2)]) (hf := fun (q : Hp × Int32 × Int32) => q.1) (fun k4 hk4 q => ?_)
  show PF p l e (rmc 1 22) s m args below meth c 4 G 0 0 (QI below G args s) 4 [some (.ref (gad G o0)), none, some (.int q.2.1), some (.int q.2.2)] [] q.1 (b_X10_bytesSent_4 o0 k4 q)
  unfold b_X10_bytesSent_4
  refine f_iload_n (pc := 4) cx dX10_bytesSent_4 rfl rfl ?_
  refine f_aload_n (pc := 5) cx dX10_bytesSent_5 rfl rfl ?_
  refine g_X10_30 (pc := 6) cx hk_o0 dX10_bytesSent_6 ?_
  refine f_bipush (pc := 9) cx dX10_bytesSent_9 kc_bipush_14 ?_
  refine f_ialdk (pc := 11) (j := 14) (n := 3715) cx (kf_9_20 hk_o0) (by decide) (by decide) kl_14 dX10_bytesSent_11 ?_
  refine f_icmp_ge (pc := 12) (tgt := 39) cx dX10_bytesSent_12 (by decide) (fun _ => ?_) (fun _ => ?_)
  · refine f_iload_n (pc := 39) cx dX10_bytesSent_39 rfl rfl ?_
    exact f_iret cx hr hlk rfl dX10_bytesSent_40
  · refine f_iload_n (pc := 15) cx dX10_bytesSent_15 rfl rfl ?_
    refine f_aload_n (pc := 16) cx dX10_bytesSent_16 rfl rfl ?_
    refine f_aload_n (pc := 17) cx dX10_bytesSent_17 rfl rfl ?_
    refine g_X10_30 (pc := 18) cx hk_o0 dX10_bytesSent_18 ?_
    refine f_sipush (pc := 21) cx dX10_bytesSent_21 kc_sipush_2676 ?_
    refine f_iload_n (pc := 24) cx dX10_bytesSent_24 rfl rfl ?_
    refine f_iadd (pc := 25) cx dX10_bytesSent_25 ?_
    refine f_need (fun c1 => ?_)
    refine f_iald (pc := 26) (n := 3715) cx (kf_9_20 hk_o0) (by decide) c1 dX10_bytesSent_26 ?_
    refine f_iconst (pc := 27) cx dX10_bytesSent_27 kc_iconst_1 ?_
    refine f_bind (fun r2 hr2 => ?_)
    refine k_X10_194 (pc := 28) cx (c_X10_frameOf l G _ o0 (q.1 (o0 + 6) (Int32.toNatClampNeg (2676 + q.2.2))) 1 hk_o0 r2 hr2) hk_o0 ⟨by decide, by decide⟩ ⟨Nat.zero_le _, Nat.zero_le _⟩ (Nat.le_of_ble_eq_true rfl) dX10_bytesSent_28 ?_
    refine f_iadd (pc := 31) cx dX10_bytesSent_31 ?_
    refine f_nvi (fun v3 => ?_)
    refine f_istore2 (pc := 32) cx dX10_bytesSent_32 (by decide) rfl ?_
    refine f_iinc3 (pc := 33) cx dX10_bytesSent_33 kc_iconst_1 (by decide) rfl ?_
    refine f_goto (pc := 36) (tgt := 4) cx dX10_bytesSent_36 (by decide) ?_
    exact f_weak (LSb.s (LSb.n (LSb.s (LSb.s LSb.e)))) (hk4 (r2.2, v3, q.2.2 + 1))
set_option maxRecDepth 4000 in
theorem s_X10_bytesSent {p : Program} {l : Launch} {e : Env} {s : State} {m : MethodId} {args : Array Value} {below : List Frame} {meth : Method} {c : Code} {G : GT} (cx : CX p s m args c cX10_bytesSent 4 RX10 G) (hr : meth.sig.returnType = (some .int)) (hlk : meth.locks = false) (h : Hp) (o0 : Nat) (x1 : Int32) (hk_o0 : kd o0 = 9) : PF p l e (rmc 1 22) s m args below meth c 4 G 0 0 (QI below G args s) 0 [some (.ref (gad G o0)), some (.int x1), none, none] [] h (p_X10_bytesSent h o0 x1) := by
  unfold p_X10_bytesSent
  refine f_iconst (pc := 0) cx dX10_bytesSent_0 kc_iconst_0 ?_
  refine f_istore2 (pc := 1) cx dX10_bytesSent_1 (by decide) rfl ?_
  refine f_iload_n (pc := 2) cx dX10_bytesSent_2 rfl rfl ?_
  refine f_istore3 (pc := 3) cx dX10_bytesSent_3 (by decide) rfl ?_
  exact f_weak (LSb.s (LSb.n (LSb.s (LSb.s LSb.e)))) (s_X10_bytesSent_4 cx hr hlk o0 hk_o0 FU (h, 0, x1))
set_option maxRecDepth 4000 in
theorem c_X10_bytesSent (l : Launch) (G : GT) (h : Hp) (o0 : Nat) (x1 : Int32) (hk_o0 : kd o0 = 9) : CtI l G yX10_bytesSent cX10_bytesSent 4 (some .int) 1 22 [.ref (gad G o0), .int x1] h (p_X10_bytesSent h o0 x1) := fun a ha => Ct.of (lv := [some (.ref (gad G o0)), some (.int x1), none, none]) (by decide) rfl (Nat.le_of_ble_eq_true rfl) rfl (fun p e s m args below meth c cx hr hlk => s_X10_bytesSent cx hr hlk h o0 x1 hk_o0 a ha)
def p_X10_settle (h : Hp) (o0 : Nat) (x1 : Int32) (x2 : Int32) : Option (Int32 × Hp) :=
  nv (hp h o0 0 0) fun h1 => if x1 < 0 then (some ((-1), h1)) else (if 5 < x1 then (some ((-1), h1)) else (Option.bind (p_X10_leastOf h1 x1) fun r2 => if x2 < r2.1 then (some ((-1), r2.2)) else (Option.bind (p_X10_mostOf r2.2 x1) fun r3 => if x2 ≤ r3.1 then (if ib (4 + x1) 3715 then (nv (r3.2 (o0 + 6) (Int32.toNatClampNeg (4 + x1))) fun v5 => if ib (4 + x1) 3715 then (nv (hp r3.2 (o0 + 6) (Int32.toNatClampNeg (4 + x1)) x2) fun h7 => some (v5, h7)) else none) else none) else (some ((-1), r3.2)))))
set_option maxRecDepth 4000 in
theorem s_X10_settle {p : Program} {l : Launch} {e : Env} {s : State} {m : MethodId} {args : Array Value} {below : List Frame} {meth : Method} {c : Code} {G : GT} (cx : CX p s m args c cX10_settle 4 RX10 G) (hr : meth.sig.returnType = (some .int)) (hlk : meth.locks = false) (h : Hp) (o0 : Nat) (x1 : Int32) (x2 : Int32) (hk_o0 : kd o0 = 9) : PF p l e (rmc 1 20) s m args below meth c 4 G 0 0 (QI below G args s) 0 [some (.ref (gad G o0)), some (.int x1), some (.int x2), none] [] h (p_X10_settle h o0 x1 x2) := by
  unfold p_X10_settle
  refine f_aload_n (pc := 0) cx dX10_settle_0 rfl rfl ?_
  refine f_iconst (pc := 1) cx dX10_settle_1 kc_iconst_0 ?_
  refine u_X10_45 (pc := 2) cx hk_o0 dX10_settle_2 ?_
  refine f_nvh (fun h1 => ?_)
  refine f_iload_n (pc := 5) cx dX10_settle_5 rfl rfl ?_
  refine f_if_lt (pc := 6) (tgt := 30) cx dX10_settle_6 (by decide) (fun _ => ?_) (fun _ => ?_)
  · refine f_iconst (pc := 30) cx dX10_settle_30 kc_iconst_m1 ?_
    exact f_iret cx hr hlk rfl dX10_settle_31
  · refine f_iload_n (pc := 9) cx dX10_settle_9 rfl rfl ?_
    refine f_iconst (pc := 10) cx dX10_settle_10 kc_iconst_5 ?_
    refine f_icmp_gt (pc := 11) (tgt := 30) cx dX10_settle_11 (by decide) (fun _ => ?_) (fun _ => ?_)
    · refine f_iconst (pc := 30) cx dX10_settle_30 kc_iconst_m1 ?_
      exact f_iret cx hr hlk rfl dX10_settle_31
    · refine f_iload_n (pc := 14) cx dX10_settle_14 rfl rfl ?_
      refine f_iload_n (pc := 15) cx dX10_settle_15 rfl rfl ?_
      refine f_bind (fun r2 hr2 => ?_)
      refine k_X10_111 (pc := 16) cx (c_X10_leastOf l G _ x1 r2 hr2) ⟨by decide, by decide⟩ ⟨Nat.zero_le _, Nat.zero_le _⟩ (Nat.le_of_ble_eq_true rfl) dX10_settle_16 ?_
      refine f_icmp_lt (pc := 19) (tgt := 30) cx dX10_settle_19 (by decide) (fun _ => ?_) (fun _ => ?_)
      · refine f_iconst (pc := 30) cx dX10_settle_30 kc_iconst_m1 ?_
        exact f_iret cx hr hlk rfl dX10_settle_31
      · refine f_iload_n (pc := 22) cx dX10_settle_22 rfl rfl ?_
        refine f_iload_n (pc := 23) cx dX10_settle_23 rfl rfl ?_
        refine f_bind (fun r3 hr3 => ?_)
        refine k_X10_115 (pc := 24) cx (c_X10_mostOf l G _ x1 r3 hr3) ⟨by decide, by decide⟩ ⟨Nat.zero_le _, Nat.zero_le _⟩ (Nat.le_of_ble_eq_true rfl) dX10_settle_24 ?_
        refine f_icmp_le (pc := 27) (tgt := 32) cx dX10_settle_27 (by decide) (fun _ => ?_) (fun _ => ?_)
        · refine f_aload_n (pc := 32) cx dX10_settle_32 rfl rfl ?_
          refine g_X10_30 (pc := 33) cx hk_o0 dX10_settle_33 ?_
          refine f_iconst (pc := 36) cx dX10_settle_36 kc_iconst_4 ?_
          refine f_iload_n (pc := 37) cx dX10_settle_37 rfl rfl ?_
          refine f_iadd (pc := 38) cx dX10_settle_38 ?_
          refine f_need (fun c4 => ?_)
          refine f_iald (pc := 39) (n := 3715) cx (kf_9_20 hk_o0) (by decide) c4 dX10_settle_39 ?_
          refine f_nvi (fun v5 => ?_)
          refine f_istore3 (pc := 40) cx dX10_settle_40 (by decide) rfl ?_
          refine f_aload_n (pc := 41) cx dX10_settle_41 rfl rfl ?_
          refine g_X10_30 (pc := 42) cx hk_o0 dX10_settle_42 ?_
          refine f_iconst (pc := 45) cx dX10_settle_45 kc_iconst_4 ?_
          refine f_iload_n (pc := 46) cx dX10_settle_46 rfl rfl ?_
          refine f_iadd (pc := 47) cx dX10_settle_47 ?_
          refine f_iload_n (pc := 48) cx dX10_settle_48 rfl rfl ?_
          refine f_need (fun c6 => ?_)
          refine f_iast (pc := 49) (n := 3715) cx (kf_9_20 hk_o0) (by decide) c6 dX10_settle_49 ?_
          refine f_nvh (fun h7 => ?_)
          refine f_iload_n (pc := 50) cx dX10_settle_50 rfl rfl ?_
          exact f_iret cx hr hlk rfl dX10_settle_51
        · refine f_iconst (pc := 30) cx dX10_settle_30 kc_iconst_m1 ?_
          exact f_iret cx hr hlk rfl dX10_settle_31
set_option maxRecDepth 4000 in
theorem c_X10_settle (l : Launch) (G : GT) (h : Hp) (o0 : Nat) (x1 : Int32) (x2 : Int32) (hk_o0 : kd o0 = 9) : CtI l G yX10_settle cX10_settle 4 (some .int) 1 20 [.ref (gad G o0), .int x1, .int x2] h (p_X10_settle h o0 x1 x2) := fun a ha => Ct.of (lv := [some (.ref (gad G o0)), some (.int x1), some (.int x2), none]) (by decide) rfl (Nat.le_of_ble_eq_true rfl) rfl (fun p e s m args below meth c cx hr hlk => s_X10_settle cx hr hlk h o0 x1 x2 hk_o0 a ha)
def p_X10_isBucket (h : Hp) (o0 : Nat) (x1 : Int32) : Option (Int32 × Hp) :=
  if x1 < 0 then (some (0, h)) else (Option.bind (p_X10_buckets h o0) fun r1 => if r1.1 ≤ x1 then (some (0, r1.2)) else (some (1, r1.2)))
set_option maxRecDepth 4000 in
theorem s_X10_isBucket {p : Program} {l : Launch} {e : Env} {s : State} {m : MethodId} {args : Array Value} {below : List Frame} {meth : Method} {c : Code} {G : GT} (cx : CX p s m args c cX10_isBucket 2 RX10 G) (hr : meth.sig.returnType = (some .boolean)) (hlk : meth.locks = false) (h : Hp) (o0 : Nat) (x1 : Int32) (hk_o0 : kd o0 = 9) : PF p l e (rmc 1 20) s m args below meth c 2 G 0 0 (QI below G args s) 0 [some (.ref (gad G o0)), some (.int x1)] [] h (p_X10_isBucket h o0 x1) := by
  unfold p_X10_isBucket
  refine f_iload_n (pc := 0) cx dX10_isBucket_0 rfl rfl ?_
  refine f_if_lt (pc := 1) (tgt := 16) cx dX10_isBucket_1 (by decide) (fun _ => ?_) (fun _ => ?_)
  · refine f_iconst (pc := 16) cx dX10_isBucket_16 kc_iconst_0 ?_
    exact f_iret cx hr hlk (bb_n bb_0).1 dX10_isBucket_17
  · refine f_iload_n (pc := 4) cx dX10_isBucket_4 rfl rfl ?_
    refine f_aload_n (pc := 5) cx dX10_isBucket_5 rfl rfl ?_
    refine f_bind (fun r1 hr1 => ?_)
    refine k_X10_209 (pc := 6) cx (c_X10_buckets l G _ o0 hk_o0 r1 hr1) hk_o0 ⟨by decide, by decide⟩ ⟨Nat.zero_le _, Nat.zero_le _⟩ (Nat.le_of_ble_eq_true rfl) dX10_isBucket_6 ?_
    refine f_icmp_ge (pc := 9) (tgt := 16) cx dX10_isBucket_9 (by decide) (fun _ => ?_) (fun _ => ?_)
    · refine f_iconst (pc := 16) cx dX10_isBucket_16 kc_iconst_0 ?_
      exact f_iret cx hr hlk (bb_n bb_0).1 dX10_isBucket_17
    · refine f_iconst (pc := 12) cx dX10_isBucket_12 kc_iconst_1 ?_
      refine f_goto (pc := 13) (tgt := 17) cx dX10_isBucket_13 (by decide) ?_
      exact f_iret cx hr hlk (bb_n bb_1).1 dX10_isBucket_17
set_option maxRecDepth 4000 in
theorem c_X10_isBucket (l : Launch) (G : GT) (h : Hp) (o0 : Nat) (x1 : Int32) (hk_o0 : kd o0 = 9) : CtI l G yX10_isBucket cX10_isBucket 2 (some .boolean) 1 20 [.ref (gad G o0), .int x1] h (p_X10_isBucket h o0 x1) := fun a ha => Ct.of (lv := [some (.ref (gad G o0)), some (.int x1)]) (by decide) rfl (Nat.le_of_ble_eq_true rfl) rfl (fun p e s m args below meth c cx hr hlk => s_X10_isBucket cx hr hlk h o0 x1 hk_o0 a ha)
def p_X10_set (h : Hp) (o0 : Nat) (x1 : Int32) : Option (Int32 × Hp) :=
  nv (hp h o0 0 0) fun h1 => Option.bind (p_X10_isKey h1 x1) fun r2 => if r2.1 = 0 then (some ((-1), r2.2)) else (Option.bind (p_X10_setOf r2.2 x1 (r2.2 (o0 + 6) 10)) fun r3 => some (r3.1, r3.2))
set_option maxRecDepth 4000 in
theorem s_X10_set {p : Program} {l : Launch} {e : Env} {s : State} {m : MethodId} {args : Array Value} {below : List Frame} {meth : Method} {c : Code} {G : GT} (cx : CX p s m args c cX10_set 2 RX10 G) (hr : meth.sig.returnType = (some .int)) (hlk : meth.locks = false) (h : Hp) (o0 : Nat) (x1 : Int32) (hk_o0 : kd o0 = 9) : PF p l e (rmc 1 21) s m args below meth c 2 G 0 0 (QI below G args s) 0 [some (.ref (gad G o0)), some (.int x1)] [] h (p_X10_set h o0 x1) := by
  unfold p_X10_set
  refine f_aload_n (pc := 0) cx dX10_set_0 rfl rfl ?_
  refine f_iconst (pc := 1) cx dX10_set_1 kc_iconst_0 ?_
  refine u_X10_45 (pc := 2) cx hk_o0 dX10_set_2 ?_
  refine f_nvh (fun h1 => ?_)
  refine f_iload_n (pc := 5) cx dX10_set_5 rfl rfl ?_
  refine f_bind (fun r2 hr2 => ?_)
  refine k_X10_301 (pc := 6) cx (c_X10_isKey l G _ x1 r2 hr2) ⟨by decide, by decide⟩ ⟨Nat.zero_le _, Nat.zero_le _⟩ (Nat.le_of_ble_eq_true rfl) dX10_set_6 ?_
  refine f_if_eq (pc := 9) (tgt := 26) cx dX10_set_9 (by decide) (fun _ => ?_) (fun _ => ?_)
  · refine f_iconst (pc := 26) cx dX10_set_26 kc_iconst_m1 ?_
    exact f_iret cx hr hlk rfl dX10_set_27
  · refine f_iload_n (pc := 12) cx dX10_set_12 rfl rfl ?_
    refine f_aload_n (pc := 13) cx dX10_set_13 rfl rfl ?_
    refine g_X10_30 (pc := 14) cx hk_o0 dX10_set_14 ?_
    refine f_bipush (pc := 17) cx dX10_set_17 kc_bipush_10 ?_
    refine f_ialdk (pc := 19) (j := 10) (n := 3715) cx (kf_9_20 hk_o0) (by decide) (by decide) kl_10 dX10_set_19 ?_
    refine f_bind (fun r3 hr3 => ?_)
    refine k_X10_181 (pc := 20) cx (c_X10_setOf l G _ x1 (r2.2 (o0 + 6) 10) r3 hr3) ⟨by decide, by decide⟩ ⟨Nat.zero_le _, Nat.zero_le _⟩ (Nat.le_of_ble_eq_true rfl) dX10_set_20 ?_
    refine f_goto (pc := 23) (tgt := 27) cx dX10_set_23 (by decide) ?_
    exact f_iret cx hr hlk rfl dX10_set_27
set_option maxRecDepth 4000 in
theorem c_X10_set (l : Launch) (G : GT) (h : Hp) (o0 : Nat) (x1 : Int32) (hk_o0 : kd o0 = 9) : CtI l G yX10_set cX10_set 2 (some .int) 1 21 [.ref (gad G o0), .int x1] h (p_X10_set h o0 x1) := fun a ha => Ct.of (lv := [some (.ref (gad G o0)), some (.int x1)]) (by decide) rfl (Nat.le_of_ble_eq_true rfl) rfl (fun p e s m args below meth c cx hr hlk => s_X10_set cx hr hlk h o0 x1 hk_o0 a ha)
def b_X10_standingIn_4 (o0 : Nat) (x1 : Int32) (k4 : Hp × Int32 × Int32 → Option (Int32 × Hp)) (q : Hp × Int32 × Int32) : Option (Int32 × Hp) :=
  if (q.1 (o0 + 6) 1) ≤ q.2.2 then (some (q.2.1, q.1)) else (Option.bind (p_X10_frameOf q.1 o0 q.2.2 4) fun r1 => if r1.1 = x1 then (Option.bind (p_X10_frameOf r1.2 o0 q.2.2 6) fun r2 => if r2.1 = 0 then (nv (q.2.1 + 1) fun v3 => k4 (r2.2, v3, q.2.2 + 1)) else (nv (q.2.1 + 0) fun v4 => k4 (r2.2, v4, q.2.2 + 1))) else (nv (q.2.1 + 0) fun v5 => k4 (r1.2, v5, q.2.2 + 1)))
def p_X10_standingIn (h : Hp) (o0 : Nat) (x1 : Int32) : Option (Int32 × Hp) :=
  lp (b_X10_standingIn_4 o0 x1) FU (h, 0, 0)
set_option maxRecDepth 4000 in
theorem s_X10_standingIn_4 {p : Program} {l : Launch} {e : Env} {s : State} {m : MethodId} {args : Array Value} {below : List Frame} {meth : Method} {c : Code} {G : GT} (cx : CX p s m args c cX10_standingIn 4 RX10 G) (hr : meth.sig.returnType = (some .int)) (hlk : meth.locks = false) (o0 : Nat) (x1 : Int32) (hk_o0 : kd o0 = 9) : ∀ (n : Nat) (q : Hp × Int32 × Int32), PF p l e (rmc 1 22) s m args below meth c 4 G 0 0 (QI below G args s) 4 [some (.ref (gad G o0)), some (.int x1), some (.int q.2.1), some (.int q.2.2)] [] q.1 (lp (b_X10_standingIn_4 o0 x1) n q) := by
  refine f_lp (lvf := fun (q : Hp × Int32 × Int32) => [some (.ref (gad G o0)), some (.int x1), some (.int q.2.1), some (.int q.2.2)]) (hf := fun (q : Hp × Int32 × Int32) => q.1) (fun k4 hk4 q => ?_)
  show PF p l e (rmc 1 22) s m args below meth c 4 G 0 0 (QI below G args s) 4 [some (.ref (gad G o0)), some (.int x1), some (.int q.2.1), some (.int q.2.2)] [] q.1 (b_X10_standingIn_4 o0 x1 k4 q)
  unfold b_X10_standingIn_4
  refine f_iload_n (pc := 4) cx dX10_standingIn_4 rfl rfl ?_
  refine f_aload_n (pc := 5) cx dX10_standingIn_5 rfl rfl ?_
  refine g_X10_30 (pc := 6) cx hk_o0 dX10_standingIn_6 ?_
  refine f_iconst (pc := 9) cx dX10_standingIn_9 kc_iconst_1 ?_
  refine f_ialdk (pc := 10) (j := 1) (n := 3715) cx (kf_9_20 hk_o0) (by decide) (by decide) kl_1 dX10_standingIn_10 ?_
  refine f_icmp_ge (pc := 11) (tgt := 48) cx dX10_standingIn_11 (by decide) (fun _ => ?_) (fun _ => ?_)
  · refine f_iload_n (pc := 48) cx dX10_standingIn_48 rfl rfl ?_
    exact f_iret cx hr hlk rfl dX10_standingIn_49
  · refine f_iload_n (pc := 14) cx dX10_standingIn_14 rfl rfl ?_
    refine f_aload_n (pc := 15) cx dX10_standingIn_15 rfl rfl ?_
    refine f_iload_n (pc := 16) cx dX10_standingIn_16 rfl rfl ?_
    refine f_iconst (pc := 17) cx dX10_standingIn_17 kc_iconst_4 ?_
    refine f_bind (fun r1 hr1 => ?_)
    refine k_X10_194 (pc := 18) cx (c_X10_frameOf l G _ o0 q.2.2 4 hk_o0 r1 hr1) hk_o0 ⟨by decide, by decide⟩ ⟨Nat.zero_le _, Nat.zero_le _⟩ (Nat.le_of_ble_eq_true rfl) dX10_standingIn_18 ?_
    refine f_iload_n (pc := 21) cx dX10_standingIn_21 rfl rfl ?_
    refine f_icmp_ne (pc := 22) (tgt := 39) cx dX10_standingIn_22 (by decide) (fun _ => ?_) (fun _ => ?_)
    · refine f_aload_n (pc := 25) cx dX10_standingIn_25 rfl rfl ?_
      refine f_iload_n (pc := 26) cx dX10_standingIn_26 rfl rfl ?_
      refine f_bipush (pc := 27) cx dX10_standingIn_27 kc_bipush_6 ?_
      refine f_bind (fun r2 hr2 => ?_)
      refine k_X10_194 (pc := 29) cx (c_X10_frameOf l G _ o0 q.2.2 6 hk_o0 r2 hr2) hk_o0 ⟨by decide, by decide⟩ ⟨Nat.zero_le _, Nat.zero_le _⟩ (Nat.le_of_ble_eq_true rfl) dX10_standingIn_29 ?_
      refine f_if_ne (pc := 32) (tgt := 39) cx dX10_standingIn_32 (by decide) (fun _ => ?_) (fun _ => ?_)
      · refine f_iconst (pc := 35) cx dX10_standingIn_35 kc_iconst_1 ?_
        refine f_goto (pc := 36) (tgt := 40) cx dX10_standingIn_36 (by decide) ?_
        refine f_iadd (pc := 40) cx dX10_standingIn_40 ?_
        refine f_nvi (fun v3 => ?_)
        refine f_istore2 (pc := 41) cx dX10_standingIn_41 (by decide) rfl ?_
        refine f_iinc3 (pc := 42) cx dX10_standingIn_42 kc_iconst_1 (by decide) rfl ?_
        refine f_goto (pc := 45) (tgt := 4) cx dX10_standingIn_45 (by decide) ?_
        exact f_weak (LSb.s (LSb.s (LSb.s (LSb.s LSb.e)))) (hk4 (r2.2, v3, q.2.2 + 1))
      · refine f_iconst (pc := 39) cx dX10_standingIn_39 kc_iconst_0 ?_
        refine f_iadd (pc := 40) cx dX10_standingIn_40 ?_
        refine f_nvi (fun v4 => ?_)
        refine f_istore2 (pc := 41) cx dX10_standingIn_41 (by decide) rfl ?_
        refine f_iinc3 (pc := 42) cx dX10_standingIn_42 kc_iconst_1 (by decide) rfl ?_
        refine f_goto (pc := 45) (tgt := 4) cx dX10_standingIn_45 (by decide) ?_
        exact f_weak (LSb.s (LSb.s (LSb.s (LSb.s LSb.e)))) (hk4 (r2.2, v4, q.2.2 + 1))
    · refine f_iconst (pc := 39) cx dX10_standingIn_39 kc_iconst_0 ?_
      refine f_iadd (pc := 40) cx dX10_standingIn_40 ?_
      refine f_nvi (fun v5 => ?_)
      refine f_istore2 (pc := 41) cx dX10_standingIn_41 (by decide) rfl ?_
      refine f_iinc3 (pc := 42) cx dX10_standingIn_42 kc_iconst_1 (by decide) rfl ?_
      refine f_goto (pc := 45) (tgt := 4) cx dX10_standingIn_45 (by decide) ?_
      exact f_weak (LSb.s (LSb.s (LSb.s (LSb.s LSb.e)))) (hk4 (r1.2, v5, q.2.2 + 1))
set_option maxRecDepth 4000 in
theorem s_X10_standingIn {p : Program} {l : Launch} {e : Env} {s : State} {m : MethodId} {args : Array Value} {below : List Frame} {meth : Method} {c : Code} {G : GT} (cx : CX p s m args c cX10_standingIn 4 RX10 G) (hr : meth.sig.returnType = (some .int)) (hlk : meth.locks = false) (h : Hp) (o0 : Nat) (x1 : Int32) (hk_o0 : kd o0 = 9) : PF p l e (rmc 1 22) s m args below meth c 4 G 0 0 (QI below G args s) 0 [some (.ref (gad G o0)), some (.int x1), none, none] [] h (p_X10_standingIn h o0 x1) := by
  unfold p_X10_standingIn
  refine f_iconst (pc := 0) cx dX10_standingIn_0 kc_iconst_0 ?_
  refine f_istore2 (pc := 1) cx dX10_standingIn_1 (by decide) rfl ?_
  refine f_iconst (pc := 2) cx dX10_standingIn_2 kc_iconst_0 ?_
  refine f_istore3 (pc := 3) cx dX10_standingIn_3 (by decide) rfl ?_
  exact f_weak (LSb.s (LSb.s (LSb.s (LSb.s LSb.e)))) (s_X10_standingIn_4 cx hr hlk o0 x1 hk_o0 FU (h, 0, 0))
set_option maxRecDepth 4000 in
theorem c_X10_standingIn (l : Launch) (G : GT) (h : Hp) (o0 : Nat) (x1 : Int32) (hk_o0 : kd o0 = 9) : CtI l G yX10_standingIn cX10_standingIn 4 (some .int) 1 22 [.ref (gad G o0), .int x1] h (p_X10_standingIn h o0 x1) := fun a ha => Ct.of (lv := [some (.ref (gad G o0)), some (.int x1), none, none]) (by decide) rfl (Nat.le_of_ble_eq_true rfl) rfl (fun p e s m args below meth c cx hr hlk => s_X10_standingIn cx hr hlk h o0 x1 hk_o0 a ha)
def p_X10_order (h : Hp) (o0 : Nat) (x1 : Int32) : Option (Int32 × Hp) :=
  nv (hp h o0 0 0) fun h1 => if 0 ≤ x1 then (if (h1 (o0 + 6) 12) ≤ x1 then (if (h1 (o0 + 6) 13) ≤ (x1 - (h1 (o0 + 6) 12)) then (some ((-2), h1)) else (Option.bind (p_X10_inList h1 o0 2 (x1 - (h1 (o0 + 6) 12))) fun r2 => some (r2.1, r2.2))) else (Option.bind (p_X10_inList h1 o0 1 x1) fun r3 => some (r3.1, r3.2))) else (some ((-1), h1))
set_option maxRecDepth 4000 in
theorem s_X10_order {p : Program} {l : Launch} {e : Env} {s : State} {m : MethodId} {args : Array Value} {below : List Frame} {meth : Method} {c : Code} {G : GT} (cx : CX p s m args c cX10_order 2 RX10 G) (hr : meth.sig.returnType = (some .int)) (hlk : meth.locks = false) (h : Hp) (o0 : Nat) (x1 : Int32) (hk_o0 : kd o0 = 9) : PF p l e (rmc 1 22) s m args below meth c 2 G 0 0 (QI below G args s) 0 [some (.ref (gad G o0)), some (.int x1)] [] h (p_X10_order h o0 x1) := by
  unfold p_X10_order
  refine f_aload_n (pc := 0) cx dX10_order_0 rfl rfl ?_
  refine f_iconst (pc := 1) cx dX10_order_1 kc_iconst_0 ?_
  refine u_X10_45 (pc := 2) cx hk_o0 dX10_order_2 ?_
  refine f_nvh (fun h1 => ?_)
  refine f_iload_n (pc := 5) cx dX10_order_5 rfl rfl ?_
  refine f_if_ge (pc := 6) (tgt := 11) cx dX10_order_6 (by decide) (fun _ => ?_) (fun _ => ?_)
  · refine f_iload_n (pc := 11) cx dX10_order_11 rfl rfl ?_
    refine f_aload_n (pc := 12) cx dX10_order_12 rfl rfl ?_
    refine g_X10_30 (pc := 13) cx hk_o0 dX10_order_13 ?_
    refine f_bipush (pc := 16) cx dX10_order_16 kc_bipush_12 ?_
    refine f_ialdk (pc := 18) (j := 12) (n := 3715) cx (kf_9_20 hk_o0) (by decide) (by decide) kl_12 dX10_order_18 ?_
    refine f_icmp_ge (pc := 19) (tgt := 31) cx dX10_order_19 (by decide) (fun _ => ?_) (fun _ => ?_)
    · refine f_iload_n (pc := 31) cx dX10_order_31 rfl rfl ?_
      refine f_aload_n (pc := 32) cx dX10_order_32 rfl rfl ?_
      refine g_X10_30 (pc := 33) cx hk_o0 dX10_order_33 ?_
      refine f_bipush (pc := 36) cx dX10_order_36 kc_bipush_12 ?_
      refine f_ialdk (pc := 38) (j := 12) (n := 3715) cx (kf_9_20 hk_o0) (by decide) (by decide) kl_12 dX10_order_38 ?_
      refine f_isub (pc := 39) cx dX10_order_39 ?_
      refine f_aload_n (pc := 40) cx dX10_order_40 rfl rfl ?_
      refine g_X10_30 (pc := 41) cx hk_o0 dX10_order_41 ?_
      refine f_bipush (pc := 44) cx dX10_order_44 kc_bipush_13 ?_
      refine f_ialdk (pc := 46) (j := 13) (n := 3715) cx (kf_9_20 hk_o0) (by decide) (by decide) kl_13 dX10_order_46 ?_
      refine f_icmp_ge (pc := 47) (tgt := 67) cx dX10_order_47 (by decide) (fun _ => ?_) (fun _ => ?_)
      · refine f_bipush (pc := 67) cx dX10_order_67 kc_bipush_m2 ?_
        exact f_iret cx hr hlk rfl dX10_order_69
      · refine f_aload_n (pc := 50) cx dX10_order_50 rfl rfl ?_
        refine f_iconst (pc := 51) cx dX10_order_51 kc_iconst_2 ?_
        refine f_iload_n (pc := 52) cx dX10_order_52 rfl rfl ?_
        refine f_aload_n (pc := 53) cx dX10_order_53 rfl rfl ?_
        refine g_X10_30 (pc := 54) cx hk_o0 dX10_order_54 ?_
        refine f_bipush (pc := 57) cx dX10_order_57 kc_bipush_12 ?_
        refine f_ialdk (pc := 59) (j := 12) (n := 3715) cx (kf_9_20 hk_o0) (by decide) (by decide) kl_12 dX10_order_59 ?_
        refine f_isub (pc := 60) cx dX10_order_60 ?_
        refine f_bind (fun r2 hr2 => ?_)
        refine k_X10_176 (pc := 61) cx (c_X10_inList l G _ o0 2 (x1 - (h1 (o0 + 6) 12)) hk_o0 r2 hr2) hk_o0 ⟨by decide, by decide⟩ ⟨Nat.zero_le _, Nat.zero_le _⟩ (Nat.le_of_ble_eq_true rfl) dX10_order_61 ?_
        refine f_goto (pc := 64) (tgt := 69) cx dX10_order_64 (by decide) ?_
        exact f_iret cx hr hlk rfl dX10_order_69
    · refine f_aload_n (pc := 22) cx dX10_order_22 rfl rfl ?_
      refine f_iconst (pc := 23) cx dX10_order_23 kc_iconst_1 ?_
      refine f_iload_n (pc := 24) cx dX10_order_24 rfl rfl ?_
      refine f_bind (fun r3 hr3 => ?_)
      refine k_X10_176 (pc := 25) cx (c_X10_inList l G _ o0 1 x1 hk_o0 r3 hr3) hk_o0 ⟨by decide, by decide⟩ ⟨Nat.zero_le _, Nat.zero_le _⟩ (Nat.le_of_ble_eq_true rfl) dX10_order_25 ?_
      refine f_goto (pc := 28) (tgt := 69) cx dX10_order_28 (by decide) ?_
      exact f_iret cx hr hlk rfl dX10_order_69
  · refine f_iconst (pc := 9) cx dX10_order_9 kc_iconst_m1 ?_
    exact f_iret cx hr hlk rfl dX10_order_10
set_option maxRecDepth 4000 in
theorem c_X10_order (l : Launch) (G : GT) (h : Hp) (o0 : Nat) (x1 : Int32) (hk_o0 : kd o0 = 9) : CtI l G yX10_order cX10_order 2 (some .int) 1 22 [.ref (gad G o0), .int x1] h (p_X10_order h o0 x1) := fun a ha => Ct.of (lv := [some (.ref (gad G o0)), some (.int x1)]) (by decide) rfl (Nat.le_of_ble_eq_true rfl) rfl (fun p e s m args below meth c cx hr hlk => s_X10_order cx hr hlk h o0 x1 hk_o0 a ha)
def p_X10_frame (h : Hp) (o0 : Nat) (x1 : Int32) (x2 : Int32) : Option (Int32 × Hp) :=
  nv (hp h o0 0 0) fun h1 => if x1 < 0 then (some ((-1), h1)) else (if (h1 (o0 + 6) 1) ≤ x1 then (some ((-1), h1)) else (if x2 < 0 then (some ((-1), h1)) else (if x2 ≤ 7 then (Option.bind (p_X10_frameOf h1 o0 x1 x2) fun r2 => some (r2.1, r2.2)) else (some ((-1), h1)))))
set_option maxRecDepth 4000 in
theorem s_X10_frame {p : Program} {l : Launch} {e : Env} {s : State} {m : MethodId} {args : Array Value} {below : List Frame} {meth : Method} {c : Code} {G : GT} (cx : CX p s m args c cX10_frame 3 RX10 G) (hr : meth.sig.returnType = (some .int)) (hlk : meth.locks = false) (h : Hp) (o0 : Nat) (x1 : Int32) (x2 : Int32) (hk_o0 : kd o0 = 9) : PF p l e (rmc 1 22) s m args below meth c 3 G 0 0 (QI below G args s) 0 [some (.ref (gad G o0)), some (.int x1), some (.int x2)] [] h (p_X10_frame h o0 x1 x2) := by
  unfold p_X10_frame
  refine f_aload_n (pc := 0) cx dX10_frame_0 rfl rfl ?_
  refine f_iconst (pc := 1) cx dX10_frame_1 kc_iconst_0 ?_
  refine u_X10_45 (pc := 2) cx hk_o0 dX10_frame_2 ?_
  refine f_nvh (fun h1 => ?_)
  refine f_iload_n (pc := 5) cx dX10_frame_5 rfl rfl ?_
  refine f_if_lt (pc := 6) (tgt := 29) cx dX10_frame_6 (by decide) (fun _ => ?_) (fun _ => ?_)
  · refine f_iconst (pc := 29) cx dX10_frame_29 kc_iconst_m1 ?_
    refine f_goto (pc := 30) (tgt := 39) cx dX10_frame_30 (by decide) ?_
    exact f_iret cx hr hlk rfl dX10_frame_39
  · refine f_iload_n (pc := 9) cx dX10_frame_9 rfl rfl ?_
    refine f_aload_n (pc := 10) cx dX10_frame_10 rfl rfl ?_
    refine g_X10_30 (pc := 11) cx hk_o0 dX10_frame_11 ?_
    refine f_iconst (pc := 14) cx dX10_frame_14 kc_iconst_1 ?_
    refine f_ialdk (pc := 15) (j := 1) (n := 3715) cx (kf_9_20 hk_o0) (by decide) (by decide) kl_1 dX10_frame_15 ?_
    refine f_icmp_ge (pc := 16) (tgt := 29) cx dX10_frame_16 (by decide) (fun _ => ?_) (fun _ => ?_)
    · refine f_iconst (pc := 29) cx dX10_frame_29 kc_iconst_m1 ?_
      refine f_goto (pc := 30) (tgt := 39) cx dX10_frame_30 (by decide) ?_
      exact f_iret cx hr hlk rfl dX10_frame_39
    · refine f_iload_n (pc := 19) cx dX10_frame_19 rfl rfl ?_
      refine f_if_lt (pc := 20) (tgt := 29) cx dX10_frame_20 (by decide) (fun _ => ?_) (fun _ => ?_)
      · refine f_iconst (pc := 29) cx dX10_frame_29 kc_iconst_m1 ?_
        refine f_goto (pc := 30) (tgt := 39) cx dX10_frame_30 (by decide) ?_
        exact f_iret cx hr hlk rfl dX10_frame_39
      · refine f_iload_n (pc := 23) cx dX10_frame_23 rfl rfl ?_
        refine f_bipush (pc := 24) cx dX10_frame_24 kc_bipush_7 ?_
        refine f_icmp_le (pc := 26) (tgt := 33) cx dX10_frame_26 (by decide) (fun _ => ?_) (fun _ => ?_)
        · refine f_aload_n (pc := 33) cx dX10_frame_33 rfl rfl ?_
          refine f_iload_n (pc := 34) cx dX10_frame_34 rfl rfl ?_
          refine f_iload_n (pc := 35) cx dX10_frame_35 rfl rfl ?_
          refine f_bind (fun r2 hr2 => ?_)
          refine k_X10_194 (pc := 36) cx (c_X10_frameOf l G _ o0 x1 x2 hk_o0 r2 hr2) hk_o0 ⟨by decide, by decide⟩ ⟨Nat.zero_le _, Nat.zero_le _⟩ (Nat.le_of_ble_eq_true rfl) dX10_frame_36 ?_
          exact f_iret cx hr hlk rfl dX10_frame_39
        · refine f_iconst (pc := 29) cx dX10_frame_29 kc_iconst_m1 ?_
          refine f_goto (pc := 30) (tgt := 39) cx dX10_frame_30 (by decide) ?_
          exact f_iret cx hr hlk rfl dX10_frame_39
set_option maxRecDepth 4000 in
theorem c_X10_frame (l : Launch) (G : GT) (h : Hp) (o0 : Nat) (x1 : Int32) (x2 : Int32) (hk_o0 : kd o0 = 9) : CtI l G yX10_frame cX10_frame 3 (some .int) 1 22 [.ref (gad G o0), .int x1, .int x2] h (p_X10_frame h o0 x1 x2) := fun a ha => Ct.of (lv := [some (.ref (gad G o0)), some (.int x1), some (.int x2)]) (by decide) rfl (Nat.le_of_ble_eq_true rfl) rfl (fun p e s m args below meth c cx hr hlk => s_X10_frame cx hr hlk h o0 x1 x2 hk_o0 a ha)
def b_X10_rootOf_5 (x0 : Int32) (k5 : Hp × Int32 × Int32 → Option (Int32 × Hp)) (q : Hp × Int32 × Int32) : Option (Int32 × Hp) :=
  if x0 < q.2.2 then (some (q.2.1, q.1)) else (Option.bind (p_X10_stepped q.1 q.2.1 q.2.2) fun r1 => k5 (r1.2, r1.1, q.2.2 + 1))
def p_X10_rootOf (h : Hp) (x0 : Int32) : Option (Int32 × Hp) :=
  lp (b_X10_rootOf_5 x0) FU (h, 65535, 2)
set_option maxRecDepth 4000 in
theorem s_X10_rootOf_5 {p : Program} {l : Launch} {e : Env} {s : State} {m : MethodId} {args : Array Value} {below : List Frame} {meth : Method} {c : Code} {G : GT} (cx : CX p s m args c cX10_rootOf 3 RX10 G) (hr : meth.sig.returnType = (some .int)) (hlk : meth.locks = false) (x0 : Int32) : ∀ (n : Nat) (q : Hp × Int32 × Int32), PF p l e (rmc 1 27) s m args below meth c 3 G 0 0 (QI below G args s) 5 [some (.int x0), some (.int q.2.1), some (.int q.2.2)] [] q.1 (lp (b_X10_rootOf_5 x0) n q) := by
  refine f_lp (lvf := fun (q : Hp × Int32 × Int32) => [some (.int x0), some (.int q.2.1), some (.int q.2.2)]) (hf := fun (q : Hp × Int32 × Int32) => q.1) (fun k5 hk5 q => ?_)
  show PF p l e (rmc 1 27) s m args below meth c 3 G 0 0 (QI below G args s) 5 [some (.int x0), some (.int q.2.1), some (.int q.2.2)] [] q.1 (b_X10_rootOf_5 x0 k5 q)
  unfold b_X10_rootOf_5
  refine f_iload_n (pc := 5) cx dX10_rootOf_5 rfl rfl ?_
  refine f_iload_n (pc := 6) cx dX10_rootOf_6 rfl rfl ?_
  refine f_icmp_gt (pc := 7) (tgt := 22) cx dX10_rootOf_7 (by decide) (fun _ => ?_) (fun _ => ?_)
  · refine f_iload_n (pc := 22) cx dX10_rootOf_22 rfl rfl ?_
    exact f_iret cx hr hlk rfl dX10_rootOf_23
  · refine f_iload_n (pc := 10) cx dX10_rootOf_10 rfl rfl ?_
    refine f_iload_n (pc := 11) cx dX10_rootOf_11 rfl rfl ?_
    refine f_bind (fun r1 hr1 => ?_)
    refine k_X10_236 (pc := 12) cx (c_X10_stepped l G _ q.2.1 q.2.2 r1 hr1) ⟨by decide, by decide⟩ ⟨Nat.zero_le _, Nat.zero_le _⟩ (Nat.le_of_ble_eq_true rfl) dX10_rootOf_12 ?_
    refine f_istore1 (pc := 15) cx dX10_rootOf_15 (by decide) rfl ?_
    refine f_iinc2 (pc := 16) cx dX10_rootOf_16 kc_iconst_1 (by decide) rfl ?_
    refine f_goto (pc := 19) (tgt := 5) cx dX10_rootOf_19 (by decide) ?_
    exact f_weak (LSb.s (LSb.s (LSb.s LSb.e))) (hk5 (r1.2, r1.1, q.2.2 + 1))
set_option maxRecDepth 4000 in
theorem s_X10_rootOf {p : Program} {l : Launch} {e : Env} {s : State} {m : MethodId} {args : Array Value} {below : List Frame} {meth : Method} {c : Code} {G : GT} (cx : CX p s m args c cX10_rootOf 3 RX10 G) (hr : meth.sig.returnType = (some .int)) (hlk : meth.locks = false) (h : Hp) (x0 : Int32) : PF p l e (rmc 1 27) s m args below meth c 3 G 0 0 (QI below G args s) 0 [some (.int x0), none, none] [] h (p_X10_rootOf h x0) := by
  unfold p_X10_rootOf
  refine f_ldc (pc := 0) cx w_1310 dX10_rootOf_0 ?_
  refine f_istore1 (pc := 2) cx dX10_rootOf_2 (by decide) rfl ?_
  refine f_iconst (pc := 3) cx dX10_rootOf_3 kc_iconst_2 ?_
  refine f_istore2 (pc := 4) cx dX10_rootOf_4 (by decide) rfl ?_
  exact f_weak (LSb.s (LSb.s (LSb.s LSb.e))) (s_X10_rootOf_5 cx hr hlk x0 FU (h, 65535, 2))
set_option maxRecDepth 4000 in
theorem c_X10_rootOf (l : Launch) (G : GT) (h : Hp) (x0 : Int32) : CtI l G yX10_rootOf cX10_rootOf 3 (some .int) 1 27 [.int x0] h (p_X10_rootOf h x0) := fun a ha => Ct.of (lv := [some (.int x0), none, none]) (by decide) rfl (Nat.le_of_ble_eq_true rfl) rfl (fun p e s m args below meth c cx hr hlk => s_X10_rootOf cx hr hlk h x0 a ha)
def p_X10_exact (h : Hp) (o0 : Nat) (x1 : Int32) : Option (Int32 × Hp) :=
  nv (hp h o0 0 0) fun h1 => Option.bind (p_X10_isCount h1 x1) fun r2 => if r2.1 = 0 then (some ((-1), r2.2)) else (Option.bind (p_X10_exactOf r2.2 x1) fun r3 => some (r3.1, r3.2))
set_option maxRecDepth 4000 in
theorem s_X10_exact {p : Program} {l : Launch} {e : Env} {s : State} {m : MethodId} {args : Array Value} {below : List Frame} {meth : Method} {c : Code} {G : GT} (cx : CX p s m args c cX10_exact 2 RX10 G) (hr : meth.sig.returnType = (some .int)) (hlk : meth.locks = false) (h : Hp) (o0 : Nat) (x1 : Int32) (hk_o0 : kd o0 = 9) : PF p l e (rmc 1 21) s m args below meth c 2 G 0 0 (QI below G args s) 0 [some (.ref (gad G o0)), some (.int x1)] [] h (p_X10_exact h o0 x1) := by
  unfold p_X10_exact
  refine f_aload_n (pc := 0) cx dX10_exact_0 rfl rfl ?_
  refine f_iconst (pc := 1) cx dX10_exact_1 kc_iconst_0 ?_
  refine u_X10_45 (pc := 2) cx hk_o0 dX10_exact_2 ?_
  refine f_nvh (fun h1 => ?_)
  refine f_iload_n (pc := 5) cx dX10_exact_5 rfl rfl ?_
  refine f_bind (fun r2 hr2 => ?_)
  refine k_X10_312 (pc := 6) cx (c_X10_isCount l G _ x1 r2 hr2) ⟨by decide, by decide⟩ ⟨Nat.zero_le _, Nat.zero_le _⟩ (Nat.le_of_ble_eq_true rfl) dX10_exact_6 ?_
  refine f_if_eq (pc := 9) (tgt := 19) cx dX10_exact_9 (by decide) (fun _ => ?_) (fun _ => ?_)
  · refine f_iconst (pc := 19) cx dX10_exact_19 kc_iconst_m1 ?_
    exact f_iret cx hr hlk rfl dX10_exact_20
  · refine f_iload_n (pc := 12) cx dX10_exact_12 rfl rfl ?_
    refine f_bind (fun r3 hr3 => ?_)
    refine k_X10_318 (pc := 13) cx (c_X10_exactOf l G _ x1 r3 hr3) ⟨by decide, by decide⟩ ⟨Nat.zero_le _, Nat.zero_le _⟩ (Nat.le_of_ble_eq_true rfl) dX10_exact_13 ?_
    refine f_goto (pc := 16) (tgt := 20) cx dX10_exact_16 (by decide) ?_
    exact f_iret cx hr hlk rfl dX10_exact_20
set_option maxRecDepth 4000 in
theorem c_X10_exact (l : Launch) (G : GT) (h : Hp) (o0 : Nat) (x1 : Int32) (hk_o0 : kd o0 = 9) : CtI l G yX10_exact cX10_exact 2 (some .int) 1 21 [.ref (gad G o0), .int x1] h (p_X10_exact h o0 x1) := fun a ha => Ct.of (lv := [some (.ref (gad G o0)), some (.int x1)]) (by decide) rfl (Nat.le_of_ble_eq_true rfl) rfl (fun p e s m args below meth c cx hr hlk => s_X10_exact cx hr hlk h o0 x1 hk_o0 a ha)
def q_X10_farthest_99 (k39 : Hp × Int32 × Int32 × Int32 × Int32 × Int32 → Option (Int32 × Hp)) (h : Hp) (x1 : Int32) (x2 : Int32) (x3 : Int32) (x4 : Int32) (x5 : Int32) (x6 : Int32) (x7 : Int32) (y0 : Int32) : Option (Int32 × Hp) :=
  if x6 < y0 then (k39 (h, x3, x4, x7, y0, x7 + 1)) else (k39 (h, x3, x4, x5, x6, x7 + 1))
def b_X10_farthest_58 (k39 : Hp × Int32 × Int32 × Int32 × Int32 × Int32 → Option (Int32 × Hp)) (x1 : Int32) (x2 : Int32) (x3 : Int32) (x5 : Int32) (x6 : Int32) (x7 : Int32) (k58 : Hp × Int32 → Option (Int32 × Hp)) (q : Hp × Int32) : Option (Int32 × Hp) :=
  if (lg_cmp (((Int32.toInt64 q.2) * (Int32.toInt64 q.2)) * (Int32.toInt64 x7)) 4294967296) ≤ 0 then (if q.2 ≤ x3 then (q_X10_farthest_99 k39 q.1 x1 x2 x3 q.2 x5 x6 x7 (x3 - q.2)) else (q_X10_farthest_99 k39 q.1 x1 x2 x3 q.2 x5 x6 x7 (q.2 - x3))) else (k58 (q.1, q.2 + (-1)))
def b_X10_farthest_39 (x1 : Int32) (x2 : Int32) (k39 : Hp × Int32 × Int32 × Int32 × Int32 × Int32 → Option (Int32 × Hp)) (q : Hp × Int32 × Int32 × Int32 × Int32 × Int32) : Option (Int32 × Hp) :=
  if x1 < q.2.2.2.2.2 then (if x2 = 0 then (some (q.2.2.2.1, q.1)) else (some (q.2.2.2.2.1, q.1))) else (if q.2.2.2.2.2 ≤ 1 then (lp (b_X10_farthest_58 k39 x1 x2 q.2.1 q.2.2.2.1 q.2.2.2.2.1 q.2.2.2.2.2) FU (q.1, q.2.2.1)) else (Option.bind (p_X10_stepped q.1 q.2.1 q.2.2.2.2.2) fun r1 => lp (b_X10_farthest_58 k39 x1 x2 r1.1 q.2.2.2.1 q.2.2.2.2.1 q.2.2.2.2.2) FU (r1.2, q.2.2.1)))
def p_X10_farthest (h : Hp) (o0 : Nat) (x1 : Int32) (x2 : Int32) : Option (Int32 × Hp) :=
  nv (hp h o0 0 0) fun h2 => Option.bind (p_X10_isCount h2 x1) fun r3 => if r3.1 = 0 then (some ((-1), r3.2)) else (if x2 < 0 then (some ((-1), r3.2)) else (if x2 ≤ 1 then (lp (b_X10_farthest_39 x1 x2) FU (r3.2, 65535, 65535, 0, (-1), 1)) else (some ((-1), r3.2))))
set_option maxRecDepth 4000 in
theorem s_X10_farthest_99 {p : Program} {l : Launch} {e : Env} {s : State} {m : MethodId} {args : Array Value} {below : List Frame} {meth : Method} {c : Code} {G : GT} (cx : CX p s m args c cX10_farthest 9 RX10 G) (hr : meth.sig.returnType = (some .int)) (hlk : meth.locks = false) (h : Hp) (x1 : Int32) (x2 : Int32) (x3 : Int32) (x4 : Int32) (x5 : Int32) (x6 : Int32) (x7 : Int32) (y0 : Int32) (k39 : Hp × Int32 × Int32 × Int32 × Int32 × Int32 → Option (Int32 × Hp)) (hk39 : ∀ (q : Hp × Int32 × Int32 × Int32 × Int32 × Int32), PF p l e (rmc 1 27) s m args below meth c 9 G 0 0 (QI below G args s) 39 [none, some (.int x1), some (.int x2), some (.int q.2.1), some (.int q.2.2.1), some (.int q.2.2.2.1), some (.int q.2.2.2.2.1), some (.int q.2.2.2.2.2), none] [] q.1 (k39 q)) : PF p l e (rmc 1 27) s m args below meth c 9 G 0 0 (QI below G args s) 99 [none, some (.int x1), some (.int x2), some (.int x3), some (.int x4), some (.int x5), some (.int x6), some (.int x7), none] [.int y0] h (q_X10_farthest_99 k39 h x1 x2 x3 x4 x5 x6 x7 y0) := by
  unfold q_X10_farthest_99
  refine f_istore8 (pc := 99) cx dX10_farthest_99 (by decide) rfl ?_
  refine f_iload (pc := 101) cx dX10_farthest_101 rfl ?_
  refine f_iload (pc := 103) cx dX10_farthest_103 rfl ?_
  refine f_icmp_gt (pc := 105) (tgt := 111) cx dX10_farthest_105 (by decide) (fun _ => ?_) (fun _ => ?_)
  · refine f_iload (pc := 111) cx dX10_farthest_111 rfl ?_
    refine f_istore5 (pc := 113) cx dX10_farthest_113 (by decide) rfl ?_
    refine f_iload (pc := 115) cx dX10_farthest_115 rfl ?_
    refine f_istore6 (pc := 117) cx dX10_farthest_117 (by decide) rfl ?_
    refine f_iinc7 (pc := 119) cx dX10_farthest_119 kc_iconst_1 (by decide) rfl ?_
    refine f_goto (pc := 122) (tgt := 39) cx dX10_farthest_122 (by decide) ?_
    exact f_weak (LSb.n (LSb.s (LSb.s (LSb.s (LSb.s (LSb.s (LSb.s (LSb.s (LSb.n LSb.e))))))))) (hk39 (h, x3, x4, x7, y0, x7 + 1))
  · refine f_goto (pc := 108) (tgt := 119) cx dX10_farthest_108 (by decide) ?_
    refine f_iinc7 (pc := 119) cx dX10_farthest_119 kc_iconst_1 (by decide) rfl ?_
    refine f_goto (pc := 122) (tgt := 39) cx dX10_farthest_122 (by decide) ?_
    exact f_weak (LSb.n (LSb.s (LSb.s (LSb.s (LSb.s (LSb.s (LSb.s (LSb.s (LSb.n LSb.e))))))))) (hk39 (h, x3, x4, x5, x6, x7 + 1))
set_option maxRecDepth 4000 in
theorem s_X10_farthest_58 {p : Program} {l : Launch} {e : Env} {s : State} {m : MethodId} {args : Array Value} {below : List Frame} {meth : Method} {c : Code} {G : GT} (cx : CX p s m args c cX10_farthest 9 RX10 G) (hr : meth.sig.returnType = (some .int)) (hlk : meth.locks = false) (x1 : Int32) (x2 : Int32) (x3 : Int32) (x5 : Int32) (x6 : Int32) (x7 : Int32) (k39 : Hp × Int32 × Int32 × Int32 × Int32 × Int32 → Option (Int32 × Hp)) (hk39 : ∀ (q : Hp × Int32 × Int32 × Int32 × Int32 × Int32), PF p l e (rmc 1 27) s m args below meth c 9 G 0 0 (QI below G args s) 39 [none, some (.int x1), some (.int x2), some (.int q.2.1), some (.int q.2.2.1), some (.int q.2.2.2.1), some (.int q.2.2.2.2.1), some (.int q.2.2.2.2.2), none] [] q.1 (k39 q)) : ∀ (n : Nat) (q : Hp × Int32), PF p l e (rmc 1 27) s m args below meth c 9 G 0 0 (QI below G args s) 58 [none, some (.int x1), some (.int x2), some (.int x3), some (.int q.2), some (.int x5), some (.int x6), some (.int x7), none] [] q.1 (lp (b_X10_farthest_58 k39 x1 x2 x3 x5 x6 x7) n q) := by
  refine f_lp (lvf := fun (q : Hp × Int32) => [none, some (.int x1), some (.int x2), some (.int x3), some (.int q.2), some (.int x5), some (.int x6), some (.int x7), none]) (hf := fun (q : Hp × Int32) => q.1) (fun k58 hk58 q => ?_)
  show PF p l e (rmc 1 27) s m args below meth c 9 G 0 0 (QI below G args s) 58 [none, some (.int x1), some (.int x2), some (.int x3), some (.int q.2), some (.int x5), some (.int x6), some (.int x7), none] [] q.1 (b_X10_farthest_58 k39 x1 x2 x3 x5 x6 x7 k58 q)
  unfold b_X10_farthest_58
  refine f_iload (pc := 58) cx dX10_farthest_58 rfl ?_
  refine f_i2l (pc := 60) cx dX10_farthest_60 ?_
  refine f_iload (pc := 61) cx dX10_farthest_61 rfl ?_
  refine f_i2l (pc := 63) cx dX10_farthest_63 ?_
  refine f_lmul (pc := 64) cx dX10_farthest_64 ?_
  refine f_iload (pc := 65) cx dX10_farthest_65 rfl ?_
  refine f_i2l (pc := 67) cx dX10_farthest_67 ?_
  refine f_lmul (pc := 68) cx dX10_farthest_68 ?_
  refine f_ldc2 (pc := 69) cx w_1749 dX10_farthest_69 ?_
  refine f_lcmp (pc := 72) cx dX10_farthest_72 ?_
  refine f_if_le (pc := 73) (tgt := 82) cx dX10_farthest_73 (by decide) (fun _ => ?_) (fun _ => ?_)
  · refine f_iload_n (pc := 82) cx dX10_farthest_82 rfl rfl ?_
    refine f_iload (pc := 83) cx dX10_farthest_83 rfl ?_
    refine f_icmp_ge (pc := 85) (tgt := 95) cx dX10_farthest_85 (by decide) (fun _ => ?_) (fun _ => ?_)
    · refine f_iload_n (pc := 95) cx dX10_farthest_95 rfl rfl ?_
      refine f_iload (pc := 96) cx dX10_farthest_96 rfl ?_
      refine f_isub (pc := 98) cx dX10_farthest_98 ?_
      exact f_weak (LSb.n (LSb.s (LSb.s (LSb.s (LSb.s (LSb.s (LSb.s (LSb.s (LSb.n LSb.e))))))))) (s_X10_farthest_99 cx hr hlk _ x1 x2 x3 q.2 x5 x6 x7 (x3 - q.2) k39 hk39)
    · refine f_iload (pc := 88) cx dX10_farthest_88 rfl ?_
      refine f_iload_n (pc := 90) cx dX10_farthest_90 rfl rfl ?_
      refine f_isub (pc := 91) cx dX10_farthest_91 ?_
      refine f_goto (pc := 92) (tgt := 99) cx dX10_farthest_92 (by decide) ?_
      exact f_weak (LSb.n (LSb.s (LSb.s (LSb.s (LSb.s (LSb.s (LSb.s (LSb.s (LSb.n LSb.e))))))))) (s_X10_farthest_99 cx hr hlk _ x1 x2 x3 q.2 x5 x6 x7 (q.2 - x3) k39 hk39)
  · refine f_iinc4 (pc := 76) cx dX10_farthest_76 kc_iconst_m1 (by decide) rfl ?_
    refine f_goto (pc := 79) (tgt := 58) cx dX10_farthest_79 (by decide) ?_
    exact f_weak (LSb.n (LSb.s (LSb.s (LSb.s (LSb.s (LSb.s (LSb.s (LSb.s (LSb.n LSb.e))))))))) (hk58 (q.1, q.2 + (-1)))
set_option maxRecDepth 4000 in
theorem s_X10_farthest_39 {p : Program} {l : Launch} {e : Env} {s : State} {m : MethodId} {args : Array Value} {below : List Frame} {meth : Method} {c : Code} {G : GT} (cx : CX p s m args c cX10_farthest 9 RX10 G) (hr : meth.sig.returnType = (some .int)) (hlk : meth.locks = false) (x1 : Int32) (x2 : Int32) : ∀ (n : Nat) (q : Hp × Int32 × Int32 × Int32 × Int32 × Int32), PF p l e (rmc 1 27) s m args below meth c 9 G 0 0 (QI below G args s) 39 [none, some (.int x1), some (.int x2), some (.int q.2.1), some (.int q.2.2.1), some (.int q.2.2.2.1), some (.int q.2.2.2.2.1), some (.int q.2.2.2.2.2), none] [] q.1 (lp (b_X10_farthest_39 x1 x2) n q) := by
  refine f_lp (lvf := fun (q : Hp × Int32 × Int32 × Int32 × Int32 × Int32) => [none, some (.int x1), some (.int x2), some (.int q.2.1), some (.int q.2.2.1), some (.int q.2.2.2.1), some (.int q.2.2.2.2.1), some (.int q.2.2.2.2.2), none]) (hf := fun (q : Hp × Int32 × Int32 × Int32 × Int32 × Int32) => q.1) (fun k39 hk39 q => ?_)
  show PF p l e (rmc 1 27) s m args below meth c 9 G 0 0 (QI below G args s) 39 [none, some (.int x1), some (.int x2), some (.int q.2.1), some (.int q.2.2.1), some (.int q.2.2.2.1), some (.int q.2.2.2.2.1), some (.int q.2.2.2.2.2), none] [] q.1 (b_X10_farthest_39 x1 x2 k39 q)
  unfold b_X10_farthest_39
  refine f_iload (pc := 39) cx dX10_farthest_39 rfl ?_
  refine f_iload_n (pc := 41) cx dX10_farthest_41 rfl rfl ?_
  refine f_icmp_gt (pc := 42) (tgt := 125) cx dX10_farthest_42 (by decide) (fun _ => ?_) (fun _ => ?_)
  · refine f_iload_n (pc := 125) cx dX10_farthest_125 rfl rfl ?_
    refine f_if_ne (pc := 126) (tgt := 134) cx dX10_farthest_126 (by decide) (fun _ => ?_) (fun _ => ?_)
    · refine f_iload (pc := 129) cx dX10_farthest_129 rfl ?_
      refine f_goto (pc := 131) (tgt := 136) cx dX10_farthest_131 (by decide) ?_
      exact f_iret cx hr hlk rfl dX10_farthest_136
    · refine f_iload (pc := 134) cx dX10_farthest_134 rfl ?_
      exact f_iret cx hr hlk rfl dX10_farthest_136
  · refine f_iload (pc := 45) cx dX10_farthest_45 rfl ?_
    refine f_iconst (pc := 47) cx dX10_farthest_47 kc_iconst_1 ?_
    refine f_icmp_le (pc := 48) (tgt := 58) cx dX10_farthest_48 (by decide) (fun _ => ?_) (fun _ => ?_)
    · exact f_weak (LSb.n (LSb.s (LSb.s (LSb.s (LSb.s (LSb.s (LSb.s (LSb.s (LSb.n LSb.e))))))))) (s_X10_farthest_58 cx hr hlk x1 x2 q.2.1 q.2.2.2.1 q.2.2.2.2.1 q.2.2.2.2.2 k39 hk39 FU (q.1, q.2.2.1))
    · refine f_iload_n (pc := 51) cx dX10_farthest_51 rfl rfl ?_
      refine f_iload (pc := 52) cx dX10_farthest_52 rfl ?_
      refine f_bind (fun r1 hr1 => ?_)
      refine k_X10_236 (pc := 54) cx (c_X10_stepped l G _ q.2.1 q.2.2.2.2.2 r1 hr1) ⟨by decide, by decide⟩ ⟨Nat.zero_le _, Nat.zero_le _⟩ (Nat.le_of_ble_eq_true rfl) dX10_farthest_54 ?_
      refine f_istore3 (pc := 57) cx dX10_farthest_57 (by decide) rfl ?_
      exact f_weak (LSb.n (LSb.s (LSb.s (LSb.s (LSb.s (LSb.s (LSb.s (LSb.s (LSb.n LSb.e))))))))) (s_X10_farthest_58 cx hr hlk x1 x2 r1.1 q.2.2.2.1 q.2.2.2.2.1 q.2.2.2.2.2 k39 hk39 FU (r1.2, q.2.2.1))
set_option maxRecDepth 4000 in
theorem s_X10_farthest {p : Program} {l : Launch} {e : Env} {s : State} {m : MethodId} {args : Array Value} {below : List Frame} {meth : Method} {c : Code} {G : GT} (cx : CX p s m args c cX10_farthest 9 RX10 G) (hr : meth.sig.returnType = (some .int)) (hlk : meth.locks = false) (h : Hp) (o0 : Nat) (x1 : Int32) (x2 : Int32) (hk_o0 : kd o0 = 9) : PF p l e (rmc 1 27) s m args below meth c 9 G 0 0 (QI below G args s) 0 [some (.ref (gad G o0)), some (.int x1), some (.int x2), none, none, none, none, none, none] [] h (p_X10_farthest h o0 x1 x2) := by
  unfold p_X10_farthest
  refine f_aload_n (pc := 0) cx dX10_farthest_0 rfl rfl ?_
  refine f_iconst (pc := 1) cx dX10_farthest_1 kc_iconst_0 ?_
  refine u_X10_45 (pc := 2) cx hk_o0 dX10_farthest_2 ?_
  refine f_nvh (fun h2 => ?_)
  refine f_iload_n (pc := 5) cx dX10_farthest_5 rfl rfl ?_
  refine f_bind (fun r3 hr3 => ?_)
  refine k_X10_312 (pc := 6) cx (c_X10_isCount l G _ x1 r3 hr3) ⟨by decide, by decide⟩ ⟨Nat.zero_le _, Nat.zero_le _⟩ (Nat.le_of_ble_eq_true rfl) dX10_farthest_6 ?_
  refine f_if_eq (pc := 9) (tgt := 21) cx dX10_farthest_9 (by decide) (fun _ => ?_) (fun _ => ?_)
  · refine f_iconst (pc := 21) cx dX10_farthest_21 kc_iconst_m1 ?_
    exact f_iret cx hr hlk rfl dX10_farthest_22
  · refine f_iload_n (pc := 12) cx dX10_farthest_12 rfl rfl ?_
    refine f_if_lt (pc := 13) (tgt := 21) cx dX10_farthest_13 (by decide) (fun _ => ?_) (fun _ => ?_)
    · refine f_iconst (pc := 21) cx dX10_farthest_21 kc_iconst_m1 ?_
      exact f_iret cx hr hlk rfl dX10_farthest_22
    · refine f_iload_n (pc := 16) cx dX10_farthest_16 rfl rfl ?_
      refine f_iconst (pc := 17) cx dX10_farthest_17 kc_iconst_1 ?_
      refine f_icmp_le (pc := 18) (tgt := 23) cx dX10_farthest_18 (by decide) (fun _ => ?_) (fun _ => ?_)
      · refine f_ldc (pc := 23) cx w_1310 dX10_farthest_23 ?_
        refine f_istore3 (pc := 25) cx dX10_farthest_25 (by decide) rfl ?_
        refine f_ldc (pc := 26) cx w_1310 dX10_farthest_26 ?_
        refine f_istore4 (pc := 28) cx dX10_farthest_28 (by decide) rfl ?_
        refine f_iconst (pc := 30) cx dX10_farthest_30 kc_iconst_0 ?_
        refine f_istore5 (pc := 31) cx dX10_farthest_31 (by decide) rfl ?_
        refine f_iconst (pc := 33) cx dX10_farthest_33 kc_iconst_m1 ?_
        refine f_istore6 (pc := 34) cx dX10_farthest_34 (by decide) rfl ?_
        refine f_iconst (pc := 36) cx dX10_farthest_36 kc_iconst_1 ?_
        refine f_istore7 (pc := 37) cx dX10_farthest_37 (by decide) rfl ?_
        exact f_weak (LSb.n (LSb.s (LSb.s (LSb.s (LSb.s (LSb.s (LSb.s (LSb.s (LSb.n LSb.e))))))))) (s_X10_farthest_39 cx hr hlk x1 x2 FU (r3.2, 65535, 65535, 0, (-1), 1))
      · refine f_iconst (pc := 21) cx dX10_farthest_21 kc_iconst_m1 ?_
        exact f_iret cx hr hlk rfl dX10_farthest_22
set_option maxRecDepth 4000 in
theorem c_X10_farthest (l : Launch) (G : GT) (h : Hp) (o0 : Nat) (x1 : Int32) (x2 : Int32) (hk_o0 : kd o0 = 9) : CtI l G yX10_farthest cX10_farthest 9 (some .int) 1 27 [.ref (gad G o0), .int x1, .int x2] h (p_X10_farthest h o0 x1 x2) := fun a ha => Ct.of (lv := [some (.ref (gad G o0)), some (.int x1), some (.int x2), none, none, none, none, none, none]) (by decide) rfl (Nat.le_of_ble_eq_true rfl) rfl (fun p e s m args below meth c cx hr hlk => s_X10_farthest cx hr hlk h o0 x1 x2 hk_o0 a ha)
def q_X10_flowOf_89 (k9 : Hp × Int32 × Int32 × Int32 → Option (Int32 × Hp)) (h : Hp) (o0 : Nat) (x1 : Int32) (x2 : Int32) (x3 : Int32) (x5 : Int32) (x6 : Int32) (y0 : Int32) : Option (Int32 × Hp) :=
  if x2 = 0 then (Option.bind (p_X10_frameOf h o0 x5 1) fun r1 => nv (x3 + r1.1) fun v2 => k9 (r1.2, v2, y0, x5 + 1)) else (if x2 = 3 then (nv (x3 + x6) fun v3 => k9 (h, v3, y0, x5 + 1)) else (nv (x3 + 0) fun v4 => k9 (h, v4, y0, x5 + 1)))
def q_X10_flowOf_42 (k9 : Hp × Int32 × Int32 × Int32 → Option (Int32 × Hp)) (h : Hp) (o0 : Nat) (x1 : Int32) (x2 : Int32) (x3 : Int32) (x4 : Int32) (x5 : Int32) : Option (Int32 × Hp) :=
  Option.bind (p_X10_frameOf h o0 x5 6) fun r5 => if r5.1 = 1 then (Option.bind (p_X10_frameOf r5.2 o0 x5 7) fun r6 => Option.bind (p_X10_frameOf r6.2 o0 x5 3) fun r7 => nv (r6.1 - r7.1) fun v8 => if v8 ≤ x4 then (q_X10_flowOf_89 k9 r7.2 o0 x1 x2 x3 x5 v8 x4) else (q_X10_flowOf_89 k9 r7.2 o0 x1 x2 x3 x5 v8 v8)) else (k9 (r5.2, x3, x4, x5 + 1))
def b_X10_flowOf_9 (o0 : Nat) (x1 : Int32) (x2 : Int32) (k9 : Hp × Int32 × Int32 × Int32 → Option (Int32 × Hp)) (q : Hp × Int32 × Int32 × Int32) : Option (Int32 × Hp) :=
  if (q.1 (o0 + 6) 1) ≤ q.2.2.2 then (if x2 = 2 then (some (q.2.2.1, q.1)) else (some (q.2.1, q.1))) else (Option.bind (p_X10_frameOf q.1 o0 q.2.2.2 0) fun r9 => if r9.1 = x1 then (if x2 = 1 then (q_X10_flowOf_42 k9 r9.2 o0 x1 x2 (q.2.1 + 1) q.2.2.1 q.2.2.2) else (q_X10_flowOf_42 k9 r9.2 o0 x1 x2 q.2.1 q.2.2.1 q.2.2.2)) else (k9 (r9.2, q.2.1, q.2.2.1, q.2.2.2 + 1)))
def p_X10_flowOf (h : Hp) (o0 : Nat) (x1 : Int32) (x2 : Int32) : Option (Int32 × Hp) :=
  lp (b_X10_flowOf_9 o0 x1 x2) FU (h, 0, (-2), 0)
set_option maxRecDepth 4000 in
theorem s_X10_flowOf_89 {p : Program} {l : Launch} {e : Env} {s : State} {m : MethodId} {args : Array Value} {below : List Frame} {meth : Method} {c : Code} {G : GT} (cx : CX p s m args c cX10_flowOf 7 RX10 G) (hr : meth.sig.returnType = (some .int)) (hlk : meth.locks = false) (h : Hp) (o0 : Nat) (x1 : Int32) (x2 : Int32) (x3 : Int32) (x5 : Int32) (x6 : Int32) (y0 : Int32) (hk_o0 : kd o0 = 9) (k9 : Hp × Int32 × Int32 × Int32 → Option (Int32 × Hp)) (hk9 : ∀ (q : Hp × Int32 × Int32 × Int32), PF p l e (rmc 1 22) s m args below meth c 7 G 0 0 (QI below G args s) 9 [some (.ref (gad G o0)), some (.int x1), some (.int x2), some (.int q.2.1), some (.int q.2.2.1), some (.int q.2.2.2), none] [] q.1 (k9 q)) : PF p l e (rmc 1 22) s m args below meth c 7 G 0 0 (QI below G args s) 89 [some (.ref (gad G o0)), some (.int x1), some (.int x2), some (.int x3), none, some (.int x5), some (.int x6)] [.int y0] h (q_X10_flowOf_89 k9 h o0 x1 x2 x3 x5 x6 y0) := by
  unfold q_X10_flowOf_89
  refine f_istore4 (pc := 89) cx dX10_flowOf_89 (by decide) rfl ?_
  refine f_iload_n (pc := 91) cx dX10_flowOf_91 rfl rfl ?_
  refine f_iload_n (pc := 92) cx dX10_flowOf_92 rfl rfl ?_
  refine f_if_ne (pc := 93) (tgt := 106) cx dX10_flowOf_93 (by decide) (fun _ => ?_) (fun _ => ?_)
  · refine f_aload_n (pc := 96) cx dX10_flowOf_96 rfl rfl ?_
    refine f_iload (pc := 97) cx dX10_flowOf_97 rfl ?_
    refine f_iconst (pc := 99) cx dX10_flowOf_99 kc_iconst_1 ?_
    refine f_bind (fun r1 hr1 => ?_)
    refine k_X10_194 (pc := 100) cx (c_X10_frameOf l G _ o0 x5 1 hk_o0 r1 hr1) hk_o0 ⟨by decide, by decide⟩ ⟨Nat.zero_le _, Nat.zero_le _⟩ (Nat.le_of_ble_eq_true rfl) dX10_flowOf_100 ?_
    refine f_goto (pc := 103) (tgt := 117) cx dX10_flowOf_103 (by decide) ?_
    refine f_iadd (pc := 117) cx dX10_flowOf_117 ?_
    refine f_nvi (fun v2 => ?_)
    refine f_istore3 (pc := 118) cx dX10_flowOf_118 (by decide) rfl ?_
    refine f_iinc5 (pc := 119) cx dX10_flowOf_119 kc_iconst_1 (by decide) rfl ?_
    refine f_goto (pc := 122) (tgt := 9) cx dX10_flowOf_122 (by decide) ?_
    exact f_weak (LSb.s (LSb.s (LSb.s (LSb.s (LSb.s (LSb.s (LSb.n LSb.e))))))) (hk9 (r1.2, v2, y0, x5 + 1))
  · refine f_iload_n (pc := 106) cx dX10_flowOf_106 rfl rfl ?_
    refine f_iconst (pc := 107) cx dX10_flowOf_107 kc_iconst_3 ?_
    refine f_icmp_ne (pc := 108) (tgt := 116) cx dX10_flowOf_108 (by decide) (fun _ => ?_) (fun _ => ?_)
    · refine f_iload (pc := 111) cx dX10_flowOf_111 rfl ?_
      refine f_goto (pc := 113) (tgt := 117) cx dX10_flowOf_113 (by decide) ?_
      refine f_iadd (pc := 117) cx dX10_flowOf_117 ?_
      refine f_nvi (fun v3 => ?_)
      refine f_istore3 (pc := 118) cx dX10_flowOf_118 (by decide) rfl ?_
      refine f_iinc5 (pc := 119) cx dX10_flowOf_119 kc_iconst_1 (by decide) rfl ?_
      refine f_goto (pc := 122) (tgt := 9) cx dX10_flowOf_122 (by decide) ?_
      exact f_weak (LSb.s (LSb.s (LSb.s (LSb.s (LSb.s (LSb.s (LSb.n LSb.e))))))) (hk9 (h, v3, y0, x5 + 1))
    · refine f_iconst (pc := 116) cx dX10_flowOf_116 kc_iconst_0 ?_
      refine f_iadd (pc := 117) cx dX10_flowOf_117 ?_
      refine f_nvi (fun v4 => ?_)
      refine f_istore3 (pc := 118) cx dX10_flowOf_118 (by decide) rfl ?_
      refine f_iinc5 (pc := 119) cx dX10_flowOf_119 kc_iconst_1 (by decide) rfl ?_
      refine f_goto (pc := 122) (tgt := 9) cx dX10_flowOf_122 (by decide) ?_
      exact f_weak (LSb.s (LSb.s (LSb.s (LSb.s (LSb.s (LSb.s (LSb.n LSb.e))))))) (hk9 (h, v4, y0, x5 + 1))
set_option maxRecDepth 4000 in
theorem s_X10_flowOf_42 {p : Program} {l : Launch} {e : Env} {s : State} {m : MethodId} {args : Array Value} {below : List Frame} {meth : Method} {c : Code} {G : GT} (cx : CX p s m args c cX10_flowOf 7 RX10 G) (hr : meth.sig.returnType = (some .int)) (hlk : meth.locks = false) (h : Hp) (o0 : Nat) (x1 : Int32) (x2 : Int32) (x3 : Int32) (x4 : Int32) (x5 : Int32) (hk_o0 : kd o0 = 9) (k9 : Hp × Int32 × Int32 × Int32 → Option (Int32 × Hp)) (hk9 : ∀ (q : Hp × Int32 × Int32 × Int32), PF p l e (rmc 1 22) s m args below meth c 7 G 0 0 (QI below G args s) 9 [some (.ref (gad G o0)), some (.int x1), some (.int x2), some (.int q.2.1), some (.int q.2.2.1), some (.int q.2.2.2), none] [] q.1 (k9 q)) : PF p l e (rmc 1 22) s m args below meth c 7 G 0 0 (QI below G args s) 42 [some (.ref (gad G o0)), some (.int x1), some (.int x2), some (.int x3), some (.int x4), some (.int x5), none] [] h (q_X10_flowOf_42 k9 h o0 x1 x2 x3 x4 x5) := by
  unfold q_X10_flowOf_42
  refine f_aload_n (pc := 42) cx dX10_flowOf_42 rfl rfl ?_
  refine f_iload (pc := 43) cx dX10_flowOf_43 rfl ?_
  refine f_bipush (pc := 45) cx dX10_flowOf_45 kc_bipush_6 ?_
  refine f_bind (fun r5 hr5 => ?_)
  refine k_X10_194 (pc := 47) cx (c_X10_frameOf l G _ o0 x5 6 hk_o0 r5 hr5) hk_o0 ⟨by decide, by decide⟩ ⟨Nat.zero_le _, Nat.zero_le _⟩ (Nat.le_of_ble_eq_true rfl) dX10_flowOf_47 ?_
  refine f_iconst (pc := 50) cx dX10_flowOf_50 kc_iconst_1 ?_
  refine f_icmp_eq (pc := 51) (tgt := 57) cx dX10_flowOf_51 (by decide) (fun _ => ?_) (fun _ => ?_)
  · refine f_aload_n (pc := 57) cx dX10_flowOf_57 rfl rfl ?_
    refine f_iload (pc := 58) cx dX10_flowOf_58 rfl ?_
    refine f_bipush (pc := 60) cx dX10_flowOf_60 kc_bipush_7 ?_
    refine f_bind (fun r6 hr6 => ?_)
    refine k_X10_194 (pc := 62) cx (c_X10_frameOf l G _ o0 x5 7 hk_o0 r6 hr6) hk_o0 ⟨by decide, by decide⟩ ⟨Nat.zero_le _, Nat.zero_le _⟩ (Nat.le_of_ble_eq_true rfl) dX10_flowOf_62 ?_
    refine f_aload_n (pc := 65) cx dX10_flowOf_65 rfl rfl ?_
    refine f_iload (pc := 66) cx dX10_flowOf_66 rfl ?_
    refine f_iconst (pc := 68) cx dX10_flowOf_68 kc_iconst_3 ?_
    refine f_bind (fun r7 hr7 => ?_)
    refine k_X10_194 (pc := 69) cx (c_X10_frameOf l G _ o0 x5 3 hk_o0 r7 hr7) hk_o0 ⟨by decide, by decide⟩ ⟨Nat.zero_le _, Nat.zero_le _⟩ (Nat.le_of_ble_eq_true rfl) dX10_flowOf_69 ?_
    refine f_isub (pc := 72) cx dX10_flowOf_72 ?_
    refine f_nvi (fun v8 => ?_)
    refine f_istore6 (pc := 73) cx dX10_flowOf_73 (by decide) rfl ?_
    refine f_iload (pc := 75) cx dX10_flowOf_75 rfl ?_
    refine f_iload (pc := 77) cx dX10_flowOf_77 rfl ?_
    refine f_icmp_le (pc := 79) (tgt := 87) cx dX10_flowOf_79 (by decide) (fun _ => ?_) (fun _ => ?_)
    · refine f_iload (pc := 87) cx dX10_flowOf_87 rfl ?_
      exact f_weak (LSb.s (LSb.s (LSb.s (LSb.s (LSb.n (LSb.s (LSb.s LSb.e))))))) (s_X10_flowOf_89 cx hr hlk _ o0 x1 x2 x3 x5 v8 x4 hk_o0 k9 hk9)
    · refine f_iload (pc := 82) cx dX10_flowOf_82 rfl ?_
      refine f_goto (pc := 84) (tgt := 89) cx dX10_flowOf_84 (by decide) ?_
      exact f_weak (LSb.s (LSb.s (LSb.s (LSb.s (LSb.n (LSb.s (LSb.s LSb.e))))))) (s_X10_flowOf_89 cx hr hlk _ o0 x1 x2 x3 x5 v8 v8 hk_o0 k9 hk9)
  · refine f_goto (pc := 54) (tgt := 119) cx dX10_flowOf_54 (by decide) ?_
    refine f_iinc5 (pc := 119) cx dX10_flowOf_119 kc_iconst_1 (by decide) rfl ?_
    refine f_goto (pc := 122) (tgt := 9) cx dX10_flowOf_122 (by decide) ?_
    exact f_weak (LSb.s (LSb.s (LSb.s (LSb.s (LSb.s (LSb.s (LSb.n LSb.e))))))) (hk9 (r5.2, x3, x4, x5 + 1))
set_option maxRecDepth 4000 in
theorem s_X10_flowOf_9 {p : Program} {l : Launch} {e : Env} {s : State} {m : MethodId} {args : Array Value} {below : List Frame} {meth : Method} {c : Code} {G : GT} (cx : CX p s m args c cX10_flowOf 7 RX10 G) (hr : meth.sig.returnType = (some .int)) (hlk : meth.locks = false) (o0 : Nat) (x1 : Int32) (x2 : Int32) (hk_o0 : kd o0 = 9) : ∀ (n : Nat) (q : Hp × Int32 × Int32 × Int32), PF p l e (rmc 1 22) s m args below meth c 7 G 0 0 (QI below G args s) 9 [some (.ref (gad G o0)), some (.int x1), some (.int x2), some (.int q.2.1), some (.int q.2.2.1), some (.int q.2.2.2), none] [] q.1 (lp (b_X10_flowOf_9 o0 x1 x2) n q) := by
  refine f_lp (lvf := fun (q : Hp × Int32 × Int32 × Int32) => [some (.ref (gad G o0)), some (.int x1), some (.int x2), some (.int q.2.1), some (.int q.2.2.1), some (.int q.2.2.2), none]) (hf := fun (q : Hp × Int32 × Int32 × Int32) => q.1) (fun k9 hk9 q => ?_)
  show PF p l e (rmc 1 22) s m args below meth c 7 G 0 0 (QI below G args s) 9 [some (.ref (gad G o0)), some (.int x1), some (.int x2), some (.int q.2.1), some (.int q.2.2.1), some (.int q.2.2.2), none] [] q.1 (b_X10_flowOf_9 o0 x1 x2 k9 q)
  unfold b_X10_flowOf_9
  refine f_iload (pc := 9) cx dX10_flowOf_9 rfl ?_
  refine f_aload_n (pc := 11) cx dX10_flowOf_11 rfl rfl ?_
  refine g_X10_30 (pc := 12) cx hk_o0 dX10_flowOf_12 ?_
  refine f_iconst (pc := 15) cx dX10_flowOf_15 kc_iconst_1 ?_
  refine f_ialdk (pc := 16) (j := 1) (n := 3715) cx (kf_9_20 hk_o0) (by decide) (by decide) kl_1 dX10_flowOf_16 ?_
  refine f_icmp_ge (pc := 17) (tgt := 125) cx dX10_flowOf_17 (by decide) (fun _ => ?_) (fun _ => ?_)
  · refine f_iload_n (pc := 125) cx dX10_flowOf_125 rfl rfl ?_
    refine f_iconst (pc := 126) cx dX10_flowOf_126 kc_iconst_2 ?_
    refine f_icmp_ne (pc := 127) (tgt := 135) cx dX10_flowOf_127 (by decide) (fun _ => ?_) (fun _ => ?_)
    · refine f_iload (pc := 130) cx dX10_flowOf_130 rfl ?_
      refine f_goto (pc := 132) (tgt := 136) cx dX10_flowOf_132 (by decide) ?_
      exact f_iret cx hr hlk rfl dX10_flowOf_136
    · refine f_iload_n (pc := 135) cx dX10_flowOf_135 rfl rfl ?_
      exact f_iret cx hr hlk rfl dX10_flowOf_136
  · refine f_aload_n (pc := 20) cx dX10_flowOf_20 rfl rfl ?_
    refine f_iload (pc := 21) cx dX10_flowOf_21 rfl ?_
    refine f_iconst (pc := 23) cx dX10_flowOf_23 kc_iconst_0 ?_
    refine f_bind (fun r9 hr9 => ?_)
    refine k_X10_194 (pc := 24) cx (c_X10_frameOf l G _ o0 q.2.2.2 0 hk_o0 r9 hr9) hk_o0 ⟨by decide, by decide⟩ ⟨Nat.zero_le _, Nat.zero_le _⟩ (Nat.le_of_ble_eq_true rfl) dX10_flowOf_24 ?_
    refine f_iload_n (pc := 27) cx dX10_flowOf_27 rfl rfl ?_
    refine f_icmp_eq (pc := 28) (tgt := 34) cx dX10_flowOf_28 (by decide) (fun _ => ?_) (fun _ => ?_)
    · refine f_iload_n (pc := 34) cx dX10_flowOf_34 rfl rfl ?_
      refine f_iconst (pc := 35) cx dX10_flowOf_35 kc_iconst_1 ?_
      refine f_icmp_ne (pc := 36) (tgt := 42) cx dX10_flowOf_36 (by decide) (fun _ => ?_) (fun _ => ?_)
      · refine f_iinc3 (pc := 39) cx dX10_flowOf_39 kc_iconst_1 (by decide) rfl ?_
        exact f_weak (LSb.s (LSb.s (LSb.s (LSb.s (LSb.s (LSb.s (LSb.n LSb.e))))))) (s_X10_flowOf_42 cx hr hlk _ o0 x1 x2 (q.2.1 + 1) q.2.2.1 q.2.2.2 hk_o0 k9 hk9)
      · exact f_weak (LSb.s (LSb.s (LSb.s (LSb.s (LSb.s (LSb.s (LSb.n LSb.e))))))) (s_X10_flowOf_42 cx hr hlk _ o0 x1 x2 q.2.1 q.2.2.1 q.2.2.2 hk_o0 k9 hk9)
    · refine f_goto (pc := 31) (tgt := 119) cx dX10_flowOf_31 (by decide) ?_
      refine f_iinc5 (pc := 119) cx dX10_flowOf_119 kc_iconst_1 (by decide) rfl ?_
      refine f_goto (pc := 122) (tgt := 9) cx dX10_flowOf_122 (by decide) ?_
      exact f_weak (LSb.s (LSb.s (LSb.s (LSb.s (LSb.s (LSb.s (LSb.n LSb.e))))))) (hk9 (r9.2, q.2.1, q.2.2.1, q.2.2.2 + 1))
set_option maxRecDepth 4000 in
theorem s_X10_flowOf {p : Program} {l : Launch} {e : Env} {s : State} {m : MethodId} {args : Array Value} {below : List Frame} {meth : Method} {c : Code} {G : GT} (cx : CX p s m args c cX10_flowOf 7 RX10 G) (hr : meth.sig.returnType = (some .int)) (hlk : meth.locks = false) (h : Hp) (o0 : Nat) (x1 : Int32) (x2 : Int32) (hk_o0 : kd o0 = 9) : PF p l e (rmc 1 22) s m args below meth c 7 G 0 0 (QI below G args s) 0 [some (.ref (gad G o0)), some (.int x1), some (.int x2), none, none, none, none] [] h (p_X10_flowOf h o0 x1 x2) := by
  unfold p_X10_flowOf
  refine f_iconst (pc := 0) cx dX10_flowOf_0 kc_iconst_0 ?_
  refine f_istore3 (pc := 1) cx dX10_flowOf_1 (by decide) rfl ?_
  refine f_bipush (pc := 2) cx dX10_flowOf_2 kc_bipush_m2 ?_
  refine f_istore4 (pc := 4) cx dX10_flowOf_4 (by decide) rfl ?_
  refine f_iconst (pc := 6) cx dX10_flowOf_6 kc_iconst_0 ?_
  refine f_istore5 (pc := 7) cx dX10_flowOf_7 (by decide) rfl ?_
  exact f_weak (LSb.s (LSb.s (LSb.s (LSb.s (LSb.s (LSb.s (LSb.n LSb.e))))))) (s_X10_flowOf_9 cx hr hlk o0 x1 x2 hk_o0 FU (h, 0, (-2), 0))
set_option maxRecDepth 4000 in
theorem c_X10_flowOf (l : Launch) (G : GT) (h : Hp) (o0 : Nat) (x1 : Int32) (x2 : Int32) (hk_o0 : kd o0 = 9) : CtI l G yX10_flowOf cX10_flowOf 7 (some .int) 1 22 [.ref (gad G o0), .int x1, .int x2] h (p_X10_flowOf h o0 x1 x2) := fun a ha => Ct.of (lv := [some (.ref (gad G o0)), some (.int x1), some (.int x2), none, none, none, none]) (by decide) rfl (Nat.le_of_ble_eq_true rfl) rfl (fun p e s m args below meth c cx hr hlk => s_X10_flowOf cx hr hlk h o0 x1 x2 hk_o0 a ha)
def p_X10_waitOf (h : Hp) (o0 : Nat) (x1 : Int32) : Option (Int32 × Hp) :=
  if ib (2676 + x1) 3715 then (nv (h (o0 + 6) (Int32.toNatClampNeg (2676 + x1))) fun v2 => Option.bind (p_X10_frameOf h o0 v2 7) fun r3 => Option.bind (p_X10_frameOf r3.2 o0 v2 3) fun r4 => some (r3.1 - r4.1, r4.2)) else none
set_option maxRecDepth 4000 in
theorem s_X10_waitOf {p : Program} {l : Launch} {e : Env} {s : State} {m : MethodId} {args : Array Value} {below : List Frame} {meth : Method} {c : Code} {G : GT} (cx : CX p s m args c cX10_waitOf 3 RX10 G) (hr : meth.sig.returnType = (some .int)) (hlk : meth.locks = false) (h : Hp) (o0 : Nat) (x1 : Int32) (hk_o0 : kd o0 = 9) : PF p l e (rmc 1 22) s m args below meth c 3 G 0 0 (QI below G args s) 0 [some (.ref (gad G o0)), some (.int x1), none] [] h (p_X10_waitOf h o0 x1) := by
  unfold p_X10_waitOf
  refine f_aload_n (pc := 0) cx dX10_waitOf_0 rfl rfl ?_
  refine g_X10_30 (pc := 1) cx hk_o0 dX10_waitOf_1 ?_
  refine f_sipush (pc := 4) cx dX10_waitOf_4 kc_sipush_2676 ?_
  refine f_iload_n (pc := 7) cx dX10_waitOf_7 rfl rfl ?_
  refine f_iadd (pc := 8) cx dX10_waitOf_8 ?_
  refine f_need (fun c1 => ?_)
  refine f_iald (pc := 9) (n := 3715) cx (kf_9_20 hk_o0) (by decide) c1 dX10_waitOf_9 ?_
  refine f_nvi (fun v2 => ?_)
  refine f_istore2 (pc := 10) cx dX10_waitOf_10 (by decide) rfl ?_
  refine f_aload_n (pc := 11) cx dX10_waitOf_11 rfl rfl ?_
  refine f_iload_n (pc := 12) cx dX10_waitOf_12 rfl rfl ?_
  refine f_bipush (pc := 13) cx dX10_waitOf_13 kc_bipush_7 ?_
  refine f_bind (fun r3 hr3 => ?_)
  refine k_X10_194 (pc := 15) cx (c_X10_frameOf l G _ o0 v2 7 hk_o0 r3 hr3) hk_o0 ⟨by decide, by decide⟩ ⟨Nat.zero_le _, Nat.zero_le _⟩ (Nat.le_of_ble_eq_true rfl) dX10_waitOf_15 ?_
  refine f_aload_n (pc := 18) cx dX10_waitOf_18 rfl rfl ?_
  refine f_iload_n (pc := 19) cx dX10_waitOf_19 rfl rfl ?_
  refine f_iconst (pc := 20) cx dX10_waitOf_20 kc_iconst_3 ?_
  refine f_bind (fun r4 hr4 => ?_)
  refine k_X10_194 (pc := 21) cx (c_X10_frameOf l G _ o0 v2 3 hk_o0 r4 hr4) hk_o0 ⟨by decide, by decide⟩ ⟨Nat.zero_le _, Nat.zero_le _⟩ (Nat.le_of_ble_eq_true rfl) dX10_waitOf_21 ?_
  refine f_isub (pc := 24) cx dX10_waitOf_24 ?_
  exact f_iret cx hr hlk rfl dX10_waitOf_25
set_option maxRecDepth 4000 in
theorem c_X10_waitOf (l : Launch) (G : GT) (h : Hp) (o0 : Nat) (x1 : Int32) (hk_o0 : kd o0 = 9) : CtI l G yX10_waitOf cX10_waitOf 3 (some .int) 1 22 [.ref (gad G o0), .int x1] h (p_X10_waitOf h o0 x1) := fun a ha => Ct.of (lv := [some (.ref (gad G o0)), some (.int x1), none]) (by decide) rfl (Nat.le_of_ble_eq_true rfl) rfl (fun p e s m args below meth c cx hr hlk => s_X10_waitOf cx hr hlk h o0 x1 hk_o0 a ha)
def b_X10_load_26 (o0 : Nat) (x1 : Int32) (k26 : Hp × Int32 × Int32 → Option (Int32 × Hp)) (q : Hp × Int32 × Int32) : Option (Int32 × Hp) :=
  if 9999 < q.2.2 then (some (q.2.1, q.1)) else (Option.bind (p_X10_setOf q.1 q.2.2 (q.1 (o0 + 6) 10)) fun r1 => if r1.1 = x1 then (nv (q.2.1 + 1) fun v2 => k26 (r1.2, v2, q.2.2 + 1)) else (nv (q.2.1 + 0) fun v3 => k26 (r1.2, v3, q.2.2 + 1)))
def p_X10_load (h : Hp) (o0 : Nat) (x1 : Int32) : Option (Int32 × Hp) :=
  nv (hp h o0 0 0) fun h4 => if x1 < 0 then (some ((-1), h4)) else (if x1 < (h4 (o0 + 6) 10) then (lp (b_X10_load_26 o0 x1) FU (h4, 0, 0)) else (some ((-1), h4)))
set_option maxRecDepth 4000 in
theorem s_X10_load_26 {p : Program} {l : Launch} {e : Env} {s : State} {m : MethodId} {args : Array Value} {below : List Frame} {meth : Method} {c : Code} {G : GT} (cx : CX p s m args c cX10_load 4 RX10 G) (hr : meth.sig.returnType = (some .int)) (hlk : meth.locks = false) (o0 : Nat) (x1 : Int32) (hk_o0 : kd o0 = 9) : ∀ (n : Nat) (q : Hp × Int32 × Int32), PF p l e (rmc 1 21) s m args below meth c 4 G 0 0 (QI below G args s) 26 [some (.ref (gad G o0)), some (.int x1), some (.int q.2.1), some (.int q.2.2)] [] q.1 (lp (b_X10_load_26 o0 x1) n q) := by
  refine f_lp (lvf := fun (q : Hp × Int32 × Int32) => [some (.ref (gad G o0)), some (.int x1), some (.int q.2.1), some (.int q.2.2)]) (hf := fun (q : Hp × Int32 × Int32) => q.1) (fun k26 hk26 q => ?_)
  show PF p l e (rmc 1 21) s m args below meth c 4 G 0 0 (QI below G args s) 26 [some (.ref (gad G o0)), some (.int x1), some (.int q.2.1), some (.int q.2.2)] [] q.1 (b_X10_load_26 o0 x1 k26 q)
  unfold b_X10_load_26
  refine f_iload_n (pc := 26) cx dX10_load_26 rfl rfl ?_
  refine f_sipush (pc := 27) cx dX10_load_27 kc_sipush_9999 ?_
  refine f_icmp_gt (pc := 30) (tgt := 62) cx dX10_load_30 (by decide) (fun _ => ?_) (fun _ => ?_)
  · refine f_iload_n (pc := 62) cx dX10_load_62 rfl rfl ?_
    exact f_iret cx hr hlk rfl dX10_load_63
  · refine f_iload_n (pc := 33) cx dX10_load_33 rfl rfl ?_
    refine f_iload_n (pc := 34) cx dX10_load_34 rfl rfl ?_
    refine f_aload_n (pc := 35) cx dX10_load_35 rfl rfl ?_
    refine g_X10_30 (pc := 36) cx hk_o0 dX10_load_36 ?_
    refine f_bipush (pc := 39) cx dX10_load_39 kc_bipush_10 ?_
    refine f_ialdk (pc := 41) (j := 10) (n := 3715) cx (kf_9_20 hk_o0) (by decide) (by decide) kl_10 dX10_load_41 ?_
    refine f_bind (fun r1 hr1 => ?_)
    refine k_X10_181 (pc := 42) cx (c_X10_setOf l G _ q.2.2 (q.1 (o0 + 6) 10) r1 hr1) ⟨by decide, by decide⟩ ⟨Nat.zero_le _, Nat.zero_le _⟩ (Nat.le_of_ble_eq_true rfl) dX10_load_42 ?_
    refine f_iload_n (pc := 45) cx dX10_load_45 rfl rfl ?_
    refine f_icmp_ne (pc := 46) (tgt := 53) cx dX10_load_46 (by decide) (fun _ => ?_) (fun _ => ?_)
    · refine f_iconst (pc := 49) cx dX10_load_49 kc_iconst_1 ?_
      refine f_goto (pc := 50) (tgt := 54) cx dX10_load_50 (by decide) ?_
      refine f_iadd (pc := 54) cx dX10_load_54 ?_
      refine f_nvi (fun v2 => ?_)
      refine f_istore2 (pc := 55) cx dX10_load_55 (by decide) rfl ?_
      refine f_iinc3 (pc := 56) cx dX10_load_56 kc_iconst_1 (by decide) rfl ?_
      refine f_goto (pc := 59) (tgt := 26) cx dX10_load_59 (by decide) ?_
      exact f_weak (LSb.s (LSb.s (LSb.s (LSb.s LSb.e)))) (hk26 (r1.2, v2, q.2.2 + 1))
    · refine f_iconst (pc := 53) cx dX10_load_53 kc_iconst_0 ?_
      refine f_iadd (pc := 54) cx dX10_load_54 ?_
      refine f_nvi (fun v3 => ?_)
      refine f_istore2 (pc := 55) cx dX10_load_55 (by decide) rfl ?_
      refine f_iinc3 (pc := 56) cx dX10_load_56 kc_iconst_1 (by decide) rfl ?_
      refine f_goto (pc := 59) (tgt := 26) cx dX10_load_59 (by decide) ?_
      exact f_weak (LSb.s (LSb.s (LSb.s (LSb.s LSb.e)))) (hk26 (r1.2, v3, q.2.2 + 1))
set_option maxRecDepth 4000 in
theorem s_X10_load {p : Program} {l : Launch} {e : Env} {s : State} {m : MethodId} {args : Array Value} {below : List Frame} {meth : Method} {c : Code} {G : GT} (cx : CX p s m args c cX10_load 4 RX10 G) (hr : meth.sig.returnType = (some .int)) (hlk : meth.locks = false) (h : Hp) (o0 : Nat) (x1 : Int32) (hk_o0 : kd o0 = 9) : PF p l e (rmc 1 21) s m args below meth c 4 G 0 0 (QI below G args s) 0 [some (.ref (gad G o0)), some (.int x1), none, none] [] h (p_X10_load h o0 x1) := by
  unfold p_X10_load
  refine f_aload_n (pc := 0) cx dX10_load_0 rfl rfl ?_
  refine f_iconst (pc := 1) cx dX10_load_1 kc_iconst_0 ?_
  refine u_X10_45 (pc := 2) cx hk_o0 dX10_load_2 ?_
  refine f_nvh (fun h4 => ?_)
  refine f_iload_n (pc := 5) cx dX10_load_5 rfl rfl ?_
  refine f_if_lt (pc := 6) (tgt := 20) cx dX10_load_6 (by decide) (fun _ => ?_) (fun _ => ?_)
  · refine f_iconst (pc := 20) cx dX10_load_20 kc_iconst_m1 ?_
    exact f_iret cx hr hlk rfl dX10_load_21
  · refine f_iload_n (pc := 9) cx dX10_load_9 rfl rfl ?_
    refine f_aload_n (pc := 10) cx dX10_load_10 rfl rfl ?_
    refine g_X10_30 (pc := 11) cx hk_o0 dX10_load_11 ?_
    refine f_bipush (pc := 14) cx dX10_load_14 kc_bipush_10 ?_
    refine f_ialdk (pc := 16) (j := 10) (n := 3715) cx (kf_9_20 hk_o0) (by decide) (by decide) kl_10 dX10_load_16 ?_
    refine f_icmp_lt (pc := 17) (tgt := 22) cx dX10_load_17 (by decide) (fun _ => ?_) (fun _ => ?_)
    · refine f_iconst (pc := 22) cx dX10_load_22 kc_iconst_0 ?_
      refine f_istore2 (pc := 23) cx dX10_load_23 (by decide) rfl ?_
      refine f_iconst (pc := 24) cx dX10_load_24 kc_iconst_0 ?_
      refine f_istore3 (pc := 25) cx dX10_load_25 (by decide) rfl ?_
      exact f_weak (LSb.s (LSb.s (LSb.s (LSb.s LSb.e)))) (s_X10_load_26 cx hr hlk o0 x1 hk_o0 FU (h4, 0, 0))
    · refine f_iconst (pc := 20) cx dX10_load_20 kc_iconst_m1 ?_
      exact f_iret cx hr hlk rfl dX10_load_21
set_option maxRecDepth 4000 in
theorem c_X10_load (l : Launch) (G : GT) (h : Hp) (o0 : Nat) (x1 : Int32) (hk_o0 : kd o0 = 9) : CtI l G yX10_load cX10_load 4 (some .int) 1 21 [.ref (gad G o0), .int x1] h (p_X10_load h o0 x1) := fun a ha => Ct.of (lv := [some (.ref (gad G o0)), some (.int x1), none, none]) (by decide) rfl (Nat.le_of_ble_eq_true rfl) rfl (fun p e s m args below meth c cx hr hlk => s_X10_load cx hr hlk h o0 x1 hk_o0 a ha)
def q_X10_shared_88 (k9 : Hp × Int32 × Int32 → Option (Int32 × Hp)) (h : Hp) (o0 : Nat) (x1 : Int32) (x2 : Int32) (x3 : Int32) : Option (Int32 × Hp) :=
  if x3 = 0 then (nv (x1 + 0) fun v1 => k9 (h, v1, x2 + 1)) else (nv (x1 + 1) fun v2 => k9 (h, v2, x2 + 1))
def b_X10_shared_39 (k9 : Hp × Int32 × Int32 → Option (Int32 × Hp)) (o0 : Nat) (x1 : Int32) (x2 : Int32) (k39 : Hp × Int32 × Int32 → Option (Int32 × Hp)) (q : Hp × Int32 × Int32) : Option (Int32 × Hp) :=
  if x2 ≤ q.2.2 then (q_X10_shared_88 k9 q.1 o0 x1 x2 q.2.1) else (if q.2.1 = 0 then (q_X10_shared_88 k9 q.1 o0 x1 x2 q.2.1) else (Option.bind (p_X10_frameOf q.1 o0 q.2.2 9) fun r3 => if r3.1 = 0 then (k39 (r3.2, 1, q.2.2 + 1)) else (Option.bind (p_X10_frameOf r3.2 o0 q.2.2 0) fun r4 => Option.bind (p_X10_frameOf r4.2 o0 x2 0) fun r5 => if r4.1 = r5.1 then (k39 (r5.2, 0, q.2.2 + 1)) else (k39 (r5.2, 1, q.2.2 + 1)))))
def b_X10_shared_9 (o0 : Nat) (k9 : Hp × Int32 × Int32 → Option (Int32 × Hp)) (q : Hp × Int32 × Int32) : Option (Int32 × Hp) :=
  if (q.1 (o0 + 6) 1) ≤ q.2.2 then (some (q.2.1, q.1)) else (Option.bind (p_X10_frameOf q.1 o0 q.2.2 9) fun r6 => if r6.1 = 1 then (lp (b_X10_shared_39 k9 o0 q.2.1 q.2.2) FU (r6.2, 1, 0)) else (lp (b_X10_shared_39 k9 o0 q.2.1 q.2.2) FU (r6.2, 0, 0)))
def p_X10_shared (h : Hp) (o0 : Nat) : Option (Int32 × Hp) :=
  nv (hp h o0 0 0) fun h7 => lp (b_X10_shared_9 o0) FU (h7, 0, 0)
set_option maxRecDepth 4000 in
theorem s_X10_shared_88 {p : Program} {l : Launch} {e : Env} {s : State} {m : MethodId} {args : Array Value} {below : List Frame} {meth : Method} {c : Code} {G : GT} (cx : CX p s m args c cX10_shared 5 RX10 G) (hr : meth.sig.returnType = (some .int)) (hlk : meth.locks = false) (h : Hp) (o0 : Nat) (x1 : Int32) (x2 : Int32) (x3 : Int32) (hk_o0 : kd o0 = 9) (k9 : Hp × Int32 × Int32 → Option (Int32 × Hp)) (hk9 : ∀ (q : Hp × Int32 × Int32), PF p l e (rmc 1 22) s m args below meth c 5 G 0 0 (QI below G args s) 9 [some (.ref (gad G o0)), some (.int q.2.1), some (.int q.2.2), none, none] [] q.1 (k9 q)) : PF p l e (rmc 1 22) s m args below meth c 5 G 0 0 (QI below G args s) 88 [some (.ref (gad G o0)), some (.int x1), some (.int x2), some (.int x3), none] [] h (q_X10_shared_88 k9 h o0 x1 x2 x3) := by
  unfold q_X10_shared_88
  refine f_iload_n (pc := 88) cx dX10_shared_88 rfl rfl ?_
  refine f_iload_n (pc := 89) cx dX10_shared_89 rfl rfl ?_
  refine f_if_eq (pc := 90) (tgt := 97) cx dX10_shared_90 (by decide) (fun _ => ?_) (fun _ => ?_)
  · refine f_iconst (pc := 97) cx dX10_shared_97 kc_iconst_0 ?_
    refine f_iadd (pc := 98) cx dX10_shared_98 ?_
    refine f_nvi (fun v1 => ?_)
    refine f_istore1 (pc := 99) cx dX10_shared_99 (by decide) rfl ?_
    refine f_iinc2 (pc := 100) cx dX10_shared_100 kc_iconst_1 (by decide) rfl ?_
    refine f_goto (pc := 103) (tgt := 9) cx dX10_shared_103 (by decide) ?_
    exact f_weak (LSb.s (LSb.s (LSb.s (LSb.n (LSb.n LSb.e))))) (hk9 (h, v1, x2 + 1))
  · refine f_iconst (pc := 93) cx dX10_shared_93 kc_iconst_1 ?_
    refine f_goto (pc := 94) (tgt := 98) cx dX10_shared_94 (by decide) ?_
    refine f_iadd (pc := 98) cx dX10_shared_98 ?_
    refine f_nvi (fun v2 => ?_)
    refine f_istore1 (pc := 99) cx dX10_shared_99 (by decide) rfl ?_
    refine f_iinc2 (pc := 100) cx dX10_shared_100 kc_iconst_1 (by decide) rfl ?_
    refine f_goto (pc := 103) (tgt := 9) cx dX10_shared_103 (by decide) ?_
    exact f_weak (LSb.s (LSb.s (LSb.s (LSb.n (LSb.n LSb.e))))) (hk9 (h, v2, x2 + 1))
set_option maxRecDepth 4000 in
theorem s_X10_shared_39 {p : Program} {l : Launch} {e : Env} {s : State} {m : MethodId} {args : Array Value} {below : List Frame} {meth : Method} {c : Code} {G : GT} (cx : CX p s m args c cX10_shared 5 RX10 G) (hr : meth.sig.returnType = (some .int)) (hlk : meth.locks = false) (o0 : Nat) (x1 : Int32) (x2 : Int32) (hk_o0 : kd o0 = 9) (k9 : Hp × Int32 × Int32 → Option (Int32 × Hp)) (hk9 : ∀ (q : Hp × Int32 × Int32), PF p l e (rmc 1 22) s m args below meth c 5 G 0 0 (QI below G args s) 9 [some (.ref (gad G o0)), some (.int q.2.1), some (.int q.2.2), none, none] [] q.1 (k9 q)) : ∀ (n : Nat) (q : Hp × Int32 × Int32), PF p l e (rmc 1 22) s m args below meth c 5 G 0 0 (QI below G args s) 39 [some (.ref (gad G o0)), some (.int x1), some (.int x2), some (.int q.2.1), some (.int q.2.2)] [] q.1 (lp (b_X10_shared_39 k9 o0 x1 x2) n q) := by
  refine f_lp (lvf := fun (q : Hp × Int32 × Int32) => [some (.ref (gad G o0)), some (.int x1), some (.int x2), some (.int q.2.1), some (.int q.2.2)]) (hf := fun (q : Hp × Int32 × Int32) => q.1) (fun k39 hk39 q => ?_)
  show PF p l e (rmc 1 22) s m args below meth c 5 G 0 0 (QI below G args s) 39 [some (.ref (gad G o0)), some (.int x1), some (.int x2), some (.int q.2.1), some (.int q.2.2)] [] q.1 (b_X10_shared_39 k9 o0 x1 x2 k39 q)
  unfold b_X10_shared_39
  refine f_iload (pc := 39) cx dX10_shared_39 rfl ?_
  refine f_iload_n (pc := 41) cx dX10_shared_41 rfl rfl ?_
  refine f_icmp_ge (pc := 42) (tgt := 88) cx dX10_shared_42 (by decide) (fun _ => ?_) (fun _ => ?_)
  · exact f_weak (LSb.s (LSb.s (LSb.s (LSb.s (LSb.n LSb.e))))) (s_X10_shared_88 cx hr hlk _ o0 x1 x2 q.2.1 hk_o0 k9 hk9)
  · refine f_iload_n (pc := 45) cx dX10_shared_45 rfl rfl ?_
    refine f_if_eq (pc := 46) (tgt := 88) cx dX10_shared_46 (by decide) (fun _ => ?_) (fun _ => ?_)
    · exact f_weak (LSb.s (LSb.s (LSb.s (LSb.s (LSb.n LSb.e))))) (s_X10_shared_88 cx hr hlk _ o0 x1 x2 q.2.1 hk_o0 k9 hk9)
    · refine f_aload_n (pc := 49) cx dX10_shared_49 rfl rfl ?_
      refine f_iload (pc := 50) cx dX10_shared_50 rfl ?_
      refine f_bipush (pc := 52) cx dX10_shared_52 kc_bipush_9 ?_
      refine f_bind (fun r3 hr3 => ?_)
      refine k_X10_194 (pc := 54) cx (c_X10_frameOf l G _ o0 q.2.2 9 hk_o0 r3 hr3) hk_o0 ⟨by decide, by decide⟩ ⟨Nat.zero_le _, Nat.zero_le _⟩ (Nat.le_of_ble_eq_true rfl) dX10_shared_54 ?_
      refine f_if_eq (pc := 57) (tgt := 76) cx dX10_shared_57 (by decide) (fun _ => ?_) (fun _ => ?_)
      · refine f_iconst (pc := 76) cx dX10_shared_76 kc_iconst_1 ?_
        refine f_goto (pc := 77) (tgt := 81) cx dX10_shared_77 (by decide) ?_
        refine f_istore3 (pc := 81) cx dX10_shared_81 (by decide) rfl ?_
        refine f_iinc4 (pc := 82) cx dX10_shared_82 kc_iconst_1 (by decide) rfl ?_
        refine f_goto (pc := 85) (tgt := 39) cx dX10_shared_85 (by decide) ?_
        exact f_weak (LSb.s (LSb.s (LSb.s (LSb.s (LSb.s LSb.e))))) (hk39 (r3.2, 1, q.2.2 + 1))
      · refine f_aload_n (pc := 60) cx dX10_shared_60 rfl rfl ?_
        refine f_iload (pc := 61) cx dX10_shared_61 rfl ?_
        refine f_iconst (pc := 63) cx dX10_shared_63 kc_iconst_0 ?_
        refine f_bind (fun r4 hr4 => ?_)
        refine k_X10_194 (pc := 64) cx (c_X10_frameOf l G _ o0 q.2.2 0 hk_o0 r4 hr4) hk_o0 ⟨by decide, by decide⟩ ⟨Nat.zero_le _, Nat.zero_le _⟩ (Nat.le_of_ble_eq_true rfl) dX10_shared_64 ?_
        refine f_aload_n (pc := 67) cx dX10_shared_67 rfl rfl ?_
        refine f_iload_n (pc := 68) cx dX10_shared_68 rfl rfl ?_
        refine f_iconst (pc := 69) cx dX10_shared_69 kc_iconst_0 ?_
        refine f_bind (fun r5 hr5 => ?_)
        refine k_X10_194 (pc := 70) cx (c_X10_frameOf l G _ o0 x2 0 hk_o0 r5 hr5) hk_o0 ⟨by decide, by decide⟩ ⟨Nat.zero_le _, Nat.zero_le _⟩ (Nat.le_of_ble_eq_true rfl) dX10_shared_70 ?_
        refine f_icmp_eq (pc := 73) (tgt := 80) cx dX10_shared_73 (by decide) (fun _ => ?_) (fun _ => ?_)
        · refine f_iconst (pc := 80) cx dX10_shared_80 kc_iconst_0 ?_
          refine f_istore3 (pc := 81) cx dX10_shared_81 (by decide) rfl ?_
          refine f_iinc4 (pc := 82) cx dX10_shared_82 kc_iconst_1 (by decide) rfl ?_
          refine f_goto (pc := 85) (tgt := 39) cx dX10_shared_85 (by decide) ?_
          exact f_weak (LSb.s (LSb.s (LSb.s (LSb.s (LSb.s LSb.e))))) (hk39 (r5.2, 0, q.2.2 + 1))
        · refine f_iconst (pc := 76) cx dX10_shared_76 kc_iconst_1 ?_
          refine f_goto (pc := 77) (tgt := 81) cx dX10_shared_77 (by decide) ?_
          refine f_istore3 (pc := 81) cx dX10_shared_81 (by decide) rfl ?_
          refine f_iinc4 (pc := 82) cx dX10_shared_82 kc_iconst_1 (by decide) rfl ?_
          refine f_goto (pc := 85) (tgt := 39) cx dX10_shared_85 (by decide) ?_
          exact f_weak (LSb.s (LSb.s (LSb.s (LSb.s (LSb.s LSb.e))))) (hk39 (r5.2, 1, q.2.2 + 1))
set_option maxRecDepth 4000 in
theorem s_X10_shared_9 {p : Program} {l : Launch} {e : Env} {s : State} {m : MethodId} {args : Array Value} {below : List Frame} {meth : Method} {c : Code} {G : GT} (cx : CX p s m args c cX10_shared 5 RX10 G) (hr : meth.sig.returnType = (some .int)) (hlk : meth.locks = false) (o0 : Nat) (hk_o0 : kd o0 = 9) : ∀ (n : Nat) (q : Hp × Int32 × Int32), PF p l e (rmc 1 22) s m args below meth c 5 G 0 0 (QI below G args s) 9 [some (.ref (gad G o0)), some (.int q.2.1), some (.int q.2.2), none, none] [] q.1 (lp (b_X10_shared_9 o0) n q) := by
  refine f_lp (lvf := fun (q : Hp × Int32 × Int32) => [some (.ref (gad G o0)), some (.int q.2.1), some (.int q.2.2), none, none]) (hf := fun (q : Hp × Int32 × Int32) => q.1) (fun k9 hk9 q => ?_)
  show PF p l e (rmc 1 22) s m args below meth c 5 G 0 0 (QI below G args s) 9 [some (.ref (gad G o0)), some (.int q.2.1), some (.int q.2.2), none, none] [] q.1 (b_X10_shared_9 o0 k9 q)
  unfold b_X10_shared_9
  refine f_iload_n (pc := 9) cx dX10_shared_9 rfl rfl ?_
  refine f_aload_n (pc := 10) cx dX10_shared_10 rfl rfl ?_
  refine g_X10_30 (pc := 11) cx hk_o0 dX10_shared_11 ?_
  refine f_iconst (pc := 14) cx dX10_shared_14 kc_iconst_1 ?_
  refine f_ialdk (pc := 15) (j := 1) (n := 3715) cx (kf_9_20 hk_o0) (by decide) (by decide) kl_1 dX10_shared_15 ?_
  refine f_icmp_ge (pc := 16) (tgt := 106) cx dX10_shared_16 (by decide) (fun _ => ?_) (fun _ => ?_)
  · refine f_iload_n (pc := 106) cx dX10_shared_106 rfl rfl ?_
    exact f_iret cx hr hlk rfl dX10_shared_107
  · refine f_aload_n (pc := 19) cx dX10_shared_19 rfl rfl ?_
    refine f_iload_n (pc := 20) cx dX10_shared_20 rfl rfl ?_
    refine f_bipush (pc := 21) cx dX10_shared_21 kc_bipush_9 ?_
    refine f_bind (fun r6 hr6 => ?_)
    refine k_X10_194 (pc := 23) cx (c_X10_frameOf l G _ o0 q.2.2 9 hk_o0 r6 hr6) hk_o0 ⟨by decide, by decide⟩ ⟨Nat.zero_le _, Nat.zero_le _⟩ (Nat.le_of_ble_eq_true rfl) dX10_shared_23 ?_
    refine f_iconst (pc := 26) cx dX10_shared_26 kc_iconst_1 ?_
    refine f_icmp_ne (pc := 27) (tgt := 34) cx dX10_shared_27 (by decide) (fun _ => ?_) (fun _ => ?_)
    · refine f_iconst (pc := 30) cx dX10_shared_30 kc_iconst_1 ?_
      refine f_goto (pc := 31) (tgt := 35) cx dX10_shared_31 (by decide) ?_
      refine f_istore3 (pc := 35) cx dX10_shared_35 (by decide) rfl ?_
      refine f_iconst (pc := 36) cx dX10_shared_36 kc_iconst_0 ?_
      refine f_istore4 (pc := 37) cx dX10_shared_37 (by decide) rfl ?_
      exact f_weak (LSb.s (LSb.s (LSb.s (LSb.s (LSb.s LSb.e))))) (s_X10_shared_39 cx hr hlk o0 q.2.1 q.2.2 hk_o0 k9 hk9 FU (r6.2, 1, 0))
    · refine f_iconst (pc := 34) cx dX10_shared_34 kc_iconst_0 ?_
      refine f_istore3 (pc := 35) cx dX10_shared_35 (by decide) rfl ?_
      refine f_iconst (pc := 36) cx dX10_shared_36 kc_iconst_0 ?_
      refine f_istore4 (pc := 37) cx dX10_shared_37 (by decide) rfl ?_
      exact f_weak (LSb.s (LSb.s (LSb.s (LSb.s (LSb.s LSb.e))))) (s_X10_shared_39 cx hr hlk o0 q.2.1 q.2.2 hk_o0 k9 hk9 FU (r6.2, 0, 0))
set_option maxRecDepth 4000 in
theorem s_X10_shared {p : Program} {l : Launch} {e : Env} {s : State} {m : MethodId} {args : Array Value} {below : List Frame} {meth : Method} {c : Code} {G : GT} (cx : CX p s m args c cX10_shared 5 RX10 G) (hr : meth.sig.returnType = (some .int)) (hlk : meth.locks = false) (h : Hp) (o0 : Nat) (hk_o0 : kd o0 = 9) : PF p l e (rmc 1 22) s m args below meth c 5 G 0 0 (QI below G args s) 0 [some (.ref (gad G o0)), none, none, none, none] [] h (p_X10_shared h o0) := by
  unfold p_X10_shared
  refine f_aload_n (pc := 0) cx dX10_shared_0 rfl rfl ?_
  refine f_iconst (pc := 1) cx dX10_shared_1 kc_iconst_0 ?_
  refine u_X10_45 (pc := 2) cx hk_o0 dX10_shared_2 ?_
  refine f_nvh (fun h7 => ?_)
  refine f_iconst (pc := 5) cx dX10_shared_5 kc_iconst_0 ?_
  refine f_istore1 (pc := 6) cx dX10_shared_6 (by decide) rfl ?_
  refine f_iconst (pc := 7) cx dX10_shared_7 kc_iconst_0 ?_
  refine f_istore2 (pc := 8) cx dX10_shared_8 (by decide) rfl ?_
  exact f_weak (LSb.s (LSb.s (LSb.s (LSb.n (LSb.n LSb.e))))) (s_X10_shared_9 cx hr hlk o0 hk_o0 FU (h7, 0, 0))
set_option maxRecDepth 4000 in
theorem c_X10_shared (l : Launch) (G : GT) (h : Hp) (o0 : Nat) (hk_o0 : kd o0 = 9) : CtI l G yX10_shared cX10_shared 5 (some .int) 1 22 [.ref (gad G o0)] h (p_X10_shared h o0) := fun a ha => Ct.of (lv := [some (.ref (gad G o0)), none, none, none, none]) (by decide) rfl (Nat.le_of_ble_eq_true rfl) rfl (fun p e s m args below meth c cx hr hlk => s_X10_shared cx hr hlk h o0 hk_o0 a ha)
def b_X10_waits_9 (o0 : Nat) (x2 : Int32) (k9 : Hp × Int32 × Int32 × Int32 → Option (Int32 × Hp)) (q : Hp × Int32 × Int32 × Int32) : Option (Int32 × Hp) :=
  if (q.1 (o0 + 6) 14) ≤ q.2.2.2 then (if x2 = 0 then (some (q.2.1, q.1)) else (some (q.2.2.1, q.1))) else (if ib (2676 + q.2.2.2) 3715 then (nv (q.1 (o0 + 6) (Int32.toNatClampNeg (2676 + q.2.2.2))) fun v2 => Option.bind (p_X10_frameOf q.1 o0 v2 7) fun r3 => Option.bind (p_X10_frameOf r3.2 o0 v2 3) fun r4 => nv (r3.1 - r4.1) fun v5 => if v5 ≤ q.2.1 then (nv (q.2.2.1 + v5) fun v6 => k9 (r4.2, q.2.1, v6, q.2.2.2 + 1)) else (nv (q.2.2.1 + v5) fun v7 => k9 (r4.2, v5, v7, q.2.2.2 + 1))) else none)
def p_X10_waits (h : Hp) (o0 : Nat) (x1 : Int32) (x2 : Int32) : Option (Int32 × Hp) :=
  lp (b_X10_waits_9 o0 x2) FU (h, (-2), 0, x1)
set_option maxRecDepth 4000 in
theorem s_X10_waits_9 {p : Program} {l : Launch} {e : Env} {s : State} {m : MethodId} {args : Array Value} {below : List Frame} {meth : Method} {c : Code} {G : GT} (cx : CX p s m args c cX10_waits 8 RX10 G) (hr : meth.sig.returnType = (some .int)) (hlk : meth.locks = false) (o0 : Nat) (x2 : Int32) (hk_o0 : kd o0 = 9) : ∀ (n : Nat) (q : Hp × Int32 × Int32 × Int32), PF p l e (rmc 1 22) s m args below meth c 8 G 0 0 (QI below G args s) 9 [some (.ref (gad G o0)), none, some (.int x2), some (.int q.2.1), some (.int q.2.2.1), some (.int q.2.2.2), none, none] [] q.1 (lp (b_X10_waits_9 o0 x2) n q) := by
  refine f_lp (lvf := fun (q : Hp × Int32 × Int32 × Int32) => [some (.ref (gad G o0)), none, some (.int x2), some (.int q.2.1), some (.int q.2.2.1), some (.int q.2.2.2), none, none]) (hf := fun (q : Hp × Int32 × Int32 × Int32) => q.1) (fun k9 hk9 q => ?_)
  show PF p l e (rmc 1 22) s m args below meth c 8 G 0 0 (QI below G args s) 9 [some (.ref (gad G o0)), none, some (.int x2), some (.int q.2.1), some (.int q.2.2.1), some (.int q.2.2.2), none, none] [] q.1 (b_X10_waits_9 o0 x2 k9 q)
  unfold b_X10_waits_9
  refine f_iload (pc := 9) cx dX10_waits_9 rfl ?_
  refine f_aload_n (pc := 11) cx dX10_waits_11 rfl rfl ?_
  refine g_X10_30 (pc := 12) cx hk_o0 dX10_waits_12 ?_
  refine f_bipush (pc := 15) cx dX10_waits_15 kc_bipush_14 ?_
  refine f_ialdk (pc := 17) (j := 14) (n := 3715) cx (kf_9_20 hk_o0) (by decide) (by decide) kl_14 dX10_waits_17 ?_
  refine f_icmp_ge (pc := 18) (tgt := 78) cx dX10_waits_18 (by decide) (fun _ => ?_) (fun _ => ?_)
  · refine f_iload_n (pc := 78) cx dX10_waits_78 rfl rfl ?_
    refine f_if_ne (pc := 79) (tgt := 86) cx dX10_waits_79 (by decide) (fun _ => ?_) (fun _ => ?_)
    · refine f_iload_n (pc := 82) cx dX10_waits_82 rfl rfl ?_
      refine f_goto (pc := 83) (tgt := 88) cx dX10_waits_83 (by decide) ?_
      exact f_iret cx hr hlk rfl dX10_waits_88
    · refine f_iload (pc := 86) cx dX10_waits_86 rfl ?_
      exact f_iret cx hr hlk rfl dX10_waits_88
  · refine f_aload_n (pc := 21) cx dX10_waits_21 rfl rfl ?_
    refine g_X10_30 (pc := 22) cx hk_o0 dX10_waits_22 ?_
    refine f_sipush (pc := 25) cx dX10_waits_25 kc_sipush_2676 ?_
    refine f_iload (pc := 28) cx dX10_waits_28 rfl ?_
    refine f_iadd (pc := 30) cx dX10_waits_30 ?_
    refine f_need (fun c1 => ?_)
    refine f_iald (pc := 31) (n := 3715) cx (kf_9_20 hk_o0) (by decide) c1 dX10_waits_31 ?_
    refine f_nvi (fun v2 => ?_)
    refine f_istore6 (pc := 32) cx dX10_waits_32 (by decide) rfl ?_
    refine f_aload_n (pc := 34) cx dX10_waits_34 rfl rfl ?_
    refine f_iload (pc := 35) cx dX10_waits_35 rfl ?_
    refine f_bipush (pc := 37) cx dX10_waits_37 kc_bipush_7 ?_
    refine f_bind (fun r3 hr3 => ?_)
    refine k_X10_194 (pc := 39) cx (c_X10_frameOf l G _ o0 v2 7 hk_o0 r3 hr3) hk_o0 ⟨by decide, by decide⟩ ⟨Nat.zero_le _, Nat.zero_le _⟩ (Nat.le_of_ble_eq_true rfl) dX10_waits_39 ?_
    refine f_aload_n (pc := 42) cx dX10_waits_42 rfl rfl ?_
    refine f_iload (pc := 43) cx dX10_waits_43 rfl ?_
    refine f_iconst (pc := 45) cx dX10_waits_45 kc_iconst_3 ?_
    refine f_bind (fun r4 hr4 => ?_)
    refine k_X10_194 (pc := 46) cx (c_X10_frameOf l G _ o0 v2 3 hk_o0 r4 hr4) hk_o0 ⟨by decide, by decide⟩ ⟨Nat.zero_le _, Nat.zero_le _⟩ (Nat.le_of_ble_eq_true rfl) dX10_waits_46 ?_
    refine f_isub (pc := 49) cx dX10_waits_49 ?_
    refine f_nvi (fun v5 => ?_)
    refine f_istore7 (pc := 50) cx dX10_waits_50 (by decide) rfl ?_
    refine f_iload (pc := 52) cx dX10_waits_52 rfl ?_
    refine f_iload_n (pc := 54) cx dX10_waits_54 rfl rfl ?_
    refine f_icmp_le (pc := 55) (tgt := 63) cx dX10_waits_55 (by decide) (fun _ => ?_) (fun _ => ?_)
    · refine f_iload_n (pc := 63) cx dX10_waits_63 rfl rfl ?_
      refine f_istore3 (pc := 64) cx dX10_waits_64 (by decide) rfl ?_
      refine f_iload (pc := 65) cx dX10_waits_65 rfl ?_
      refine f_iload (pc := 67) cx dX10_waits_67 rfl ?_
      refine f_iadd (pc := 69) cx dX10_waits_69 ?_
      refine f_nvi (fun v6 => ?_)
      refine f_istore4 (pc := 70) cx dX10_waits_70 (by decide) rfl ?_
      refine f_iinc5 (pc := 72) cx dX10_waits_72 kc_iconst_1 (by decide) rfl ?_
      refine f_goto (pc := 75) (tgt := 9) cx dX10_waits_75 (by decide) ?_
      exact f_weak (LSb.s (LSb.n (LSb.s (LSb.s (LSb.s (LSb.s (LSb.n (LSb.n LSb.e)))))))) (hk9 (r4.2, q.2.1, v6, q.2.2.2 + 1))
    · refine f_iload (pc := 58) cx dX10_waits_58 rfl ?_
      refine f_goto (pc := 60) (tgt := 64) cx dX10_waits_60 (by decide) ?_
      refine f_istore3 (pc := 64) cx dX10_waits_64 (by decide) rfl ?_
      refine f_iload (pc := 65) cx dX10_waits_65 rfl ?_
      refine f_iload (pc := 67) cx dX10_waits_67 rfl ?_
      refine f_iadd (pc := 69) cx dX10_waits_69 ?_
      refine f_nvi (fun v7 => ?_)
      refine f_istore4 (pc := 70) cx dX10_waits_70 (by decide) rfl ?_
      refine f_iinc5 (pc := 72) cx dX10_waits_72 kc_iconst_1 (by decide) rfl ?_
      refine f_goto (pc := 75) (tgt := 9) cx dX10_waits_75 (by decide) ?_
      exact f_weak (LSb.s (LSb.n (LSb.s (LSb.s (LSb.s (LSb.s (LSb.n (LSb.n LSb.e)))))))) (hk9 (r4.2, v5, v7, q.2.2.2 + 1))
set_option maxRecDepth 4000 in
theorem s_X10_waits {p : Program} {l : Launch} {e : Env} {s : State} {m : MethodId} {args : Array Value} {below : List Frame} {meth : Method} {c : Code} {G : GT} (cx : CX p s m args c cX10_waits 8 RX10 G) (hr : meth.sig.returnType = (some .int)) (hlk : meth.locks = false) (h : Hp) (o0 : Nat) (x1 : Int32) (x2 : Int32) (hk_o0 : kd o0 = 9) : PF p l e (rmc 1 22) s m args below meth c 8 G 0 0 (QI below G args s) 0 [some (.ref (gad G o0)), some (.int x1), some (.int x2), none, none, none, none, none] [] h (p_X10_waits h o0 x1 x2) := by
  unfold p_X10_waits
  refine f_bipush (pc := 0) cx dX10_waits_0 kc_bipush_m2 ?_
  refine f_istore3 (pc := 2) cx dX10_waits_2 (by decide) rfl ?_
  refine f_iconst (pc := 3) cx dX10_waits_3 kc_iconst_0 ?_
  refine f_istore4 (pc := 4) cx dX10_waits_4 (by decide) rfl ?_
  refine f_iload_n (pc := 6) cx dX10_waits_6 rfl rfl ?_
  refine f_istore5 (pc := 7) cx dX10_waits_7 (by decide) rfl ?_
  exact f_weak (LSb.s (LSb.n (LSb.s (LSb.s (LSb.s (LSb.s (LSb.n (LSb.n LSb.e)))))))) (s_X10_waits_9 cx hr hlk o0 x2 hk_o0 FU (h, (-2), 0, x1))
set_option maxRecDepth 4000 in
theorem c_X10_waits (l : Launch) (G : GT) (h : Hp) (o0 : Nat) (x1 : Int32) (x2 : Int32) (hk_o0 : kd o0 = 9) : CtI l G yX10_waits cX10_waits 8 (some .int) 1 22 [.ref (gad G o0), .int x1, .int x2] h (p_X10_waits h o0 x1 x2) := fun a ha => Ct.of (lv := [some (.ref (gad G o0)), some (.int x1), some (.int x2), none, none, none, none, none]) (by decide) rfl (Nat.le_of_ble_eq_true rfl) rfl (fun p e s m args below meth c cx hr hlk => s_X10_waits cx hr hlk h o0 x1 x2 hk_o0 a ha)
def b_X10_bytesStanding_4 (o0 : Nat) (k4 : Hp × Int32 × Int32 → Option (Int32 × Hp)) (q : Hp × Int32 × Int32) : Option (Int32 × Hp) :=
  Option.bind (p_X10_buckets q.1 o0) fun r1 => if r1.1 ≤ q.2.2 then (some (q.2.1, r1.2)) else (Option.bind (p_X10_of r1.2 o0 q.2.2 12) fun r2 => nv (q.2.1 + r2.1) fun v3 => k4 (r2.2, v3, q.2.2 + 1))
def p_X10_bytesStanding (h : Hp) (o0 : Nat) : Option (Int32 × Hp) :=
  lp (b_X10_bytesStanding_4 o0) FU (h, 0, 0)
set_option maxRecDepth 4000 in
theorem s_X10_bytesStanding_4 {p : Program} {l : Launch} {e : Env} {s : State} {m : MethodId} {args : Array Value} {below : List Frame} {meth : Method} {c : Code} {G : GT} (cx : CX p s m args c cX10_bytesStanding 3 RX10 G) (hr : meth.sig.returnType = (some .int)) (hlk : meth.locks = false) (o0 : Nat) (hk_o0 : kd o0 = 9) : ∀ (n : Nat) (q : Hp × Int32 × Int32), PF p l e (rmc 1 22) s m args below meth c 3 G 0 0 (QI below G args s) 4 [some (.ref (gad G o0)), some (.int q.2.1), some (.int q.2.2)] [] q.1 (lp (b_X10_bytesStanding_4 o0) n q) := by
  refine f_lp (lvf := fun (q : Hp × Int32 × Int32) => [some (.ref (gad G o0)), some (.int q.2.1), some (.int q.2.2)]) (hf := fun (q : Hp × Int32 × Int32) => q.1) (fun k4 hk4 q => ?_)
  show PF p l e (rmc 1 22) s m args below meth c 3 G 0 0 (QI below G args s) 4 [some (.ref (gad G o0)), some (.int q.2.1), some (.int q.2.2)] [] q.1 (b_X10_bytesStanding_4 o0 k4 q)
  unfold b_X10_bytesStanding_4
  refine f_iload_n (pc := 4) cx dX10_bytesStanding_4 rfl rfl ?_
  refine f_aload_n (pc := 5) cx dX10_bytesStanding_5 rfl rfl ?_
  refine f_bind (fun r1 hr1 => ?_)
  refine k_X10_209 (pc := 6) cx (c_X10_buckets l G _ o0 hk_o0 r1 hr1) hk_o0 ⟨by decide, by decide⟩ ⟨Nat.zero_le _, Nat.zero_le _⟩ (Nat.le_of_ble_eq_true rfl) dX10_bytesStanding_6 ?_
  refine f_icmp_ge (pc := 9) (tgt := 28) cx dX10_bytesStanding_9 (by decide) (fun _ => ?_) (fun _ => ?_)
  · refine f_iload_n (pc := 28) cx dX10_bytesStanding_28 rfl rfl ?_
    exact f_iret cx hr hlk rfl dX10_bytesStanding_29
  · refine f_iload_n (pc := 12) cx dX10_bytesStanding_12 rfl rfl ?_
    refine f_aload_n (pc := 13) cx dX10_bytesStanding_13 rfl rfl ?_
    refine f_iload_n (pc := 14) cx dX10_bytesStanding_14 rfl rfl ?_
    refine f_bipush (pc := 15) cx dX10_bytesStanding_15 kc_bipush_12 ?_
    refine f_bind (fun r2 hr2 => ?_)
    refine k_X10_184 (pc := 17) cx (c_X10_of l G _ o0 q.2.2 12 hk_o0 r2 hr2) hk_o0 ⟨by decide, by decide⟩ ⟨Nat.zero_le _, Nat.zero_le _⟩ (Nat.le_of_ble_eq_true rfl) dX10_bytesStanding_17 ?_
    refine f_iadd (pc := 20) cx dX10_bytesStanding_20 ?_
    refine f_nvi (fun v3 => ?_)
    refine f_istore1 (pc := 21) cx dX10_bytesStanding_21 (by decide) rfl ?_
    refine f_iinc2 (pc := 22) cx dX10_bytesStanding_22 kc_iconst_1 (by decide) rfl ?_
    refine f_goto (pc := 25) (tgt := 4) cx dX10_bytesStanding_25 (by decide) ?_
    exact f_weak (LSb.s (LSb.s (LSb.s LSb.e))) (hk4 (r2.2, v3, q.2.2 + 1))
set_option maxRecDepth 4000 in
theorem s_X10_bytesStanding {p : Program} {l : Launch} {e : Env} {s : State} {m : MethodId} {args : Array Value} {below : List Frame} {meth : Method} {c : Code} {G : GT} (cx : CX p s m args c cX10_bytesStanding 3 RX10 G) (hr : meth.sig.returnType = (some .int)) (hlk : meth.locks = false) (h : Hp) (o0 : Nat) (hk_o0 : kd o0 = 9) : PF p l e (rmc 1 22) s m args below meth c 3 G 0 0 (QI below G args s) 0 [some (.ref (gad G o0)), none, none] [] h (p_X10_bytesStanding h o0) := by
  unfold p_X10_bytesStanding
  refine f_iconst (pc := 0) cx dX10_bytesStanding_0 kc_iconst_0 ?_
  refine f_istore1 (pc := 1) cx dX10_bytesStanding_1 (by decide) rfl ?_
  refine f_iconst (pc := 2) cx dX10_bytesStanding_2 kc_iconst_0 ?_
  refine f_istore2 (pc := 3) cx dX10_bytesStanding_3 (by decide) rfl ?_
  exact f_weak (LSb.s (LSb.s (LSb.s LSb.e))) (s_X10_bytesStanding_4 cx hr hlk o0 hk_o0 FU (h, 0, 0))
set_option maxRecDepth 4000 in
theorem c_X10_bytesStanding (l : Launch) (G : GT) (h : Hp) (o0 : Nat) (hk_o0 : kd o0 = 9) : CtI l G yX10_bytesStanding cX10_bytesStanding 3 (some .int) 1 22 [.ref (gad G o0)] h (p_X10_bytesStanding h o0) := fun a ha => Ct.of (lv := [some (.ref (gad G o0)), none, none]) (by decide) rfl (Nat.le_of_ble_eq_true rfl) rfl (fun p e s m args below meth c cx hr hlk => s_X10_bytesStanding cx hr hlk h o0 hk_o0 a ha)
def b_X10_freeOnes_4 (o0 : Nat) (k4 : Hp × Int32 × Int32 → Option (Int32 × Hp)) (q : Hp × Int32 × Int32) : Option (Int32 × Hp) :=
  Option.bind (p_X10_buckets q.1 o0) fun r1 => if r1.1 ≤ q.2.2 then (some (q.2.1, r1.2)) else (Option.bind (p_X10_of r1.2 o0 q.2.2 2) fun r2 => if r2.1 = 0 then (nv (q.2.1 + 1) fun v3 => k4 (r2.2, v3, q.2.2 + 1)) else (nv (q.2.1 + 0) fun v4 => k4 (r2.2, v4, q.2.2 + 1)))
def p_X10_freeOnes (h : Hp) (o0 : Nat) : Option (Int32 × Hp) :=
  lp (b_X10_freeOnes_4 o0) FU (h, 0, 0)
set_option maxRecDepth 4000 in
theorem s_X10_freeOnes_4 {p : Program} {l : Launch} {e : Env} {s : State} {m : MethodId} {args : Array Value} {below : List Frame} {meth : Method} {c : Code} {G : GT} (cx : CX p s m args c cX10_freeOnes 3 RX10 G) (hr : meth.sig.returnType = (some .int)) (hlk : meth.locks = false) (o0 : Nat) (hk_o0 : kd o0 = 9) : ∀ (n : Nat) (q : Hp × Int32 × Int32), PF p l e (rmc 1 22) s m args below meth c 3 G 0 0 (QI below G args s) 4 [some (.ref (gad G o0)), some (.int q.2.1), some (.int q.2.2)] [] q.1 (lp (b_X10_freeOnes_4 o0) n q) := by
  refine f_lp (lvf := fun (q : Hp × Int32 × Int32) => [some (.ref (gad G o0)), some (.int q.2.1), some (.int q.2.2)]) (hf := fun (q : Hp × Int32 × Int32) => q.1) (fun k4 hk4 q => ?_)
  show PF p l e (rmc 1 22) s m args below meth c 3 G 0 0 (QI below G args s) 4 [some (.ref (gad G o0)), some (.int q.2.1), some (.int q.2.2)] [] q.1 (b_X10_freeOnes_4 o0 k4 q)
  unfold b_X10_freeOnes_4
  refine f_iload_n (pc := 4) cx dX10_freeOnes_4 rfl rfl ?_
  refine f_aload_n (pc := 5) cx dX10_freeOnes_5 rfl rfl ?_
  refine f_bind (fun r1 hr1 => ?_)
  refine k_X10_209 (pc := 6) cx (c_X10_buckets l G _ o0 hk_o0 r1 hr1) hk_o0 ⟨by decide, by decide⟩ ⟨Nat.zero_le _, Nat.zero_le _⟩ (Nat.le_of_ble_eq_true rfl) dX10_freeOnes_6 ?_
  refine f_icmp_ge (pc := 9) (tgt := 35) cx dX10_freeOnes_9 (by decide) (fun _ => ?_) (fun _ => ?_)
  · refine f_iload_n (pc := 35) cx dX10_freeOnes_35 rfl rfl ?_
    exact f_iret cx hr hlk rfl dX10_freeOnes_36
  · refine f_iload_n (pc := 12) cx dX10_freeOnes_12 rfl rfl ?_
    refine f_aload_n (pc := 13) cx dX10_freeOnes_13 rfl rfl ?_
    refine f_iload_n (pc := 14) cx dX10_freeOnes_14 rfl rfl ?_
    refine f_iconst (pc := 15) cx dX10_freeOnes_15 kc_iconst_2 ?_
    refine f_bind (fun r2 hr2 => ?_)
    refine k_X10_184 (pc := 16) cx (c_X10_of l G _ o0 q.2.2 2 hk_o0 r2 hr2) hk_o0 ⟨by decide, by decide⟩ ⟨Nat.zero_le _, Nat.zero_le _⟩ (Nat.le_of_ble_eq_true rfl) dX10_freeOnes_16 ?_
    refine f_if_ne (pc := 19) (tgt := 26) cx dX10_freeOnes_19 (by decide) (fun _ => ?_) (fun _ => ?_)
    · refine f_iconst (pc := 22) cx dX10_freeOnes_22 kc_iconst_1 ?_
      refine f_goto (pc := 23) (tgt := 27) cx dX10_freeOnes_23 (by decide) ?_
      refine f_iadd (pc := 27) cx dX10_freeOnes_27 ?_
      refine f_nvi (fun v3 => ?_)
      refine f_istore1 (pc := 28) cx dX10_freeOnes_28 (by decide) rfl ?_
      refine f_iinc2 (pc := 29) cx dX10_freeOnes_29 kc_iconst_1 (by decide) rfl ?_
      refine f_goto (pc := 32) (tgt := 4) cx dX10_freeOnes_32 (by decide) ?_
      exact f_weak (LSb.s (LSb.s (LSb.s LSb.e))) (hk4 (r2.2, v3, q.2.2 + 1))
    · refine f_iconst (pc := 26) cx dX10_freeOnes_26 kc_iconst_0 ?_
      refine f_iadd (pc := 27) cx dX10_freeOnes_27 ?_
      refine f_nvi (fun v4 => ?_)
      refine f_istore1 (pc := 28) cx dX10_freeOnes_28 (by decide) rfl ?_
      refine f_iinc2 (pc := 29) cx dX10_freeOnes_29 kc_iconst_1 (by decide) rfl ?_
      refine f_goto (pc := 32) (tgt := 4) cx dX10_freeOnes_32 (by decide) ?_
      exact f_weak (LSb.s (LSb.s (LSb.s LSb.e))) (hk4 (r2.2, v4, q.2.2 + 1))
set_option maxRecDepth 4000 in
theorem s_X10_freeOnes {p : Program} {l : Launch} {e : Env} {s : State} {m : MethodId} {args : Array Value} {below : List Frame} {meth : Method} {c : Code} {G : GT} (cx : CX p s m args c cX10_freeOnes 3 RX10 G) (hr : meth.sig.returnType = (some .int)) (hlk : meth.locks = false) (h : Hp) (o0 : Nat) (hk_o0 : kd o0 = 9) : PF p l e (rmc 1 22) s m args below meth c 3 G 0 0 (QI below G args s) 0 [some (.ref (gad G o0)), none, none] [] h (p_X10_freeOnes h o0) := by
  unfold p_X10_freeOnes
  refine f_iconst (pc := 0) cx dX10_freeOnes_0 kc_iconst_0 ?_
  refine f_istore1 (pc := 1) cx dX10_freeOnes_1 (by decide) rfl ?_
  refine f_iconst (pc := 2) cx dX10_freeOnes_2 kc_iconst_0 ?_
  refine f_istore2 (pc := 3) cx dX10_freeOnes_3 (by decide) rfl ?_
  exact f_weak (LSb.s (LSb.s (LSb.s LSb.e))) (s_X10_freeOnes_4 cx hr hlk o0 hk_o0 FU (h, 0, 0))
set_option maxRecDepth 4000 in
theorem c_X10_freeOnes (l : Launch) (G : GT) (h : Hp) (o0 : Nat) (hk_o0 : kd o0 = 9) : CtI l G yX10_freeOnes cX10_freeOnes 3 (some .int) 1 22 [.ref (gad G o0)] h (p_X10_freeOnes h o0) := fun a ha => Ct.of (lv := [some (.ref (gad G o0)), none, none]) (by decide) rfl (Nat.le_of_ble_eq_true rfl) rfl (fun p e s m args below meth c cx hr hlk => s_X10_freeOnes cx hr hlk h o0 hk_o0 a ha)
def p_X10_opens (h : Hp) (o0 : Nat) (x1 : Int32) (x2 : Int32) : Option Hp :=
  Option.bind (p_X10_puts h o0 x1 0 x2) fun r1 => Option.bind (p_X10_quantum r1 o0) fun r2 => Option.bind (p_X10_puts r2.2 o0 x1 1 r2.1) fun r3 => Option.bind (p_X10_puts r3 o0 x1 3 0) fun r4 => Option.bind (p_X10_puts r4 o0 x1 4 0) fun r5 => Option.bind (p_X10_puts r5 o0 x1 5 0) fun r6 => Option.bind (p_X10_puts r6 o0 x1 6 0) fun r7 => Option.bind (p_X10_puts r7 o0 x1 7 (-2)) fun r8 => Option.bind (p_X10_puts r8 o0 x1 8 65535) fun r9 => Option.bind (p_X10_of r9 o0 x1 9) fun r10 => Option.bind (p_X10_puts r10.2 o0 x1 9 (r10.1 + 1)) fun r11 => Option.bind (p_X10_enters r11 o0 x1 1) fun r12 => some r12
set_option maxRecDepth 4000 in
theorem s_X10_opens {p : Program} {l : Launch} {e : Env} {s : State} {m : MethodId} {args : Array Value} {below : List Frame} {meth : Method} {c : Code} {G : GT} (cx : CX p s m args c cX10_opens 3 RX10 G) (hr : meth.sig.returnType = none) (hlk : meth.locks = false) (h : Hp) (o0 : Nat) (x1 : Int32) (x2 : Int32) (hk_o0 : kd o0 = 9) : PF p l e (rmc 2 45) s m args below meth c 3 G 0 0 (QV below G args s) 0 [some (.ref (gad G o0)), some (.int x1), some (.int x2)] [] h (p_X10_opens h o0 x1 x2) := by
  unfold p_X10_opens
  refine f_aload_n (pc := 0) cx dX10_opens_0 rfl rfl ?_
  refine f_iload_n (pc := 1) cx dX10_opens_1 rfl rfl ?_
  refine f_iconst (pc := 2) cx dX10_opens_2 kc_iconst_0 ?_
  refine f_iload_n (pc := 3) cx dX10_opens_3 rfl rfl ?_
  refine f_bind (fun r1 hr1 => ?_)
  refine k_X10_165 (pc := 4) cx (c_X10_puts l G _ o0 x1 0 x2 hk_o0 r1 hr1) hk_o0 ⟨by decide, by decide⟩ ⟨Nat.zero_le _, Nat.zero_le _⟩ (Nat.le_of_ble_eq_true rfl) dX10_opens_4 ?_
  refine f_aload_n (pc := 7) cx dX10_opens_7 rfl rfl ?_
  refine f_iload_n (pc := 8) cx dX10_opens_8 rfl rfl ?_
  refine f_iconst (pc := 9) cx dX10_opens_9 kc_iconst_1 ?_
  refine f_aload_n (pc := 10) cx dX10_opens_10 rfl rfl ?_
  refine f_bind (fun r2 hr2 => ?_)
  refine k_X10_187 (pc := 11) cx (c_X10_quantum l G _ o0 hk_o0 r2 hr2) hk_o0 ⟨by decide, by decide⟩ ⟨Nat.zero_le _, Nat.zero_le _⟩ (Nat.le_of_ble_eq_true rfl) dX10_opens_11 ?_
  refine f_bind (fun r3 hr3 => ?_)
  refine k_X10_165 (pc := 14) cx (c_X10_puts l G _ o0 x1 1 r2.1 hk_o0 r3 hr3) hk_o0 ⟨by decide, by decide⟩ ⟨Nat.zero_le _, Nat.zero_le _⟩ (Nat.le_of_ble_eq_true rfl) dX10_opens_14 ?_
  refine f_aload_n (pc := 17) cx dX10_opens_17 rfl rfl ?_
  refine f_iload_n (pc := 18) cx dX10_opens_18 rfl rfl ?_
  refine f_iconst (pc := 19) cx dX10_opens_19 kc_iconst_3 ?_
  refine f_iconst (pc := 20) cx dX10_opens_20 kc_iconst_0 ?_
  refine f_bind (fun r4 hr4 => ?_)
  refine k_X10_165 (pc := 21) cx (c_X10_puts l G _ o0 x1 3 0 hk_o0 r4 hr4) hk_o0 ⟨by decide, by decide⟩ ⟨Nat.zero_le _, Nat.zero_le _⟩ (Nat.le_of_ble_eq_true rfl) dX10_opens_21 ?_
  refine f_aload_n (pc := 24) cx dX10_opens_24 rfl rfl ?_
  refine f_iload_n (pc := 25) cx dX10_opens_25 rfl rfl ?_
  refine f_iconst (pc := 26) cx dX10_opens_26 kc_iconst_4 ?_
  refine f_iconst (pc := 27) cx dX10_opens_27 kc_iconst_0 ?_
  refine f_bind (fun r5 hr5 => ?_)
  refine k_X10_165 (pc := 28) cx (c_X10_puts l G _ o0 x1 4 0 hk_o0 r5 hr5) hk_o0 ⟨by decide, by decide⟩ ⟨Nat.zero_le _, Nat.zero_le _⟩ (Nat.le_of_ble_eq_true rfl) dX10_opens_28 ?_
  refine f_aload_n (pc := 31) cx dX10_opens_31 rfl rfl ?_
  refine f_iload_n (pc := 32) cx dX10_opens_32 rfl rfl ?_
  refine f_iconst (pc := 33) cx dX10_opens_33 kc_iconst_5 ?_
  refine f_iconst (pc := 34) cx dX10_opens_34 kc_iconst_0 ?_
  refine f_bind (fun r6 hr6 => ?_)
  refine k_X10_165 (pc := 35) cx (c_X10_puts l G _ o0 x1 5 0 hk_o0 r6 hr6) hk_o0 ⟨by decide, by decide⟩ ⟨Nat.zero_le _, Nat.zero_le _⟩ (Nat.le_of_ble_eq_true rfl) dX10_opens_35 ?_
  refine f_aload_n (pc := 38) cx dX10_opens_38 rfl rfl ?_
  refine f_iload_n (pc := 39) cx dX10_opens_39 rfl rfl ?_
  refine f_bipush (pc := 40) cx dX10_opens_40 kc_bipush_6 ?_
  refine f_iconst (pc := 42) cx dX10_opens_42 kc_iconst_0 ?_
  refine f_bind (fun r7 hr7 => ?_)
  refine k_X10_165 (pc := 43) cx (c_X10_puts l G _ o0 x1 6 0 hk_o0 r7 hr7) hk_o0 ⟨by decide, by decide⟩ ⟨Nat.zero_le _, Nat.zero_le _⟩ (Nat.le_of_ble_eq_true rfl) dX10_opens_43 ?_
  refine f_aload_n (pc := 46) cx dX10_opens_46 rfl rfl ?_
  refine f_iload_n (pc := 47) cx dX10_opens_47 rfl rfl ?_
  refine f_bipush (pc := 48) cx dX10_opens_48 kc_bipush_7 ?_
  refine f_bipush (pc := 50) cx dX10_opens_50 kc_bipush_m2 ?_
  refine f_bind (fun r8 hr8 => ?_)
  refine k_X10_165 (pc := 52) cx (c_X10_puts l G _ o0 x1 7 (-2) hk_o0 r8 hr8) hk_o0 ⟨by decide, by decide⟩ ⟨Nat.zero_le _, Nat.zero_le _⟩ (Nat.le_of_ble_eq_true rfl) dX10_opens_52 ?_
  refine f_aload_n (pc := 55) cx dX10_opens_55 rfl rfl ?_
  refine f_iload_n (pc := 56) cx dX10_opens_56 rfl rfl ?_
  refine f_bipush (pc := 57) cx dX10_opens_57 kc_bipush_8 ?_
  refine f_ldc (pc := 59) cx w_1310 dX10_opens_59 ?_
  refine f_bind (fun r9 hr9 => ?_)
  refine k_X10_165 (pc := 61) cx (c_X10_puts l G _ o0 x1 8 65535 hk_o0 r9 hr9) hk_o0 ⟨by decide, by decide⟩ ⟨Nat.zero_le _, Nat.zero_le _⟩ (Nat.le_of_ble_eq_true rfl) dX10_opens_61 ?_
  refine f_aload_n (pc := 64) cx dX10_opens_64 rfl rfl ?_
  refine f_iload_n (pc := 65) cx dX10_opens_65 rfl rfl ?_
  refine f_bipush (pc := 66) cx dX10_opens_66 kc_bipush_9 ?_
  refine f_aload_n (pc := 68) cx dX10_opens_68 rfl rfl ?_
  refine f_iload_n (pc := 69) cx dX10_opens_69 rfl rfl ?_
  refine f_bipush (pc := 70) cx dX10_opens_70 kc_bipush_9 ?_
  refine f_bind (fun r10 hr10 => ?_)
  refine k_X10_184 (pc := 72) cx (c_X10_of l G _ o0 x1 9 hk_o0 r10 hr10) hk_o0 ⟨by decide, by decide⟩ ⟨Nat.zero_le _, Nat.zero_le _⟩ (Nat.le_of_ble_eq_true rfl) dX10_opens_72 ?_
  refine f_iconst (pc := 75) cx dX10_opens_75 kc_iconst_1 ?_
  refine f_iadd (pc := 76) cx dX10_opens_76 ?_
  refine f_bind (fun r11 hr11 => ?_)
  refine k_X10_165 (pc := 77) cx (c_X10_puts l G _ o0 x1 9 (r10.1 + 1) hk_o0 r11 hr11) hk_o0 ⟨by decide, by decide⟩ ⟨Nat.zero_le _, Nat.zero_le _⟩ (Nat.le_of_ble_eq_true rfl) dX10_opens_77 ?_
  refine f_aload_n (pc := 80) cx dX10_opens_80 rfl rfl ?_
  refine f_iload_n (pc := 81) cx dX10_opens_81 rfl rfl ?_
  refine f_iconst (pc := 82) cx dX10_opens_82 kc_iconst_1 ?_
  refine f_bind (fun r12 hr12 => ?_)
  refine k_X10_190 (pc := 83) cx (c_X10_enters l G _ o0 x1 1 hk_o0 r12 hr12) hk_o0 ⟨by decide, by decide⟩ ⟨Nat.zero_le _, Nat.zero_le _⟩ (Nat.le_of_ble_eq_true rfl) dX10_opens_83 ?_
  exact f_vret cx hr hlk dX10_opens_86
set_option maxRecDepth 4000 in
theorem c_X10_opens (l : Launch) (G : GT) (h : Hp) (o0 : Nat) (x1 : Int32) (x2 : Int32) (hk_o0 : kd o0 = 9) : CtV l G yX10_opens cX10_opens 3 none 2 45 [.ref (gad G o0), .int x1, .int x2] h (p_X10_opens h o0 x1 x2) := fun a ha => Ct.of (lv := [some (.ref (gad G o0)), some (.int x1), some (.int x2)]) (by decide) rfl (Nat.le_of_ble_eq_true rfl) rfl (fun p e s m args below meth c cx hr hlk => s_X10_opens cx hr hlk h o0 x1 x2 hk_o0 a ha)
def b_X10_pushes_4 (o0 : Nat) (k4 : Hp × Int32 × Int32 → Option Hp) (q : Hp × Int32 × Int32) : Option Hp :=
  Option.bind (p_X10_buckets q.1 o0) fun r1 => if r1.1 ≤ q.2.2 then (Option.bind (p_X10_firstIn r1.2 o0 q.2.1) fun r2 => Option.bind (p_X10_becomes r2.2 o0 r2.1 3) fun r3 => Option.bind (p_X10_happens r3 o0 3 r2.1) fun r4 => Option.bind (p_X10_watches r4 o0 4 q.2.1 0) fun r5 => some r5) else (Option.bind (p_X10_of r1.2 o0 q.2.2 12) fun r6 => Option.bind (p_X10_of r6.2 o0 q.2.1 12) fun r7 => if r6.1 ≤ r7.1 then (k4 (r7.2, q.2.1, q.2.2 + 1)) else (k4 (r7.2, q.2.2, q.2.2 + 1)))
def p_X10_pushes (h : Hp) (o0 : Nat) : Option Hp :=
  lp (b_X10_pushes_4 o0) FU (h, 0, 1)
set_option maxRecDepth 4000 in
theorem s_X10_pushes_4 {p : Program} {l : Launch} {e : Env} {s : State} {m : MethodId} {args : Array Value} {below : List Frame} {meth : Method} {c : Code} {G : GT} (cx : CX p s m args c cX10_pushes 3 RX10 G) (hr : meth.sig.returnType = none) (hlk : meth.locks = false) (o0 : Nat) (hk_o0 : kd o0 = 9) : ∀ (n : Nat) (q : Hp × Int32 × Int32), PF p l e (rmc 2 45) s m args below meth c 3 G 0 0 (QV below G args s) 4 [some (.ref (gad G o0)), some (.int q.2.1), some (.int q.2.2)] [] q.1 (lp (b_X10_pushes_4 o0) n q) := by
  refine f_lp (lvf := fun (q : Hp × Int32 × Int32) => [some (.ref (gad G o0)), some (.int q.2.1), some (.int q.2.2)]) (hf := fun (q : Hp × Int32 × Int32) => q.1) (fun k4 hk4 q => ?_)
  show PF p l e (rmc 2 45) s m args below meth c 3 G 0 0 (QV below G args s) 4 [some (.ref (gad G o0)), some (.int q.2.1), some (.int q.2.2)] [] q.1 (b_X10_pushes_4 o0 k4 q)
  unfold b_X10_pushes_4
  refine f_iload_n (pc := 4) cx dX10_pushes_4 rfl rfl ?_
  refine f_aload_n (pc := 5) cx dX10_pushes_5 rfl rfl ?_
  refine f_bind (fun r1 hr1 => ?_)
  refine k_X10_209 (pc := 6) cx (c_X10_buckets l G _ o0 hk_o0 r1 hr1) hk_o0 ⟨by decide, by decide⟩ ⟨Nat.zero_le _, Nat.zero_le _⟩ (Nat.le_of_ble_eq_true rfl) dX10_pushes_6 ?_
  refine f_icmp_ge (pc := 9) (tgt := 41) cx dX10_pushes_9 (by decide) (fun _ => ?_) (fun _ => ?_)
  · refine f_aload_n (pc := 41) cx dX10_pushes_41 rfl rfl ?_
    refine f_iload_n (pc := 42) cx dX10_pushes_42 rfl rfl ?_
    refine f_bind (fun r2 hr2 => ?_)
    refine k_X10_212 (pc := 43) cx (c_X10_firstIn l G _ o0 q.2.1 hk_o0 r2 hr2) hk_o0 ⟨by decide, by decide⟩ ⟨Nat.zero_le _, Nat.zero_le _⟩ (Nat.le_of_ble_eq_true rfl) dX10_pushes_43 ?_
    refine f_istore2 (pc := 46) cx dX10_pushes_46 (by decide) rfl ?_
    refine f_aload_n (pc := 47) cx dX10_pushes_47 rfl rfl ?_
    refine f_iload_n (pc := 48) cx dX10_pushes_48 rfl rfl ?_
    refine f_iconst (pc := 49) cx dX10_pushes_49 kc_iconst_3 ?_
    refine f_bind (fun r3 hr3 => ?_)
    refine k_X10_215 (pc := 50) cx (c_X10_becomes l G _ o0 r2.1 3 hk_o0 r3 hr3) hk_o0 ⟨by decide, by decide⟩ ⟨Nat.zero_le _, Nat.zero_le _⟩ (Nat.le_of_ble_eq_true rfl) dX10_pushes_50 ?_
    refine f_aload_n (pc := 53) cx dX10_pushes_53 rfl rfl ?_
    refine f_iconst (pc := 54) cx dX10_pushes_54 kc_iconst_3 ?_
    refine f_iload_n (pc := 55) cx dX10_pushes_55 rfl rfl ?_
    refine f_bind (fun r4 hr4 => ?_)
    refine k_X10_218 (pc := 56) cx (c_X10_happens l G _ o0 3 r2.1 hk_o0 r4 hr4) hk_o0 ⟨by decide, by decide⟩ ⟨Nat.zero_le _, Nat.zero_le _⟩ (Nat.le_of_ble_eq_true rfl) dX10_pushes_56 ?_
    refine f_aload_n (pc := 59) cx dX10_pushes_59 rfl rfl ?_
    refine f_iconst (pc := 60) cx dX10_pushes_60 kc_iconst_4 ?_
    refine f_iload_n (pc := 61) cx dX10_pushes_61 rfl rfl ?_
    refine f_iconst (pc := 62) cx dX10_pushes_62 kc_iconst_0 ?_
    refine f_bind (fun r5 hr5 => ?_)
    refine k_X10_221 (pc := 63) cx (c_X10_watches l G _ o0 4 q.2.1 0 hk_o0 r5 hr5) hk_o0 ⟨by decide, by decide⟩ ⟨Nat.zero_le _, Nat.zero_le _⟩ (Nat.le_of_ble_eq_true rfl) dX10_pushes_63 ?_
    exact f_vret cx hr hlk dX10_pushes_66
  · refine f_aload_n (pc := 12) cx dX10_pushes_12 rfl rfl ?_
    refine f_iload_n (pc := 13) cx dX10_pushes_13 rfl rfl ?_
    refine f_bipush (pc := 14) cx dX10_pushes_14 kc_bipush_12 ?_
    refine f_bind (fun r6 hr6 => ?_)
    refine k_X10_184 (pc := 16) cx (c_X10_of l G _ o0 q.2.2 12 hk_o0 r6 hr6) hk_o0 ⟨by decide, by decide⟩ ⟨Nat.zero_le _, Nat.zero_le _⟩ (Nat.le_of_ble_eq_true rfl) dX10_pushes_16 ?_
    refine f_aload_n (pc := 19) cx dX10_pushes_19 rfl rfl ?_
    refine f_iload_n (pc := 20) cx dX10_pushes_20 rfl rfl ?_
    refine f_bipush (pc := 21) cx dX10_pushes_21 kc_bipush_12 ?_
    refine f_bind (fun r7 hr7 => ?_)
    refine k_X10_184 (pc := 23) cx (c_X10_of l G _ o0 q.2.1 12 hk_o0 r7 hr7) hk_o0 ⟨by decide, by decide⟩ ⟨Nat.zero_le _, Nat.zero_le _⟩ (Nat.le_of_ble_eq_true rfl) dX10_pushes_23 ?_
    refine f_icmp_le (pc := 26) (tgt := 33) cx dX10_pushes_26 (by decide) (fun _ => ?_) (fun _ => ?_)
    · refine f_iload_n (pc := 33) cx dX10_pushes_33 rfl rfl ?_
      refine f_istore1 (pc := 34) cx dX10_pushes_34 (by decide) rfl ?_
      refine f_iinc2 (pc := 35) cx dX10_pushes_35 kc_iconst_1 (by decide) rfl ?_
      refine f_goto (pc := 38) (tgt := 4) cx dX10_pushes_38 (by decide) ?_
      exact f_weak (LSb.s (LSb.s (LSb.s LSb.e))) (hk4 (r7.2, q.2.1, q.2.2 + 1))
    · refine f_iload_n (pc := 29) cx dX10_pushes_29 rfl rfl ?_
      refine f_goto (pc := 30) (tgt := 34) cx dX10_pushes_30 (by decide) ?_
      refine f_istore1 (pc := 34) cx dX10_pushes_34 (by decide) rfl ?_
      refine f_iinc2 (pc := 35) cx dX10_pushes_35 kc_iconst_1 (by decide) rfl ?_
      refine f_goto (pc := 38) (tgt := 4) cx dX10_pushes_38 (by decide) ?_
      exact f_weak (LSb.s (LSb.s (LSb.s LSb.e))) (hk4 (r7.2, q.2.2, q.2.2 + 1))
set_option maxRecDepth 4000 in
theorem s_X10_pushes {p : Program} {l : Launch} {e : Env} {s : State} {m : MethodId} {args : Array Value} {below : List Frame} {meth : Method} {c : Code} {G : GT} (cx : CX p s m args c cX10_pushes 3 RX10 G) (hr : meth.sig.returnType = none) (hlk : meth.locks = false) (h : Hp) (o0 : Nat) (hk_o0 : kd o0 = 9) : PF p l e (rmc 2 45) s m args below meth c 3 G 0 0 (QV below G args s) 0 [some (.ref (gad G o0)), none, none] [] h (p_X10_pushes h o0) := by
  unfold p_X10_pushes
  refine f_iconst (pc := 0) cx dX10_pushes_0 kc_iconst_0 ?_
  refine f_istore1 (pc := 1) cx dX10_pushes_1 (by decide) rfl ?_
  refine f_iconst (pc := 2) cx dX10_pushes_2 kc_iconst_1 ?_
  refine f_istore2 (pc := 3) cx dX10_pushes_3 (by decide) rfl ?_
  exact f_weak (LSb.s (LSb.s (LSb.s LSb.e))) (s_X10_pushes_4 cx hr hlk o0 hk_o0 FU (h, 0, 1))
set_option maxRecDepth 4000 in
theorem c_X10_pushes (l : Launch) (G : GT) (h : Hp) (o0 : Nat) (hk_o0 : kd o0 = 9) : CtV l G yX10_pushes cX10_pushes 3 none 2 45 [.ref (gad G o0)] h (p_X10_pushes h o0) := fun a ha => Ct.of (lv := [some (.ref (gad G o0)), none, none]) (by decide) rfl (Nat.le_of_ble_eq_true rfl) rfl (fun p e s m args below meth c cx hr hlk => s_X10_pushes cx hr hlk h o0 hk_o0 a ha)
def p_X10_takes (h : Hp) (o0 : Nat) (x1 : Int32) : Option (Int32 × Hp) :=
  Option.bind (p_X10_firstIn h o0 x1) fun r1 => Option.bind (p_X10_puts r1.2 o0 x1 11 0) fun r2 => if r1.1 = (-1) then (Option.bind (p_X10_puts r2 o0 x1 7 (-2)) fun r3 => some ((-1), r3)) else (Option.bind (p_X10_becomes r2 o0 r1.1 1) fun r4 => Option.bind (p_X10_frameOf r4 o0 r1.1 3) fun r5 => Option.bind (p_X10_target r5.2 o0) fun r6 => if ((r4 (o0 + 6) 0) - r5.1) < r6.1 then (Option.bind (p_X10_puts r6.2 o0 x1 7 (-2)) fun r7 => some (r1.1, r7)) else (Option.bind (p_X10_of r6.2 o0 x1 12) fun r8 => if (r8.2 (o0 + 6) 8) ≤ r8.1 then (Option.bind (p_X10_of r8.2 o0 x1 7) fun r9 => if r9.1 = (-2) then (Option.bind (p_X10_interval r9.2 o0) fun r10 => Option.bind (p_X10_puts r10.2 o0 x1 7 ((r9.2 (o0 + 6) 0) + r10.1)) fun r11 => some (r1.1, r11)) else (Option.bind (p_X10_of r9.2 o0 x1 7) fun r12 => if (r9.2 (o0 + 6) 0) < r12.1 then (some (r1.1, r12.2)) else (Option.bind (p_X10_puts r12.2 o0 x1 11 1) fun r13 => some (r1.1, r13)))) else (Option.bind (p_X10_puts r8.2 o0 x1 7 (-2)) fun r14 => some (r1.1, r14))))
set_option maxRecDepth 4000 in
theorem s_X10_takes {p : Program} {l : Launch} {e : Env} {s : State} {m : MethodId} {args : Array Value} {below : List Frame} {meth : Method} {c : Code} {G : GT} (cx : CX p s m args c cX10_takes 3 RX10 G) (hr : meth.sig.returnType = (some .int)) (hlk : meth.locks = false) (h : Hp) (o0 : Nat) (x1 : Int32) (hk_o0 : kd o0 = 9) : PF p l e (rmc 2 45) s m args below meth c 3 G 0 0 (QI below G args s) 0 [some (.ref (gad G o0)), some (.int x1), none] [] h (p_X10_takes h o0 x1) := by
  unfold p_X10_takes
  refine f_aload_n (pc := 0) cx dX10_takes_0 rfl rfl ?_
  refine f_iload_n (pc := 1) cx dX10_takes_1 rfl rfl ?_
  refine f_bind (fun r1 hr1 => ?_)
  refine k_X10_212 (pc := 2) cx (c_X10_firstIn l G _ o0 x1 hk_o0 r1 hr1) hk_o0 ⟨by decide, by decide⟩ ⟨Nat.zero_le _, Nat.zero_le _⟩ (Nat.le_of_ble_eq_true rfl) dX10_takes_2 ?_
  refine f_istore2 (pc := 5) cx dX10_takes_5 (by decide) rfl ?_
  refine f_aload_n (pc := 6) cx dX10_takes_6 rfl rfl ?_
  refine f_iload_n (pc := 7) cx dX10_takes_7 rfl rfl ?_
  refine f_bipush (pc := 8) cx dX10_takes_8 kc_bipush_11 ?_
  refine f_iconst (pc := 10) cx dX10_takes_10 kc_iconst_0 ?_
  refine f_bind (fun r2 hr2 => ?_)
  refine k_X10_165 (pc := 11) cx (c_X10_puts l G _ o0 x1 11 0 hk_o0 r2 hr2) hk_o0 ⟨by decide, by decide⟩ ⟨Nat.zero_le _, Nat.zero_le _⟩ (Nat.le_of_ble_eq_true rfl) dX10_takes_11 ?_
  refine f_iload_n (pc := 14) cx dX10_takes_14 rfl rfl ?_
  refine f_iconst (pc := 15) cx dX10_takes_15 kc_iconst_m1 ?_
  refine f_icmp_ne (pc := 16) (tgt := 30) cx dX10_takes_16 (by decide) (fun _ => ?_) (fun _ => ?_)
  · refine f_aload_n (pc := 19) cx dX10_takes_19 rfl rfl ?_
    refine f_iload_n (pc := 20) cx dX10_takes_20 rfl rfl ?_
    refine f_bipush (pc := 21) cx dX10_takes_21 kc_bipush_7 ?_
    refine f_bipush (pc := 23) cx dX10_takes_23 kc_bipush_m2 ?_
    refine f_bind (fun r3 hr3 => ?_)
    refine k_X10_165 (pc := 25) cx (c_X10_puts l G _ o0 x1 7 (-2) hk_o0 r3 hr3) hk_o0 ⟨by decide, by decide⟩ ⟨Nat.zero_le _, Nat.zero_le _⟩ (Nat.le_of_ble_eq_true rfl) dX10_takes_25 ?_
    refine f_iconst (pc := 28) cx dX10_takes_28 kc_iconst_m1 ?_
    exact f_iret cx hr hlk rfl dX10_takes_29
  · refine f_aload_n (pc := 30) cx dX10_takes_30 rfl rfl ?_
    refine f_iload_n (pc := 31) cx dX10_takes_31 rfl rfl ?_
    refine f_iconst (pc := 32) cx dX10_takes_32 kc_iconst_1 ?_
    refine f_bind (fun r4 hr4 => ?_)
    refine k_X10_215 (pc := 33) cx (c_X10_becomes l G _ o0 r1.1 1 hk_o0 r4 hr4) hk_o0 ⟨by decide, by decide⟩ ⟨Nat.zero_le _, Nat.zero_le _⟩ (Nat.le_of_ble_eq_true rfl) dX10_takes_33 ?_
    refine f_aload_n (pc := 36) cx dX10_takes_36 rfl rfl ?_
    refine g_X10_30 (pc := 37) cx hk_o0 dX10_takes_37 ?_
    refine f_iconst (pc := 40) cx dX10_takes_40 kc_iconst_0 ?_
    refine f_ialdk (pc := 41) (j := 0) (n := 3715) cx (kf_9_20 hk_o0) (by decide) (by decide) kl_0 dX10_takes_41 ?_
    refine f_aload_n (pc := 42) cx dX10_takes_42 rfl rfl ?_
    refine f_iload_n (pc := 43) cx dX10_takes_43 rfl rfl ?_
    refine f_iconst (pc := 44) cx dX10_takes_44 kc_iconst_3 ?_
    refine f_bind (fun r5 hr5 => ?_)
    refine k_X10_194 (pc := 45) cx (c_X10_frameOf l G _ o0 r1.1 3 hk_o0 r5 hr5) hk_o0 ⟨by decide, by decide⟩ ⟨Nat.zero_le _, Nat.zero_le _⟩ (Nat.le_of_ble_eq_true rfl) dX10_takes_45 ?_
    refine f_isub (pc := 48) cx dX10_takes_48 ?_
    refine f_aload_n (pc := 49) cx dX10_takes_49 rfl rfl ?_
    refine f_bind (fun r6 hr6 => ?_)
    refine k_X10_239 (pc := 50) cx (c_X10_target l G _ o0 hk_o0 r6 hr6) hk_o0 ⟨by decide, by decide⟩ ⟨Nat.zero_le _, Nat.zero_le _⟩ (Nat.le_of_ble_eq_true rfl) dX10_takes_50 ?_
    refine f_icmp_lt (pc := 53) (tgt := 73) cx dX10_takes_53 (by decide) (fun _ => ?_) (fun _ => ?_)
    · refine f_aload_n (pc := 73) cx dX10_takes_73 rfl rfl ?_
      refine f_iload_n (pc := 74) cx dX10_takes_74 rfl rfl ?_
      refine f_bipush (pc := 75) cx dX10_takes_75 kc_bipush_7 ?_
      refine f_bipush (pc := 77) cx dX10_takes_77 kc_bipush_m2 ?_
      refine f_bind (fun r7 hr7 => ?_)
      refine k_X10_165 (pc := 79) cx (c_X10_puts l G _ o0 x1 7 (-2) hk_o0 r7 hr7) hk_o0 ⟨by decide, by decide⟩ ⟨Nat.zero_le _, Nat.zero_le _⟩ (Nat.le_of_ble_eq_true rfl) dX10_takes_79 ?_
      refine f_goto (pc := 82) (tgt := 142) cx dX10_takes_82 (by decide) ?_
      refine f_iload_n (pc := 142) cx dX10_takes_142 rfl rfl ?_
      exact f_iret cx hr hlk rfl dX10_takes_143
    · refine f_aload_n (pc := 56) cx dX10_takes_56 rfl rfl ?_
      refine f_iload_n (pc := 57) cx dX10_takes_57 rfl rfl ?_
      refine f_bipush (pc := 58) cx dX10_takes_58 kc_bipush_12 ?_
      refine f_bind (fun r8 hr8 => ?_)
      refine k_X10_184 (pc := 60) cx (c_X10_of l G _ o0 x1 12 hk_o0 r8 hr8) hk_o0 ⟨by decide, by decide⟩ ⟨Nat.zero_le _, Nat.zero_le _⟩ (Nat.le_of_ble_eq_true rfl) dX10_takes_60 ?_
      refine f_aload_n (pc := 63) cx dX10_takes_63 rfl rfl ?_
      refine g_X10_30 (pc := 64) cx hk_o0 dX10_takes_64 ?_
      refine f_bipush (pc := 67) cx dX10_takes_67 kc_bipush_8 ?_
      refine f_ialdk (pc := 69) (j := 8) (n := 3715) cx (kf_9_20 hk_o0) (by decide) (by decide) kl_8 dX10_takes_69 ?_
      refine f_icmp_ge (pc := 70) (tgt := 85) cx dX10_takes_70 (by decide) (fun _ => ?_) (fun _ => ?_)
      · refine f_aload_n (pc := 85) cx dX10_takes_85 rfl rfl ?_
        refine f_iload_n (pc := 86) cx dX10_takes_86 rfl rfl ?_
        refine f_bipush (pc := 87) cx dX10_takes_87 kc_bipush_7 ?_
        refine f_bind (fun r9 hr9 => ?_)
        refine k_X10_184 (pc := 89) cx (c_X10_of l G _ o0 x1 7 hk_o0 r9 hr9) hk_o0 ⟨by decide, by decide⟩ ⟨Nat.zero_le _, Nat.zero_le _⟩ (Nat.le_of_ble_eq_true rfl) dX10_takes_89 ?_
        refine f_bipush (pc := 92) cx dX10_takes_92 kc_bipush_m2 ?_
        refine f_icmp_ne (pc := 94) (tgt := 118) cx dX10_takes_94 (by decide) (fun _ => ?_) (fun _ => ?_)
        · refine f_aload_n (pc := 97) cx dX10_takes_97 rfl rfl ?_
          refine f_iload_n (pc := 98) cx dX10_takes_98 rfl rfl ?_
          refine f_bipush (pc := 99) cx dX10_takes_99 kc_bipush_7 ?_
          refine f_aload_n (pc := 101) cx dX10_takes_101 rfl rfl ?_
          refine g_X10_30 (pc := 102) cx hk_o0 dX10_takes_102 ?_
          refine f_iconst (pc := 105) cx dX10_takes_105 kc_iconst_0 ?_
          refine f_ialdk (pc := 106) (j := 0) (n := 3715) cx (kf_9_20 hk_o0) (by decide) (by decide) kl_0 dX10_takes_106 ?_
          refine f_aload_n (pc := 107) cx dX10_takes_107 rfl rfl ?_
          refine f_bind (fun r10 hr10 => ?_)
          refine k_X10_225 (pc := 108) cx (c_X10_interval l G _ o0 hk_o0 r10 hr10) hk_o0 ⟨by decide, by decide⟩ ⟨Nat.zero_le _, Nat.zero_le _⟩ (Nat.le_of_ble_eq_true rfl) dX10_takes_108 ?_
          refine f_iadd (pc := 111) cx dX10_takes_111 ?_
          refine f_bind (fun r11 hr11 => ?_)
          refine k_X10_165 (pc := 112) cx (c_X10_puts l G _ o0 x1 7 ((r9.2 (o0 + 6) 0) + r10.1) hk_o0 r11 hr11) hk_o0 ⟨by decide, by decide⟩ ⟨Nat.zero_le _, Nat.zero_le _⟩ (Nat.le_of_ble_eq_true rfl) dX10_takes_112 ?_
          refine f_goto (pc := 115) (tgt := 142) cx dX10_takes_115 (by decide) ?_
          refine f_iload_n (pc := 142) cx dX10_takes_142 rfl rfl ?_
          exact f_iret cx hr hlk rfl dX10_takes_143
        · refine f_aload_n (pc := 118) cx dX10_takes_118 rfl rfl ?_
          refine g_X10_30 (pc := 119) cx hk_o0 dX10_takes_119 ?_
          refine f_iconst (pc := 122) cx dX10_takes_122 kc_iconst_0 ?_
          refine f_ialdk (pc := 123) (j := 0) (n := 3715) cx (kf_9_20 hk_o0) (by decide) (by decide) kl_0 dX10_takes_123 ?_
          refine f_aload_n (pc := 124) cx dX10_takes_124 rfl rfl ?_
          refine f_iload_n (pc := 125) cx dX10_takes_125 rfl rfl ?_
          refine f_bipush (pc := 126) cx dX10_takes_126 kc_bipush_7 ?_
          refine f_bind (fun r12 hr12 => ?_)
          refine k_X10_184 (pc := 128) cx (c_X10_of l G _ o0 x1 7 hk_o0 r12 hr12) hk_o0 ⟨by decide, by decide⟩ ⟨Nat.zero_le _, Nat.zero_le _⟩ (Nat.le_of_ble_eq_true rfl) dX10_takes_128 ?_
          refine f_icmp_lt (pc := 131) (tgt := 142) cx dX10_takes_131 (by decide) (fun _ => ?_) (fun _ => ?_)
          · refine f_iload_n (pc := 142) cx dX10_takes_142 rfl rfl ?_
            exact f_iret cx hr hlk rfl dX10_takes_143
          · refine f_aload_n (pc := 134) cx dX10_takes_134 rfl rfl ?_
            refine f_iload_n (pc := 135) cx dX10_takes_135 rfl rfl ?_
            refine f_bipush (pc := 136) cx dX10_takes_136 kc_bipush_11 ?_
            refine f_iconst (pc := 138) cx dX10_takes_138 kc_iconst_1 ?_
            refine f_bind (fun r13 hr13 => ?_)
            refine k_X10_165 (pc := 139) cx (c_X10_puts l G _ o0 x1 11 1 hk_o0 r13 hr13) hk_o0 ⟨by decide, by decide⟩ ⟨Nat.zero_le _, Nat.zero_le _⟩ (Nat.le_of_ble_eq_true rfl) dX10_takes_139 ?_
            refine f_iload_n (pc := 142) cx dX10_takes_142 rfl rfl ?_
            exact f_iret cx hr hlk rfl dX10_takes_143
      · refine f_aload_n (pc := 73) cx dX10_takes_73 rfl rfl ?_
        refine f_iload_n (pc := 74) cx dX10_takes_74 rfl rfl ?_
        refine f_bipush (pc := 75) cx dX10_takes_75 kc_bipush_7 ?_
        refine f_bipush (pc := 77) cx dX10_takes_77 kc_bipush_m2 ?_
        refine f_bind (fun r14 hr14 => ?_)
        refine k_X10_165 (pc := 79) cx (c_X10_puts l G _ o0 x1 7 (-2) hk_o0 r14 hr14) hk_o0 ⟨by decide, by decide⟩ ⟨Nat.zero_le _, Nat.zero_le _⟩ (Nat.le_of_ble_eq_true rfl) dX10_takes_79 ?_
        refine f_goto (pc := 82) (tgt := 142) cx dX10_takes_82 (by decide) ?_
        refine f_iload_n (pc := 142) cx dX10_takes_142 rfl rfl ?_
        exact f_iret cx hr hlk rfl dX10_takes_143
set_option maxRecDepth 4000 in
theorem c_X10_takes (l : Launch) (G : GT) (h : Hp) (o0 : Nat) (x1 : Int32) (hk_o0 : kd o0 = 9) : CtI l G yX10_takes cX10_takes 3 (some .int) 2 45 [.ref (gad G o0), .int x1] h (p_X10_takes h o0 x1) := fun a ha => Ct.of (lv := [some (.ref (gad G o0)), some (.int x1), none]) (by decide) rfl (Nat.le_of_ble_eq_true rfl) rfl (fun p e s m args below meth c cx hr hlk => s_X10_takes cx hr hlk h o0 x1 hk_o0 a ha)
def b_X10_hearsAll_2 (o0 : Nat) (x1 : Int32) (k2 : Hp × Int32 → Option Hp) (q : Hp × Int32) : Option Hp :=
  if (q.1 (o0 + 6) 3514) ≤ q.2 then (some q.1) else (if ib (3515 + q.2) 3715 then (nv (q.1 (o0 + 6) (Int32.toNatClampNeg (3515 + q.2))) fun v2 => Option.bind (p_X10_frameOf q.1 o0 v2 10) fun r3 => if r3.1 = x1 then (Option.bind (p_X10_frameOf r3.2 o0 v2 11) fun r4 => if r4.1 = 0 then (Option.bind (p_X10_frameOf r4.2 o0 v2 7) fun r5 => Option.bind (p_X10_senderOf r5.2 o0 x1 3) fun r6 => if (r6.2 (o0 + 6) 0) < (r5.1 + r6.1) then (k2 (r6.2, q.2 + 1)) else (Option.bind (p_X10_hears r6.2 o0 x1 v2) fun r7 => k2 (r7, q.2 + 1))) else (k2 (r4.2, q.2 + 1))) else (k2 (r3.2, q.2 + 1))) else none)
def p_X10_hearsAll (h : Hp) (o0 : Nat) (x1 : Int32) : Option Hp :=
  lp (b_X10_hearsAll_2 o0 x1) FU (h, 0)
set_option maxRecDepth 4000 in
theorem s_X10_hearsAll_2 {p : Program} {l : Launch} {e : Env} {s : State} {m : MethodId} {args : Array Value} {below : List Frame} {meth : Method} {c : Code} {G : GT} (cx : CX p s m args c cX10_hearsAll 4 RX10 G) (hr : meth.sig.returnType = none) (hlk : meth.locks = false) (o0 : Nat) (x1 : Int32) (hk_o0 : kd o0 = 9) : ∀ (n : Nat) (q : Hp × Int32), PF p l e (rmc 2 47) s m args below meth c 4 G 0 0 (QV below G args s) 2 [some (.ref (gad G o0)), some (.int x1), some (.int q.2), none] [] q.1 (lp (b_X10_hearsAll_2 o0 x1) n q) := by
  refine f_lp (lvf := fun (q : Hp × Int32) => [some (.ref (gad G o0)), some (.int x1), some (.int q.2), none]) (hf := fun (q : Hp × Int32) => q.1) (fun k2 hk2 q => ?_)
  show PF p l e (rmc 2 47) s m args below meth c 4 G 0 0 (QV below G args s) 2 [some (.ref (gad G o0)), some (.int x1), some (.int q.2), none] [] q.1 (b_X10_hearsAll_2 o0 x1 k2 q)
  unfold b_X10_hearsAll_2
  refine f_iload_n (pc := 2) cx dX10_hearsAll_2 rfl rfl ?_
  refine f_aload_n (pc := 3) cx dX10_hearsAll_3 rfl rfl ?_
  refine g_X10_30 (pc := 4) cx hk_o0 dX10_hearsAll_4 ?_
  refine f_sipush (pc := 7) cx dX10_hearsAll_7 kc_sipush_3514 ?_
  refine f_ialdk (pc := 10) (j := 3514) (n := 3715) cx (kf_9_20 hk_o0) (by decide) (by decide) kl_3514 dX10_hearsAll_10 ?_
  refine f_icmp_ge (pc := 11) (tgt := 81) cx dX10_hearsAll_11 (by decide) (fun _ => ?_) (fun _ => ?_)
  · exact f_vret cx hr hlk dX10_hearsAll_81
  · refine f_aload_n (pc := 14) cx dX10_hearsAll_14 rfl rfl ?_
    refine g_X10_30 (pc := 15) cx hk_o0 dX10_hearsAll_15 ?_
    refine f_sipush (pc := 18) cx dX10_hearsAll_18 kc_sipush_3515 ?_
    refine f_iload_n (pc := 21) cx dX10_hearsAll_21 rfl rfl ?_
    refine f_iadd (pc := 22) cx dX10_hearsAll_22 ?_
    refine f_need (fun c1 => ?_)
    refine f_iald (pc := 23) (n := 3715) cx (kf_9_20 hk_o0) (by decide) c1 dX10_hearsAll_23 ?_
    refine f_nvi (fun v2 => ?_)
    refine f_istore3 (pc := 24) cx dX10_hearsAll_24 (by decide) rfl ?_
    refine f_aload_n (pc := 25) cx dX10_hearsAll_25 rfl rfl ?_
    refine f_iload_n (pc := 26) cx dX10_hearsAll_26 rfl rfl ?_
    refine f_bipush (pc := 27) cx dX10_hearsAll_27 kc_bipush_10 ?_
    refine f_bind (fun r3 hr3 => ?_)
    refine k_X10_194 (pc := 29) cx (c_X10_frameOf l G _ o0 v2 10 hk_o0 r3 hr3) hk_o0 ⟨by decide, by decide⟩ ⟨Nat.zero_le _, Nat.zero_le _⟩ (Nat.le_of_ble_eq_true rfl) dX10_hearsAll_29 ?_
    refine f_iload_n (pc := 32) cx dX10_hearsAll_32 rfl rfl ?_
    refine f_icmp_ne (pc := 33) (tgt := 75) cx dX10_hearsAll_33 (by decide) (fun _ => ?_) (fun _ => ?_)
    · refine f_aload_n (pc := 36) cx dX10_hearsAll_36 rfl rfl ?_
      refine f_iload_n (pc := 37) cx dX10_hearsAll_37 rfl rfl ?_
      refine f_bipush (pc := 38) cx dX10_hearsAll_38 kc_bipush_11 ?_
      refine f_bind (fun r4 hr4 => ?_)
      refine k_X10_194 (pc := 40) cx (c_X10_frameOf l G _ o0 v2 11 hk_o0 r4 hr4) hk_o0 ⟨by decide, by decide⟩ ⟨Nat.zero_le _, Nat.zero_le _⟩ (Nat.le_of_ble_eq_true rfl) dX10_hearsAll_40 ?_
      refine f_if_ne (pc := 43) (tgt := 75) cx dX10_hearsAll_43 (by decide) (fun _ => ?_) (fun _ => ?_)
      · refine f_aload_n (pc := 46) cx dX10_hearsAll_46 rfl rfl ?_
        refine f_iload_n (pc := 47) cx dX10_hearsAll_47 rfl rfl ?_
        refine f_bipush (pc := 48) cx dX10_hearsAll_48 kc_bipush_7 ?_
        refine f_bind (fun r5 hr5 => ?_)
        refine k_X10_194 (pc := 50) cx (c_X10_frameOf l G _ o0 v2 7 hk_o0 r5 hr5) hk_o0 ⟨by decide, by decide⟩ ⟨Nat.zero_le _, Nat.zero_le _⟩ (Nat.le_of_ble_eq_true rfl) dX10_hearsAll_50 ?_
        refine f_aload_n (pc := 53) cx dX10_hearsAll_53 rfl rfl ?_
        refine f_iload_n (pc := 54) cx dX10_hearsAll_54 rfl rfl ?_
        refine f_iconst (pc := 55) cx dX10_hearsAll_55 kc_iconst_3 ?_
        refine f_bind (fun r6 hr6 => ?_)
        refine k_X10_272 (pc := 56) cx (c_X10_senderOf l G _ o0 x1 3 hk_o0 r6 hr6) hk_o0 ⟨by decide, by decide⟩ ⟨Nat.zero_le _, Nat.zero_le _⟩ (Nat.le_of_ble_eq_true rfl) dX10_hearsAll_56 ?_
        refine f_iadd (pc := 59) cx dX10_hearsAll_59 ?_
        refine f_aload_n (pc := 60) cx dX10_hearsAll_60 rfl rfl ?_
        refine g_X10_30 (pc := 61) cx hk_o0 dX10_hearsAll_61 ?_
        refine f_iconst (pc := 64) cx dX10_hearsAll_64 kc_iconst_0 ?_
        refine f_ialdk (pc := 65) (j := 0) (n := 3715) cx (kf_9_20 hk_o0) (by decide) (by decide) kl_0 dX10_hearsAll_65 ?_
        refine f_icmp_gt (pc := 66) (tgt := 75) cx dX10_hearsAll_66 (by decide) (fun _ => ?_) (fun _ => ?_)
        · refine f_iinc2 (pc := 75) cx dX10_hearsAll_75 kc_iconst_1 (by decide) rfl ?_
          refine f_goto (pc := 78) (tgt := 2) cx dX10_hearsAll_78 (by decide) ?_
          exact f_weak (LSb.s (LSb.s (LSb.s (LSb.n LSb.e)))) (hk2 (r6.2, q.2 + 1))
        · refine f_aload_n (pc := 69) cx dX10_hearsAll_69 rfl rfl ?_
          refine f_iload_n (pc := 70) cx dX10_hearsAll_70 rfl rfl ?_
          refine f_iload_n (pc := 71) cx dX10_hearsAll_71 rfl rfl ?_
          refine f_bind (fun r7 hr7 => ?_)
          refine k_X10_275 (pc := 72) cx (c_X10_hears l G _ o0 x1 v2 hk_o0 r7 hr7) hk_o0 ⟨by decide, by decide⟩ ⟨Nat.zero_le _, Nat.zero_le _⟩ (Nat.le_of_ble_eq_true rfl) dX10_hearsAll_72 ?_
          refine f_iinc2 (pc := 75) cx dX10_hearsAll_75 kc_iconst_1 (by decide) rfl ?_
          refine f_goto (pc := 78) (tgt := 2) cx dX10_hearsAll_78 (by decide) ?_
          exact f_weak (LSb.s (LSb.s (LSb.s (LSb.n LSb.e)))) (hk2 (r7, q.2 + 1))
      · refine f_iinc2 (pc := 75) cx dX10_hearsAll_75 kc_iconst_1 (by decide) rfl ?_
        refine f_goto (pc := 78) (tgt := 2) cx dX10_hearsAll_78 (by decide) ?_
        exact f_weak (LSb.s (LSb.s (LSb.s (LSb.n LSb.e)))) (hk2 (r4.2, q.2 + 1))
    · refine f_iinc2 (pc := 75) cx dX10_hearsAll_75 kc_iconst_1 (by decide) rfl ?_
      refine f_goto (pc := 78) (tgt := 2) cx dX10_hearsAll_78 (by decide) ?_
      exact f_weak (LSb.s (LSb.s (LSb.s (LSb.n LSb.e)))) (hk2 (r3.2, q.2 + 1))
set_option maxRecDepth 4000 in
theorem s_X10_hearsAll {p : Program} {l : Launch} {e : Env} {s : State} {m : MethodId} {args : Array Value} {below : List Frame} {meth : Method} {c : Code} {G : GT} (cx : CX p s m args c cX10_hearsAll 4 RX10 G) (hr : meth.sig.returnType = none) (hlk : meth.locks = false) (h : Hp) (o0 : Nat) (x1 : Int32) (hk_o0 : kd o0 = 9) : PF p l e (rmc 2 47) s m args below meth c 4 G 0 0 (QV below G args s) 0 [some (.ref (gad G o0)), some (.int x1), none, none] [] h (p_X10_hearsAll h o0 x1) := by
  unfold p_X10_hearsAll
  refine f_iconst (pc := 0) cx dX10_hearsAll_0 kc_iconst_0 ?_
  refine f_istore2 (pc := 1) cx dX10_hearsAll_1 (by decide) rfl ?_
  exact f_weak (LSb.s (LSb.s (LSb.s (LSb.n LSb.e)))) (s_X10_hearsAll_2 cx hr hlk o0 x1 hk_o0 FU (h, 0))
set_option maxRecDepth 4000 in
theorem c_X10_hearsAll (l : Launch) (G : GT) (h : Hp) (o0 : Nat) (x1 : Int32) (hk_o0 : kd o0 = 9) : CtV l G yX10_hearsAll cX10_hearsAll 4 none 2 47 [.ref (gad G o0), .int x1] h (p_X10_hearsAll h o0 x1) := fun a ha => Ct.of (lv := [some (.ref (gad G o0)), some (.int x1), none, none]) (by decide) rfl (Nat.le_of_ble_eq_true rfl) rfl (fun p e s m args below meth c cx hr hlk => s_X10_hearsAll cx hr hlk h o0 x1 hk_o0 a ha)
def p_X10_bucketFor (h : Hp) (o0 : Nat) (x1 : Int32) : Option (Int32 × Hp) :=
  nv (hp h o0 0 0) fun h1 => Option.bind (p_X10_isKey h1 x1) fun r2 => if r2.1 = 0 then (some ((-1), r2.2)) else (Option.bind (p_X10_goesTo r2.2 o0 x1) fun r3 => some (r3.1, r3.2))
set_option maxRecDepth 4000 in
theorem s_X10_bucketFor {p : Program} {l : Launch} {e : Env} {s : State} {m : MethodId} {args : Array Value} {below : List Frame} {meth : Method} {c : Code} {G : GT} (cx : CX p s m args c cX10_bucketFor 2 RX10 G) (hr : meth.sig.returnType = (some .int)) (hlk : meth.locks = false) (h : Hp) (o0 : Nat) (x1 : Int32) (hk_o0 : kd o0 = 9) : PF p l e (rmc 2 45) s m args below meth c 2 G 0 0 (QI below G args s) 0 [some (.ref (gad G o0)), some (.int x1)] [] h (p_X10_bucketFor h o0 x1) := by
  unfold p_X10_bucketFor
  refine f_aload_n (pc := 0) cx dX10_bucketFor_0 rfl rfl ?_
  refine f_iconst (pc := 1) cx dX10_bucketFor_1 kc_iconst_0 ?_
  refine u_X10_45 (pc := 2) cx hk_o0 dX10_bucketFor_2 ?_
  refine f_nvh (fun h1 => ?_)
  refine f_iload_n (pc := 5) cx dX10_bucketFor_5 rfl rfl ?_
  refine f_bind (fun r2 hr2 => ?_)
  refine k_X10_301 (pc := 6) cx (c_X10_isKey l G _ x1 r2 hr2) ⟨by decide, by decide⟩ ⟨Nat.zero_le _, Nat.zero_le _⟩ (Nat.le_of_ble_eq_true rfl) dX10_bucketFor_6 ?_
  refine f_if_eq (pc := 9) (tgt := 20) cx dX10_bucketFor_9 (by decide) (fun _ => ?_) (fun _ => ?_)
  · refine f_iconst (pc := 20) cx dX10_bucketFor_20 kc_iconst_m1 ?_
    exact f_iret cx hr hlk rfl dX10_bucketFor_21
  · refine f_aload_n (pc := 12) cx dX10_bucketFor_12 rfl rfl ?_
    refine f_iload_n (pc := 13) cx dX10_bucketFor_13 rfl rfl ?_
    refine f_bind (fun r3 hr3 => ?_)
    refine k_X10_200 (pc := 14) cx (c_X10_goesTo l G _ o0 x1 hk_o0 r3 hr3) hk_o0 ⟨by decide, by decide⟩ ⟨Nat.zero_le _, Nat.zero_le _⟩ (Nat.le_of_ble_eq_true rfl) dX10_bucketFor_14 ?_
    refine f_goto (pc := 17) (tgt := 21) cx dX10_bucketFor_17 (by decide) ?_
    exact f_iret cx hr hlk rfl dX10_bucketFor_21
set_option maxRecDepth 4000 in
theorem c_X10_bucketFor (l : Launch) (G : GT) (h : Hp) (o0 : Nat) (x1 : Int32) (hk_o0 : kd o0 = 9) : CtI l G yX10_bucketFor cX10_bucketFor 2 (some .int) 2 45 [.ref (gad G o0), .int x1] h (p_X10_bucketFor h o0 x1) := fun a ha => Ct.of (lv := [some (.ref (gad G o0)), some (.int x1)]) (by decide) rfl (Nat.le_of_ble_eq_true rfl) rfl (fun p e s m args below meth c cx hr hlk => s_X10_bucketFor cx hr hlk h o0 x1 hk_o0 a ha)
def p_X10_bucket (h : Hp) (o0 : Nat) (x1 : Int32) (x2 : Int32) : Option (Int32 × Hp) :=
  nv (hp h o0 0 0) fun h1 => Option.bind (p_X10_isBucket h1 o0 x1) fun r2 => if r2.1 = 0 then (nv (hp r2.2 o0 0 1) fun h3 => some (0, h3)) else (if x2 = 0 then (Option.bind (p_X10_of r2.2 o0 x1 0) fun r4 => some (r4.1, r4.2)) else if x2 = 1 then (Option.bind (p_X10_standingIn r2.2 o0 x1) fun r6 => some (r6.1, r6.2)) else if x2 = 2 then (Option.bind (p_X10_of r2.2 o0 x1 12) fun r8 => some (r8.1, r8.2)) else if x2 = 3 then (Option.bind (p_X10_of r2.2 o0 x1 1) fun r10 => some (r10.1, r10.2)) else if x2 = 4 then (Option.bind (p_X10_of r2.2 o0 x1 2) fun r12 => some (r12.1, r12.2)) else if x2 = 5 then (Option.bind (p_X10_of r2.2 o0 x1 3) fun r14 => some (r14.1, r14.2)) else if x2 = 6 then (Option.bind (p_X10_of r2.2 o0 x1 4) fun r16 => some (r16.1, r16.2)) else if x2 = 7 then (Option.bind (p_X10_of r2.2 o0 x1 5) fun r18 => some (r18.1, r18.2)) else if x2 = 8 then (Option.bind (p_X10_of r2.2 o0 x1 6) fun r20 => some (r20.1, r20.2)) else if x2 = 9 then (Option.bind (p_X10_of r2.2 o0 x1 7) fun r22 => some (r22.1, r22.2)) else if x2 = 10 then (Option.bind (p_X10_of r2.2 o0 x1 8) fun r24 => some (r24.1, r24.2)) else (nv (hp r2.2 o0 0 2) fun h26 => some (0, h26)))
set_option maxRecDepth 4000 in
theorem s_X10_bucket {p : Program} {l : Launch} {e : Env} {s : State} {m : MethodId} {args : Array Value} {below : List Frame} {meth : Method} {c : Code} {G : GT} (cx : CX p s m args c cX10_bucket 3 RX10 G) (hr : meth.sig.returnType = (some .int)) (hlk : meth.locks = false) (h : Hp) (o0 : Nat) (x1 : Int32) (x2 : Int32) (hk_o0 : kd o0 = 9) : PF p l e (rmc 2 45) s m args below meth c 3 G 0 0 (QI below G args s) 0 [some (.ref (gad G o0)), some (.int x1), some (.int x2)] [] h (p_X10_bucket h o0 x1 x2) := by
  unfold p_X10_bucket
  refine f_aload_n (pc := 0) cx dX10_bucket_0 rfl rfl ?_
  refine f_iconst (pc := 1) cx dX10_bucket_1 kc_iconst_0 ?_
  refine u_X10_45 (pc := 2) cx hk_o0 dX10_bucket_2 ?_
  refine f_nvh (fun h1 => ?_)
  refine f_aload_n (pc := 5) cx dX10_bucket_5 rfl rfl ?_
  refine f_iload_n (pc := 6) cx dX10_bucket_6 rfl rfl ?_
  refine f_bind (fun r2 hr2 => ?_)
  refine k_X10_304 (pc := 7) cx (c_X10_isBucket l G _ o0 x1 hk_o0 r2 hr2) hk_o0 ⟨by decide, by decide⟩ ⟨Nat.zero_le _, Nat.zero_le _⟩ (Nat.le_of_ble_eq_true rfl) dX10_bucket_7 ?_
  refine f_if_ne (pc := 10) (tgt := 20) cx dX10_bucket_10 (by decide) (fun _ => ?_) (fun _ => ?_)
  · refine f_aload_n (pc := 13) cx dX10_bucket_13 rfl rfl ?_
    refine f_iconst (pc := 14) cx dX10_bucket_14 kc_iconst_1 ?_
    refine u_X10_45 (pc := 15) cx hk_o0 dX10_bucket_15 ?_
    refine f_nvh (fun h3 => ?_)
    refine f_iconst (pc := 18) cx dX10_bucket_18 kc_iconst_0 ?_
    exact f_iret cx hr hlk rfl dX10_bucket_19
  · refine f_iload_n (pc := 20) cx dX10_bucket_20 rfl rfl ?_
    refine f_case (?_) (fun n5 => ?_)
    · refine f_tin (pc := 21) (tgt := 80) cx dX10_bucket_21 (by decide) (by decide) rfl (by decide) ?_
      refine f_aload_n (pc := 80) cx dX10_bucket_80 rfl rfl ?_
      refine f_iload_n (pc := 81) cx dX10_bucket_81 rfl rfl ?_
      refine f_iconst (pc := 82) cx dX10_bucket_82 kc_iconst_0 ?_
      refine f_bind (fun r4 hr4 => ?_)
      refine k_X10_184 (pc := 83) cx (c_X10_of l G _ o0 x1 0 hk_o0 r4 hr4) hk_o0 ⟨by decide, by decide⟩ ⟨Nat.zero_le _, Nat.zero_le _⟩ (Nat.le_of_ble_eq_true rfl) dX10_bucket_83 ?_
      exact f_iret cx hr hlk rfl dX10_bucket_86
    refine f_case (?_) (fun n7 => ?_)
    · refine f_tin (pc := 21) (tgt := 87) cx dX10_bucket_21 (by decide) (by decide) rfl (by decide) ?_
      refine f_aload_n (pc := 87) cx dX10_bucket_87 rfl rfl ?_
      refine f_iload_n (pc := 88) cx dX10_bucket_88 rfl rfl ?_
      refine f_bind (fun r6 hr6 => ?_)
      refine k_X10_307 (pc := 89) cx (c_X10_standingIn l G _ o0 x1 hk_o0 r6 hr6) hk_o0 ⟨by decide, by decide⟩ ⟨Nat.zero_le _, Nat.zero_le _⟩ (Nat.le_of_ble_eq_true rfl) dX10_bucket_89 ?_
      exact f_iret cx hr hlk rfl dX10_bucket_92
    refine f_case (?_) (fun n9 => ?_)
    · refine f_tin (pc := 21) (tgt := 93) cx dX10_bucket_21 (by decide) (by decide) rfl (by decide) ?_
      refine f_aload_n (pc := 93) cx dX10_bucket_93 rfl rfl ?_
      refine f_iload_n (pc := 94) cx dX10_bucket_94 rfl rfl ?_
      refine f_bipush (pc := 95) cx dX10_bucket_95 kc_bipush_12 ?_
      refine f_bind (fun r8 hr8 => ?_)
      refine k_X10_184 (pc := 97) cx (c_X10_of l G _ o0 x1 12 hk_o0 r8 hr8) hk_o0 ⟨by decide, by decide⟩ ⟨Nat.zero_le _, Nat.zero_le _⟩ (Nat.le_of_ble_eq_true rfl) dX10_bucket_97 ?_
      exact f_iret cx hr hlk rfl dX10_bucket_100
    refine f_case (?_) (fun n11 => ?_)
    · refine f_tin (pc := 21) (tgt := 101) cx dX10_bucket_21 (by decide) (by decide) rfl (by decide) ?_
      refine f_aload_n (pc := 101) cx dX10_bucket_101 rfl rfl ?_
      refine f_iload_n (pc := 102) cx dX10_bucket_102 rfl rfl ?_
      refine f_iconst (pc := 103) cx dX10_bucket_103 kc_iconst_1 ?_
      refine f_bind (fun r10 hr10 => ?_)
      refine k_X10_184 (pc := 104) cx (c_X10_of l G _ o0 x1 1 hk_o0 r10 hr10) hk_o0 ⟨by decide, by decide⟩ ⟨Nat.zero_le _, Nat.zero_le _⟩ (Nat.le_of_ble_eq_true rfl) dX10_bucket_104 ?_
      exact f_iret cx hr hlk rfl dX10_bucket_107
    refine f_case (?_) (fun n13 => ?_)
    · refine f_tin (pc := 21) (tgt := 108) cx dX10_bucket_21 (by decide) (by decide) rfl (by decide) ?_
      refine f_aload_n (pc := 108) cx dX10_bucket_108 rfl rfl ?_
      refine f_iload_n (pc := 109) cx dX10_bucket_109 rfl rfl ?_
      refine f_iconst (pc := 110) cx dX10_bucket_110 kc_iconst_2 ?_
      refine f_bind (fun r12 hr12 => ?_)
      refine k_X10_184 (pc := 111) cx (c_X10_of l G _ o0 x1 2 hk_o0 r12 hr12) hk_o0 ⟨by decide, by decide⟩ ⟨Nat.zero_le _, Nat.zero_le _⟩ (Nat.le_of_ble_eq_true rfl) dX10_bucket_111 ?_
      exact f_iret cx hr hlk rfl dX10_bucket_114
    refine f_case (?_) (fun n15 => ?_)
    · refine f_tin (pc := 21) (tgt := 115) cx dX10_bucket_21 (by decide) (by decide) rfl (by decide) ?_
      refine f_aload_n (pc := 115) cx dX10_bucket_115 rfl rfl ?_
      refine f_iload_n (pc := 116) cx dX10_bucket_116 rfl rfl ?_
      refine f_iconst (pc := 117) cx dX10_bucket_117 kc_iconst_3 ?_
      refine f_bind (fun r14 hr14 => ?_)
      refine k_X10_184 (pc := 118) cx (c_X10_of l G _ o0 x1 3 hk_o0 r14 hr14) hk_o0 ⟨by decide, by decide⟩ ⟨Nat.zero_le _, Nat.zero_le _⟩ (Nat.le_of_ble_eq_true rfl) dX10_bucket_118 ?_
      exact f_iret cx hr hlk rfl dX10_bucket_121
    refine f_case (?_) (fun n17 => ?_)
    · refine f_tin (pc := 21) (tgt := 122) cx dX10_bucket_21 (by decide) (by decide) rfl (by decide) ?_
      refine f_aload_n (pc := 122) cx dX10_bucket_122 rfl rfl ?_
      refine f_iload_n (pc := 123) cx dX10_bucket_123 rfl rfl ?_
      refine f_iconst (pc := 124) cx dX10_bucket_124 kc_iconst_4 ?_
      refine f_bind (fun r16 hr16 => ?_)
      refine k_X10_184 (pc := 125) cx (c_X10_of l G _ o0 x1 4 hk_o0 r16 hr16) hk_o0 ⟨by decide, by decide⟩ ⟨Nat.zero_le _, Nat.zero_le _⟩ (Nat.le_of_ble_eq_true rfl) dX10_bucket_125 ?_
      exact f_iret cx hr hlk rfl dX10_bucket_128
    refine f_case (?_) (fun n19 => ?_)
    · refine f_tin (pc := 21) (tgt := 129) cx dX10_bucket_21 (by decide) (by decide) rfl (by decide) ?_
      refine f_aload_n (pc := 129) cx dX10_bucket_129 rfl rfl ?_
      refine f_iload_n (pc := 130) cx dX10_bucket_130 rfl rfl ?_
      refine f_iconst (pc := 131) cx dX10_bucket_131 kc_iconst_5 ?_
      refine f_bind (fun r18 hr18 => ?_)
      refine k_X10_184 (pc := 132) cx (c_X10_of l G _ o0 x1 5 hk_o0 r18 hr18) hk_o0 ⟨by decide, by decide⟩ ⟨Nat.zero_le _, Nat.zero_le _⟩ (Nat.le_of_ble_eq_true rfl) dX10_bucket_132 ?_
      exact f_iret cx hr hlk rfl dX10_bucket_135
    refine f_case (?_) (fun n21 => ?_)
    · refine f_tin (pc := 21) (tgt := 136) cx dX10_bucket_21 (by decide) (by decide) rfl (by decide) ?_
      refine f_aload_n (pc := 136) cx dX10_bucket_136 rfl rfl ?_
      refine f_iload_n (pc := 137) cx dX10_bucket_137 rfl rfl ?_
      refine f_bipush (pc := 138) cx dX10_bucket_138 kc_bipush_6 ?_
      refine f_bind (fun r20 hr20 => ?_)
      refine k_X10_184 (pc := 140) cx (c_X10_of l G _ o0 x1 6 hk_o0 r20 hr20) hk_o0 ⟨by decide, by decide⟩ ⟨Nat.zero_le _, Nat.zero_le _⟩ (Nat.le_of_ble_eq_true rfl) dX10_bucket_140 ?_
      exact f_iret cx hr hlk rfl dX10_bucket_143
    refine f_case (?_) (fun n23 => ?_)
    · refine f_tin (pc := 21) (tgt := 144) cx dX10_bucket_21 (by decide) (by decide) rfl (by decide) ?_
      refine f_aload_n (pc := 144) cx dX10_bucket_144 rfl rfl ?_
      refine f_iload_n (pc := 145) cx dX10_bucket_145 rfl rfl ?_
      refine f_bipush (pc := 146) cx dX10_bucket_146 kc_bipush_7 ?_
      refine f_bind (fun r22 hr22 => ?_)
      refine k_X10_184 (pc := 148) cx (c_X10_of l G _ o0 x1 7 hk_o0 r22 hr22) hk_o0 ⟨by decide, by decide⟩ ⟨Nat.zero_le _, Nat.zero_le _⟩ (Nat.le_of_ble_eq_true rfl) dX10_bucket_148 ?_
      exact f_iret cx hr hlk rfl dX10_bucket_151
    refine f_case (?_) (fun n25 => ?_)
    · refine f_tin (pc := 21) (tgt := 152) cx dX10_bucket_21 (by decide) (by decide) rfl (by decide) ?_
      refine f_aload_n (pc := 152) cx dX10_bucket_152 rfl rfl ?_
      refine f_iload_n (pc := 153) cx dX10_bucket_153 rfl rfl ?_
      refine f_bipush (pc := 154) cx dX10_bucket_154 kc_bipush_8 ?_
      refine f_bind (fun r24 hr24 => ?_)
      refine k_X10_184 (pc := 156) cx (c_X10_of l G _ o0 x1 8 hk_o0 r24 hr24) hk_o0 ⟨by decide, by decide⟩ ⟨Nat.zero_le _, Nat.zero_le _⟩ (Nat.le_of_ble_eq_true rfl) dX10_bucket_156 ?_
      exact f_iret cx hr hlk rfl dX10_bucket_159
    refine f_tout (pc := 21) (tgt := 160) (N := 11) cx dX10_bucket_21 (by decide) (by decide) (lt_s (lt_s (lt_s (lt_s (lt_s (lt_s (lt_s (lt_s (lt_s (lt_s (lt_s lt_0 n5) n7) n9) n11) n13) n15) n17) n19) n21) n23) n25) (by decide) ?_
    refine f_aload_n (pc := 160) cx dX10_bucket_160 rfl rfl ?_
    refine f_iconst (pc := 161) cx dX10_bucket_161 kc_iconst_2 ?_
    refine u_X10_45 (pc := 162) cx hk_o0 dX10_bucket_162 ?_
    refine f_nvh (fun h26 => ?_)
    refine f_iconst (pc := 165) cx dX10_bucket_165 kc_iconst_0 ?_
    exact f_iret cx hr hlk rfl dX10_bucket_166
set_option maxRecDepth 4000 in
theorem c_X10_bucket (l : Launch) (G : GT) (h : Hp) (o0 : Nat) (x1 : Int32) (x2 : Int32) (hk_o0 : kd o0 = 9) : CtI l G yX10_bucket cX10_bucket 3 (some .int) 2 45 [.ref (gad G o0), .int x1, .int x2] h (p_X10_bucket h o0 x1 x2) := fun a ha => Ct.of (lv := [some (.ref (gad G o0)), some (.int x1), some (.int x2)]) (by decide) rfl (Nat.le_of_ble_eq_true rfl) rfl (fun p e s m args below meth c cx hr hlk => s_X10_bucket cx hr hlk h o0 x1 x2 hk_o0 a ha)
def b_X10_inBucket_24 (o0 : Nat) (x1 : Int32) (k24 : Hp × Int32 × Int32 → Option (Int32 × Hp)) (q : Hp × Int32 × Int32) : Option (Int32 × Hp) :=
  if (q.1 (o0 + 6) 1) ≤ q.2.2 then (some ((-2), q.1)) else (Option.bind (p_X10_frameOf q.1 o0 q.2.2 4) fun r1 => if r1.1 = x1 then (Option.bind (p_X10_frameOf r1.2 o0 q.2.2 6) fun r2 => if r2.1 = 0 then (if q.2.1 = 0 then (some (q.2.2, r2.2)) else (k24 (r2.2, q.2.1 + (-1), q.2.2 + 1))) else (k24 (r2.2, q.2.1, q.2.2 + 1))) else (k24 (r1.2, q.2.1, q.2.2 + 1)))
def p_X10_inBucket (h : Hp) (o0 : Nat) (x1 : Int32) (x2 : Int32) : Option (Int32 × Hp) :=
  nv (hp h o0 0 0) fun h3 => Option.bind (p_X10_isBucket h3 o0 x1) fun r4 => if r4.1 = 0 then (some ((-1), r4.2)) else (if 0 ≤ x2 then (lp (b_X10_inBucket_24 o0 x1) FU (r4.2, x2, 0)) else (some ((-1), r4.2)))
set_option maxRecDepth 4000 in
theorem s_X10_inBucket_24 {p : Program} {l : Launch} {e : Env} {s : State} {m : MethodId} {args : Array Value} {below : List Frame} {meth : Method} {c : Code} {G : GT} (cx : CX p s m args c cX10_inBucket 5 RX10 G) (hr : meth.sig.returnType = (some .int)) (hlk : meth.locks = false) (o0 : Nat) (x1 : Int32) (hk_o0 : kd o0 = 9) : ∀ (n : Nat) (q : Hp × Int32 × Int32), PF p l e (rmc 2 41) s m args below meth c 5 G 0 0 (QI below G args s) 24 [some (.ref (gad G o0)), some (.int x1), none, some (.int q.2.1), some (.int q.2.2)] [] q.1 (lp (b_X10_inBucket_24 o0 x1) n q) := by
  refine f_lp (lvf := fun (q : Hp × Int32 × Int32) => [some (.ref (gad G o0)), some (.int x1), none, some (.int q.2.1), some (.int q.2.2)]) (hf := fun (q : Hp × Int32 × Int32) => q.1) (fun k24 hk24 q => ?_)
  show PF p l e (rmc 2 41) s m args below meth c 5 G 0 0 (QI below G args s) 24 [some (.ref (gad G o0)), some (.int x1), none, some (.int q.2.1), some (.int q.2.2)] [] q.1 (b_X10_inBucket_24 o0 x1 k24 q)
  unfold b_X10_inBucket_24
  refine f_iload (pc := 24) cx dX10_inBucket_24 rfl ?_
  refine f_aload_n (pc := 26) cx dX10_inBucket_26 rfl rfl ?_
  refine g_X10_30 (pc := 27) cx hk_o0 dX10_inBucket_27 ?_
  refine f_iconst (pc := 30) cx dX10_inBucket_30 kc_iconst_1 ?_
  refine f_ialdk (pc := 31) (j := 1) (n := 3715) cx (kf_9_20 hk_o0) (by decide) (by decide) kl_1 dX10_inBucket_31 ?_
  refine f_icmp_ge (pc := 32) (tgt := 76) cx dX10_inBucket_32 (by decide) (fun _ => ?_) (fun _ => ?_)
  · refine f_bipush (pc := 76) cx dX10_inBucket_76 kc_bipush_m2 ?_
    exact f_iret cx hr hlk rfl dX10_inBucket_78
  · refine f_aload_n (pc := 35) cx dX10_inBucket_35 rfl rfl ?_
    refine f_iload (pc := 36) cx dX10_inBucket_36 rfl ?_
    refine f_iconst (pc := 38) cx dX10_inBucket_38 kc_iconst_4 ?_
    refine f_bind (fun r1 hr1 => ?_)
    refine k_X10_194 (pc := 39) cx (c_X10_frameOf l G _ o0 q.2.2 4 hk_o0 r1 hr1) hk_o0 ⟨by decide, by decide⟩ ⟨Nat.zero_le _, Nat.zero_le _⟩ (Nat.le_of_ble_eq_true rfl) dX10_inBucket_39 ?_
    refine f_iload_n (pc := 42) cx dX10_inBucket_42 rfl rfl ?_
    refine f_icmp_ne (pc := 43) (tgt := 70) cx dX10_inBucket_43 (by decide) (fun _ => ?_) (fun _ => ?_)
    · refine f_aload_n (pc := 46) cx dX10_inBucket_46 rfl rfl ?_
      refine f_iload (pc := 47) cx dX10_inBucket_47 rfl ?_
      refine f_bipush (pc := 49) cx dX10_inBucket_49 kc_bipush_6 ?_
      refine f_bind (fun r2 hr2 => ?_)
      refine k_X10_194 (pc := 51) cx (c_X10_frameOf l G _ o0 q.2.2 6 hk_o0 r2 hr2) hk_o0 ⟨by decide, by decide⟩ ⟨Nat.zero_le _, Nat.zero_le _⟩ (Nat.le_of_ble_eq_true rfl) dX10_inBucket_51 ?_
      refine f_if_eq (pc := 54) (tgt := 60) cx dX10_inBucket_54 (by decide) (fun _ => ?_) (fun _ => ?_)
      · refine f_iload_n (pc := 60) cx dX10_inBucket_60 rfl rfl ?_
        refine f_if_ne (pc := 61) (tgt := 67) cx dX10_inBucket_61 (by decide) (fun _ => ?_) (fun _ => ?_)
        · refine f_iload (pc := 64) cx dX10_inBucket_64 rfl ?_
          exact f_iret cx hr hlk rfl dX10_inBucket_66
        · refine f_iinc3 (pc := 67) cx dX10_inBucket_67 kc_iconst_m1 (by decide) rfl ?_
          refine f_iinc4 (pc := 70) cx dX10_inBucket_70 kc_iconst_1 (by decide) rfl ?_
          refine f_goto (pc := 73) (tgt := 24) cx dX10_inBucket_73 (by decide) ?_
          exact f_weak (LSb.s (LSb.s (LSb.n (LSb.s (LSb.s LSb.e))))) (hk24 (r2.2, q.2.1 + (-1), q.2.2 + 1))
      · refine f_goto (pc := 57) (tgt := 70) cx dX10_inBucket_57 (by decide) ?_
        refine f_iinc4 (pc := 70) cx dX10_inBucket_70 kc_iconst_1 (by decide) rfl ?_
        refine f_goto (pc := 73) (tgt := 24) cx dX10_inBucket_73 (by decide) ?_
        exact f_weak (LSb.s (LSb.s (LSb.n (LSb.s (LSb.s LSb.e))))) (hk24 (r2.2, q.2.1, q.2.2 + 1))
    · refine f_iinc4 (pc := 70) cx dX10_inBucket_70 kc_iconst_1 (by decide) rfl ?_
      refine f_goto (pc := 73) (tgt := 24) cx dX10_inBucket_73 (by decide) ?_
      exact f_weak (LSb.s (LSb.s (LSb.n (LSb.s (LSb.s LSb.e))))) (hk24 (r1.2, q.2.1, q.2.2 + 1))
set_option maxRecDepth 4000 in
theorem s_X10_inBucket {p : Program} {l : Launch} {e : Env} {s : State} {m : MethodId} {args : Array Value} {below : List Frame} {meth : Method} {c : Code} {G : GT} (cx : CX p s m args c cX10_inBucket 5 RX10 G) (hr : meth.sig.returnType = (some .int)) (hlk : meth.locks = false) (h : Hp) (o0 : Nat) (x1 : Int32) (x2 : Int32) (hk_o0 : kd o0 = 9) : PF p l e (rmc 2 41) s m args below meth c 5 G 0 0 (QI below G args s) 0 [some (.ref (gad G o0)), some (.int x1), some (.int x2), none, none] [] h (p_X10_inBucket h o0 x1 x2) := by
  unfold p_X10_inBucket
  refine f_aload_n (pc := 0) cx dX10_inBucket_0 rfl rfl ?_
  refine f_iconst (pc := 1) cx dX10_inBucket_1 kc_iconst_0 ?_
  refine u_X10_45 (pc := 2) cx hk_o0 dX10_inBucket_2 ?_
  refine f_nvh (fun h3 => ?_)
  refine f_aload_n (pc := 5) cx dX10_inBucket_5 rfl rfl ?_
  refine f_iload_n (pc := 6) cx dX10_inBucket_6 rfl rfl ?_
  refine f_bind (fun r4 hr4 => ?_)
  refine k_X10_304 (pc := 7) cx (c_X10_isBucket l G _ o0 x1 hk_o0 r4 hr4) hk_o0 ⟨by decide, by decide⟩ ⟨Nat.zero_le _, Nat.zero_le _⟩ (Nat.le_of_ble_eq_true rfl) dX10_inBucket_7 ?_
  refine f_if_eq (pc := 10) (tgt := 17) cx dX10_inBucket_10 (by decide) (fun _ => ?_) (fun _ => ?_)
  · refine f_iconst (pc := 17) cx dX10_inBucket_17 kc_iconst_m1 ?_
    exact f_iret cx hr hlk rfl dX10_inBucket_18
  · refine f_iload_n (pc := 13) cx dX10_inBucket_13 rfl rfl ?_
    refine f_if_ge (pc := 14) (tgt := 19) cx dX10_inBucket_14 (by decide) (fun _ => ?_) (fun _ => ?_)
    · refine f_iload_n (pc := 19) cx dX10_inBucket_19 rfl rfl ?_
      refine f_istore3 (pc := 20) cx dX10_inBucket_20 (by decide) rfl ?_
      refine f_iconst (pc := 21) cx dX10_inBucket_21 kc_iconst_0 ?_
      refine f_istore4 (pc := 22) cx dX10_inBucket_22 (by decide) rfl ?_
      exact f_weak (LSb.s (LSb.s (LSb.n (LSb.s (LSb.s LSb.e))))) (s_X10_inBucket_24 cx hr hlk o0 x1 hk_o0 FU (r4.2, x2, 0))
    · refine f_iconst (pc := 17) cx dX10_inBucket_17 kc_iconst_m1 ?_
      exact f_iret cx hr hlk rfl dX10_inBucket_18
set_option maxRecDepth 4000 in
theorem c_X10_inBucket (l : Launch) (G : GT) (h : Hp) (o0 : Nat) (x1 : Int32) (x2 : Int32) (hk_o0 : kd o0 = 9) : CtI l G yX10_inBucket cX10_inBucket 5 (some .int) 2 41 [.ref (gad G o0), .int x1, .int x2] h (p_X10_inBucket h o0 x1 x2) := fun a ha => Ct.of (lv := [some (.ref (gad G o0)), some (.int x1), some (.int x2), none, none]) (by decide) rfl (Nat.le_of_ble_eq_true rfl) rfl (fun p e s m args below meth c cx hr hlk => s_X10_inBucket cx hr hlk h o0 x1 x2 hk_o0 a ha)
def q_X10_least_57 (k20 : Hp × Int32 × Int32 → Option (Int32 × Hp)) (h : Hp) (o0 : Nat) (x1 : Int32) (x2 : Int32) (x3 : Int32) (y0 : Int32) : Option (Int32 × Hp) :=
  if y0 = 0 then (k20 (h, x2, x3 + 1)) else (Option.bind (p_X10_frameOf h o0 x3 4) fun r1 => if r1.1 = x1 then (Option.bind (p_X10_frameOf r1.2 o0 x3 8) fun r2 => Option.bind (p_X10_of r2.2 o0 x1 9) fun r3 => if r2.1 = r3.1 then (Option.bind (p_X10_frameOf r3.2 o0 x3 7) fun r4 => Option.bind (p_X10_interval r4.2 o0) fun r5 => if ((r3.2 (o0 + 6) 0) - r4.1) < r5.1 then (Option.bind (p_X10_frameOf r5.2 o0 x3 7) fun r6 => Option.bind (p_X10_frameOf r6.2 o0 x3 3) fun r7 => nv (r6.1 - r7.1) fun v8 => if x2 = (-2) then (k20 (r7.2, v8, x3 + 1)) else (if x2 ≤ v8 then (k20 (r7.2, x2, x3 + 1)) else (k20 (r7.2, v8, x3 + 1)))) else (k20 (r5.2, x2, x3 + 1))) else (k20 (r3.2, x2, x3 + 1))) else (k20 (r1.2, x2, x3 + 1)))
def b_X10_least_20 (o0 : Nat) (x1 : Int32) (k20 : Hp × Int32 × Int32 → Option (Int32 × Hp)) (q : Hp × Int32 × Int32) : Option (Int32 × Hp) :=
  if (q.1 (o0 + 6) 1) ≤ q.2.2 then (some (q.2.1, q.1)) else (Option.bind (p_X10_frameOf q.1 o0 q.2.2 6) fun r9 => if r9.1 = 1 then (q_X10_least_57 k20 r9.2 o0 x1 q.2.1 q.2.2 1) else (Option.bind (p_X10_frameOf r9.2 o0 q.2.2 6) fun r10 => if r10.1 = 2 then (q_X10_least_57 k20 r10.2 o0 x1 q.2.1 q.2.2 1) else (q_X10_least_57 k20 r10.2 o0 x1 q.2.1 q.2.2 0)))
def p_X10_least (h : Hp) (o0 : Nat) (x1 : Int32) : Option (Int32 × Hp) :=
  nv (hp h o0 0 0) fun h11 => Option.bind (p_X10_isBucket h11 o0 x1) fun r12 => if r12.1 = 0 then (some ((-1), r12.2)) else (lp (b_X10_least_20 o0 x1) FU (r12.2, (-2), 0))
set_option maxRecDepth 4000 in
theorem s_X10_least_57 {p : Program} {l : Launch} {e : Env} {s : State} {m : MethodId} {args : Array Value} {below : List Frame} {meth : Method} {c : Code} {G : GT} (cx : CX p s m args c cX10_least 6 RX10 G) (hr : meth.sig.returnType = (some .int)) (hlk : meth.locks = false) (h : Hp) (o0 : Nat) (x1 : Int32) (x2 : Int32) (x3 : Int32) (y0 : Int32) (hk_o0 : kd o0 = 9) (k20 : Hp × Int32 × Int32 → Option (Int32 × Hp)) (hk20 : ∀ (q : Hp × Int32 × Int32), PF p l e (rmc 2 41) s m args below meth c 6 G 0 0 (QI below G args s) 20 [some (.ref (gad G o0)), some (.int x1), some (.int q.2.1), some (.int q.2.2), none, none] [] q.1 (k20 q)) : PF p l e (rmc 2 41) s m args below meth c 6 G 0 0 (QI below G args s) 57 [some (.ref (gad G o0)), some (.int x1), some (.int x2), some (.int x3), none, none] [.int y0] h (q_X10_least_57 k20 h o0 x1 x2 x3 y0) := by
  unfold q_X10_least_57
  refine f_istore4 (pc := 57) cx dX10_least_57 (by decide) rfl ?_
  refine f_iload (pc := 59) cx dX10_least_59 rfl ?_
  refine f_if_eq (pc := 61) (tgt := 150) cx dX10_least_61 (by decide) (fun _ => ?_) (fun _ => ?_)
  · refine f_iinc3 (pc := 150) cx dX10_least_150 kc_iconst_1 (by decide) rfl ?_
    refine f_goto (pc := 153) (tgt := 20) cx dX10_least_153 (by decide) ?_
    exact f_weak (LSb.s (LSb.s (LSb.s (LSb.s (LSb.n (LSb.n LSb.e)))))) (hk20 (h, x2, x3 + 1))
  · refine f_aload_n (pc := 64) cx dX10_least_64 rfl rfl ?_
    refine f_iload_n (pc := 65) cx dX10_least_65 rfl rfl ?_
    refine f_iconst (pc := 66) cx dX10_least_66 kc_iconst_4 ?_
    refine f_bind (fun r1 hr1 => ?_)
    refine k_X10_194 (pc := 67) cx (c_X10_frameOf l G _ o0 x3 4 hk_o0 r1 hr1) hk_o0 ⟨by decide, by decide⟩ ⟨Nat.zero_le _, Nat.zero_le _⟩ (Nat.le_of_ble_eq_true rfl) dX10_least_67 ?_
    refine f_iload_n (pc := 70) cx dX10_least_70 rfl rfl ?_
    refine f_icmp_ne (pc := 71) (tgt := 150) cx dX10_least_71 (by decide) (fun _ => ?_) (fun _ => ?_)
    · refine f_aload_n (pc := 74) cx dX10_least_74 rfl rfl ?_
      refine f_iload_n (pc := 75) cx dX10_least_75 rfl rfl ?_
      refine f_bipush (pc := 76) cx dX10_least_76 kc_bipush_8 ?_
      refine f_bind (fun r2 hr2 => ?_)
      refine k_X10_194 (pc := 78) cx (c_X10_frameOf l G _ o0 x3 8 hk_o0 r2 hr2) hk_o0 ⟨by decide, by decide⟩ ⟨Nat.zero_le _, Nat.zero_le _⟩ (Nat.le_of_ble_eq_true rfl) dX10_least_78 ?_
      refine f_aload_n (pc := 81) cx dX10_least_81 rfl rfl ?_
      refine f_iload_n (pc := 82) cx dX10_least_82 rfl rfl ?_
      refine f_bipush (pc := 83) cx dX10_least_83 kc_bipush_9 ?_
      refine f_bind (fun r3 hr3 => ?_)
      refine k_X10_184 (pc := 85) cx (c_X10_of l G _ o0 x1 9 hk_o0 r3 hr3) hk_o0 ⟨by decide, by decide⟩ ⟨Nat.zero_le _, Nat.zero_le _⟩ (Nat.le_of_ble_eq_true rfl) dX10_least_85 ?_
      refine f_icmp_ne (pc := 88) (tgt := 150) cx dX10_least_88 (by decide) (fun _ => ?_) (fun _ => ?_)
      · refine f_aload_n (pc := 91) cx dX10_least_91 rfl rfl ?_
        refine g_X10_30 (pc := 92) cx hk_o0 dX10_least_92 ?_
        refine f_iconst (pc := 95) cx dX10_least_95 kc_iconst_0 ?_
        refine f_ialdk (pc := 96) (j := 0) (n := 3715) cx (kf_9_20 hk_o0) (by decide) (by decide) kl_0 dX10_least_96 ?_
        refine f_aload_n (pc := 97) cx dX10_least_97 rfl rfl ?_
        refine f_iload_n (pc := 98) cx dX10_least_98 rfl rfl ?_
        refine f_bipush (pc := 99) cx dX10_least_99 kc_bipush_7 ?_
        refine f_bind (fun r4 hr4 => ?_)
        refine k_X10_194 (pc := 101) cx (c_X10_frameOf l G _ o0 x3 7 hk_o0 r4 hr4) hk_o0 ⟨by decide, by decide⟩ ⟨Nat.zero_le _, Nat.zero_le _⟩ (Nat.le_of_ble_eq_true rfl) dX10_least_101 ?_
        refine f_isub (pc := 104) cx dX10_least_104 ?_
        refine f_aload_n (pc := 105) cx dX10_least_105 rfl rfl ?_
        refine f_bind (fun r5 hr5 => ?_)
        refine k_X10_225 (pc := 106) cx (c_X10_interval l G _ o0 hk_o0 r5 hr5) hk_o0 ⟨by decide, by decide⟩ ⟨Nat.zero_le _, Nat.zero_le _⟩ (Nat.le_of_ble_eq_true rfl) dX10_least_106 ?_
        refine f_icmp_lt (pc := 109) (tgt := 115) cx dX10_least_109 (by decide) (fun _ => ?_) (fun _ => ?_)
        · refine f_aload_n (pc := 115) cx dX10_least_115 rfl rfl ?_
          refine f_iload_n (pc := 116) cx dX10_least_116 rfl rfl ?_
          refine f_bipush (pc := 117) cx dX10_least_117 kc_bipush_7 ?_
          refine f_bind (fun r6 hr6 => ?_)
          refine k_X10_194 (pc := 119) cx (c_X10_frameOf l G _ o0 x3 7 hk_o0 r6 hr6) hk_o0 ⟨by decide, by decide⟩ ⟨Nat.zero_le _, Nat.zero_le _⟩ (Nat.le_of_ble_eq_true rfl) dX10_least_119 ?_
          refine f_aload_n (pc := 122) cx dX10_least_122 rfl rfl ?_
          refine f_iload_n (pc := 123) cx dX10_least_123 rfl rfl ?_
          refine f_iconst (pc := 124) cx dX10_least_124 kc_iconst_3 ?_
          refine f_bind (fun r7 hr7 => ?_)
          refine k_X10_194 (pc := 125) cx (c_X10_frameOf l G _ o0 x3 3 hk_o0 r7 hr7) hk_o0 ⟨by decide, by decide⟩ ⟨Nat.zero_le _, Nat.zero_le _⟩ (Nat.le_of_ble_eq_true rfl) dX10_least_125 ?_
          refine f_isub (pc := 128) cx dX10_least_128 ?_
          refine f_nvi (fun v8 => ?_)
          refine f_istore5 (pc := 129) cx dX10_least_129 (by decide) rfl ?_
          refine f_iload_n (pc := 131) cx dX10_least_131 rfl rfl ?_
          refine f_bipush (pc := 132) cx dX10_least_132 kc_bipush_m2 ?_
          refine f_icmp_eq (pc := 134) (tgt := 143) cx dX10_least_134 (by decide) (fun _ => ?_) (fun _ => ?_)
          · refine f_iload (pc := 143) cx dX10_least_143 rfl ?_
            refine f_goto (pc := 145) (tgt := 149) cx dX10_least_145 (by decide) ?_
            refine f_istore2 (pc := 149) cx dX10_least_149 (by decide) rfl ?_
            refine f_iinc3 (pc := 150) cx dX10_least_150 kc_iconst_1 (by decide) rfl ?_
            refine f_goto (pc := 153) (tgt := 20) cx dX10_least_153 (by decide) ?_
            exact f_weak (LSb.s (LSb.s (LSb.s (LSb.s (LSb.n (LSb.n LSb.e)))))) (hk20 (r7.2, v8, x3 + 1))
          · refine f_iload (pc := 137) cx dX10_least_137 rfl ?_
            refine f_iload_n (pc := 139) cx dX10_least_139 rfl rfl ?_
            refine f_icmp_ge (pc := 140) (tgt := 148) cx dX10_least_140 (by decide) (fun _ => ?_) (fun _ => ?_)
            · refine f_iload_n (pc := 148) cx dX10_least_148 rfl rfl ?_
              refine f_istore2 (pc := 149) cx dX10_least_149 (by decide) rfl ?_
              refine f_iinc3 (pc := 150) cx dX10_least_150 kc_iconst_1 (by decide) rfl ?_
              refine f_goto (pc := 153) (tgt := 20) cx dX10_least_153 (by decide) ?_
              exact f_weak (LSb.s (LSb.s (LSb.s (LSb.s (LSb.n (LSb.n LSb.e)))))) (hk20 (r7.2, x2, x3 + 1))
            · refine f_iload (pc := 143) cx dX10_least_143 rfl ?_
              refine f_goto (pc := 145) (tgt := 149) cx dX10_least_145 (by decide) ?_
              refine f_istore2 (pc := 149) cx dX10_least_149 (by decide) rfl ?_
              refine f_iinc3 (pc := 150) cx dX10_least_150 kc_iconst_1 (by decide) rfl ?_
              refine f_goto (pc := 153) (tgt := 20) cx dX10_least_153 (by decide) ?_
              exact f_weak (LSb.s (LSb.s (LSb.s (LSb.s (LSb.n (LSb.n LSb.e)))))) (hk20 (r7.2, v8, x3 + 1))
        · refine f_goto (pc := 112) (tgt := 150) cx dX10_least_112 (by decide) ?_
          refine f_iinc3 (pc := 150) cx dX10_least_150 kc_iconst_1 (by decide) rfl ?_
          refine f_goto (pc := 153) (tgt := 20) cx dX10_least_153 (by decide) ?_
          exact f_weak (LSb.s (LSb.s (LSb.s (LSb.s (LSb.n (LSb.n LSb.e)))))) (hk20 (r5.2, x2, x3 + 1))
      · refine f_iinc3 (pc := 150) cx dX10_least_150 kc_iconst_1 (by decide) rfl ?_
        refine f_goto (pc := 153) (tgt := 20) cx dX10_least_153 (by decide) ?_
        exact f_weak (LSb.s (LSb.s (LSb.s (LSb.s (LSb.n (LSb.n LSb.e)))))) (hk20 (r3.2, x2, x3 + 1))
    · refine f_iinc3 (pc := 150) cx dX10_least_150 kc_iconst_1 (by decide) rfl ?_
      refine f_goto (pc := 153) (tgt := 20) cx dX10_least_153 (by decide) ?_
      exact f_weak (LSb.s (LSb.s (LSb.s (LSb.s (LSb.n (LSb.n LSb.e)))))) (hk20 (r1.2, x2, x3 + 1))
set_option maxRecDepth 4000 in
theorem s_X10_least_20 {p : Program} {l : Launch} {e : Env} {s : State} {m : MethodId} {args : Array Value} {below : List Frame} {meth : Method} {c : Code} {G : GT} (cx : CX p s m args c cX10_least 6 RX10 G) (hr : meth.sig.returnType = (some .int)) (hlk : meth.locks = false) (o0 : Nat) (x1 : Int32) (hk_o0 : kd o0 = 9) : ∀ (n : Nat) (q : Hp × Int32 × Int32), PF p l e (rmc 2 41) s m args below meth c 6 G 0 0 (QI below G args s) 20 [some (.ref (gad G o0)), some (.int x1), some (.int q.2.1), some (.int q.2.2), none, none] [] q.1 (lp (b_X10_least_20 o0 x1) n q) := by
  refine f_lp (lvf := fun (q : Hp × Int32 × Int32) => [some (.ref (gad G o0)), some (.int x1), some (.int q.2.1), some (.int q.2.2), none, none]) (hf := fun (q : Hp × Int32 × Int32) => q.1) (fun k20 hk20 q => ?_)
  show PF p l e (rmc 2 41) s m args below meth c 6 G 0 0 (QI below G args s) 20 [some (.ref (gad G o0)), some (.int x1), some (.int q.2.1), some (.int q.2.2), none, none] [] q.1 (b_X10_least_20 o0 x1 k20 q)
  unfold b_X10_least_20
  refine f_iload_n (pc := 20) cx dX10_least_20 rfl rfl ?_
  refine f_aload_n (pc := 21) cx dX10_least_21 rfl rfl ?_
  refine g_X10_30 (pc := 22) cx hk_o0 dX10_least_22 ?_
  refine f_iconst (pc := 25) cx dX10_least_25 kc_iconst_1 ?_
  refine f_ialdk (pc := 26) (j := 1) (n := 3715) cx (kf_9_20 hk_o0) (by decide) (by decide) kl_1 dX10_least_26 ?_
  refine f_icmp_ge (pc := 27) (tgt := 156) cx dX10_least_27 (by decide) (fun _ => ?_) (fun _ => ?_)
  · refine f_iload_n (pc := 156) cx dX10_least_156 rfl rfl ?_
    exact f_iret cx hr hlk rfl dX10_least_157
  · refine f_aload_n (pc := 30) cx dX10_least_30 rfl rfl ?_
    refine f_iload_n (pc := 31) cx dX10_least_31 rfl rfl ?_
    refine f_bipush (pc := 32) cx dX10_least_32 kc_bipush_6 ?_
    refine f_bind (fun r9 hr9 => ?_)
    refine k_X10_194 (pc := 34) cx (c_X10_frameOf l G _ o0 q.2.2 6 hk_o0 r9 hr9) hk_o0 ⟨by decide, by decide⟩ ⟨Nat.zero_le _, Nat.zero_le _⟩ (Nat.le_of_ble_eq_true rfl) dX10_least_34 ?_
    refine f_iconst (pc := 37) cx dX10_least_37 kc_iconst_1 ?_
    refine f_icmp_eq (pc := 38) (tgt := 52) cx dX10_least_38 (by decide) (fun _ => ?_) (fun _ => ?_)
    · refine f_iconst (pc := 52) cx dX10_least_52 kc_iconst_1 ?_
      refine f_goto (pc := 53) (tgt := 57) cx dX10_least_53 (by decide) ?_
      exact f_weak (LSb.s (LSb.s (LSb.s (LSb.s (LSb.n (LSb.n LSb.e)))))) (s_X10_least_57 cx hr hlk _ o0 x1 q.2.1 q.2.2 1 hk_o0 k20 hk20)
    · refine f_aload_n (pc := 41) cx dX10_least_41 rfl rfl ?_
      refine f_iload_n (pc := 42) cx dX10_least_42 rfl rfl ?_
      refine f_bipush (pc := 43) cx dX10_least_43 kc_bipush_6 ?_
      refine f_bind (fun r10 hr10 => ?_)
      refine k_X10_194 (pc := 45) cx (c_X10_frameOf l G _ o0 q.2.2 6 hk_o0 r10 hr10) hk_o0 ⟨by decide, by decide⟩ ⟨Nat.zero_le _, Nat.zero_le _⟩ (Nat.le_of_ble_eq_true rfl) dX10_least_45 ?_
      refine f_iconst (pc := 48) cx dX10_least_48 kc_iconst_2 ?_
      refine f_icmp_ne (pc := 49) (tgt := 56) cx dX10_least_49 (by decide) (fun _ => ?_) (fun _ => ?_)
      · refine f_iconst (pc := 52) cx dX10_least_52 kc_iconst_1 ?_
        refine f_goto (pc := 53) (tgt := 57) cx dX10_least_53 (by decide) ?_
        exact f_weak (LSb.s (LSb.s (LSb.s (LSb.s (LSb.n (LSb.n LSb.e)))))) (s_X10_least_57 cx hr hlk _ o0 x1 q.2.1 q.2.2 1 hk_o0 k20 hk20)
      · refine f_iconst (pc := 56) cx dX10_least_56 kc_iconst_0 ?_
        exact f_weak (LSb.s (LSb.s (LSb.s (LSb.s (LSb.n (LSb.n LSb.e)))))) (s_X10_least_57 cx hr hlk _ o0 x1 q.2.1 q.2.2 0 hk_o0 k20 hk20)
set_option maxRecDepth 4000 in
theorem s_X10_least {p : Program} {l : Launch} {e : Env} {s : State} {m : MethodId} {args : Array Value} {below : List Frame} {meth : Method} {c : Code} {G : GT} (cx : CX p s m args c cX10_least 6 RX10 G) (hr : meth.sig.returnType = (some .int)) (hlk : meth.locks = false) (h : Hp) (o0 : Nat) (x1 : Int32) (hk_o0 : kd o0 = 9) : PF p l e (rmc 2 41) s m args below meth c 6 G 0 0 (QI below G args s) 0 [some (.ref (gad G o0)), some (.int x1), none, none, none, none] [] h (p_X10_least h o0 x1) := by
  unfold p_X10_least
  refine f_aload_n (pc := 0) cx dX10_least_0 rfl rfl ?_
  refine f_iconst (pc := 1) cx dX10_least_1 kc_iconst_0 ?_
  refine u_X10_45 (pc := 2) cx hk_o0 dX10_least_2 ?_
  refine f_nvh (fun h11 => ?_)
  refine f_aload_n (pc := 5) cx dX10_least_5 rfl rfl ?_
  refine f_iload_n (pc := 6) cx dX10_least_6 rfl rfl ?_
  refine f_bind (fun r12 hr12 => ?_)
  refine k_X10_304 (pc := 7) cx (c_X10_isBucket l G _ o0 x1 hk_o0 r12 hr12) hk_o0 ⟨by decide, by decide⟩ ⟨Nat.zero_le _, Nat.zero_le _⟩ (Nat.le_of_ble_eq_true rfl) dX10_least_7 ?_
  refine f_if_ne (pc := 10) (tgt := 15) cx dX10_least_10 (by decide) (fun _ => ?_) (fun _ => ?_)
  · refine f_iconst (pc := 13) cx dX10_least_13 kc_iconst_m1 ?_
    exact f_iret cx hr hlk rfl dX10_least_14
  · refine f_bipush (pc := 15) cx dX10_least_15 kc_bipush_m2 ?_
    refine f_istore2 (pc := 17) cx dX10_least_17 (by decide) rfl ?_
    refine f_iconst (pc := 18) cx dX10_least_18 kc_iconst_0 ?_
    refine f_istore3 (pc := 19) cx dX10_least_19 (by decide) rfl ?_
    exact f_weak (LSb.s (LSb.s (LSb.s (LSb.s (LSb.n (LSb.n LSb.e)))))) (s_X10_least_20 cx hr hlk o0 x1 hk_o0 FU (r12.2, (-2), 0))
set_option maxRecDepth 4000 in
theorem c_X10_least (l : Launch) (G : GT) (h : Hp) (o0 : Nat) (x1 : Int32) (hk_o0 : kd o0 = 9) : CtI l G yX10_least cX10_least 6 (some .int) 2 41 [.ref (gad G o0), .int x1] h (p_X10_least h o0 x1) := fun a ha => Ct.of (lv := [some (.ref (gad G o0)), some (.int x1), none, none, none, none]) (by decide) rfl (Nat.le_of_ble_eq_true rfl) rfl (fun p e s m args below meth c cx hr hlk => s_X10_least cx hr hlk h o0 x1 hk_o0 a ha)
def p_X10_rootBy (h : Hp) (o0 : Nat) (x1 : Int32) : Option (Int32 × Hp) :=
  nv (hp h o0 0 0) fun h1 => Option.bind (p_X10_isCount h1 x1) fun r2 => if r2.1 = 0 then (some ((-1), r2.2)) else (Option.bind (p_X10_rootOf r2.2 x1) fun r3 => some (r3.1, r3.2))
set_option maxRecDepth 4000 in
theorem s_X10_rootBy {p : Program} {l : Launch} {e : Env} {s : State} {m : MethodId} {args : Array Value} {below : List Frame} {meth : Method} {c : Code} {G : GT} (cx : CX p s m args c cX10_rootBy 2 RX10 G) (hr : meth.sig.returnType = (some .int)) (hlk : meth.locks = false) (h : Hp) (o0 : Nat) (x1 : Int32) (hk_o0 : kd o0 = 9) : PF p l e (rmc 2 49) s m args below meth c 2 G 0 0 (QI below G args s) 0 [some (.ref (gad G o0)), some (.int x1)] [] h (p_X10_rootBy h o0 x1) := by
  unfold p_X10_rootBy
  refine f_aload_n (pc := 0) cx dX10_rootBy_0 rfl rfl ?_
  refine f_iconst (pc := 1) cx dX10_rootBy_1 kc_iconst_0 ?_
  refine u_X10_45 (pc := 2) cx hk_o0 dX10_rootBy_2 ?_
  refine f_nvh (fun h1 => ?_)
  refine f_iload_n (pc := 5) cx dX10_rootBy_5 rfl rfl ?_
  refine f_bind (fun r2 hr2 => ?_)
  refine k_X10_312 (pc := 6) cx (c_X10_isCount l G _ x1 r2 hr2) ⟨by decide, by decide⟩ ⟨Nat.zero_le _, Nat.zero_le _⟩ (Nat.le_of_ble_eq_true rfl) dX10_rootBy_6 ?_
  refine f_if_eq (pc := 9) (tgt := 19) cx dX10_rootBy_9 (by decide) (fun _ => ?_) (fun _ => ?_)
  · refine f_iconst (pc := 19) cx dX10_rootBy_19 kc_iconst_m1 ?_
    exact f_iret cx hr hlk rfl dX10_rootBy_20
  · refine f_iload_n (pc := 12) cx dX10_rootBy_12 rfl rfl ?_
    refine f_bind (fun r3 hr3 => ?_)
    refine k_X10_315 (pc := 13) cx (c_X10_rootOf l G _ x1 r3 hr3) ⟨by decide, by decide⟩ ⟨Nat.zero_le _, Nat.zero_le _⟩ (Nat.le_of_ble_eq_true rfl) dX10_rootBy_13 ?_
    refine f_goto (pc := 16) (tgt := 20) cx dX10_rootBy_16 (by decide) ?_
    exact f_iret cx hr hlk rfl dX10_rootBy_20
set_option maxRecDepth 4000 in
theorem c_X10_rootBy (l : Launch) (G : GT) (h : Hp) (o0 : Nat) (x1 : Int32) (hk_o0 : kd o0 = 9) : CtI l G yX10_rootBy cX10_rootBy 2 (some .int) 2 49 [.ref (gad G o0), .int x1] h (p_X10_rootBy h o0 x1) := fun a ha => Ct.of (lv := [some (.ref (gad G o0)), some (.int x1)]) (by decide) rfl (Nat.le_of_ble_eq_true rfl) rfl (fun p e s m args below meth c cx hr hlk => s_X10_rootBy cx hr hlk h o0 x1 hk_o0 a ha)
def p_X10_flow (h : Hp) (o0 : Nat) (x1 : Int32) (x2 : Int32) : Option (Int32 × Hp) :=
  nv (hp h o0 0 0) fun h1 => Option.bind (p_X10_isKey h1 x1) fun r2 => if r2.1 = 0 then (some ((-1), r2.2)) else (if x2 < 0 then (some ((-1), r2.2)) else (if 3 < x2 then (some ((-1), r2.2)) else (Option.bind (p_X10_flowOf r2.2 o0 x1 x2) fun r3 => some (r3.1, r3.2))))
set_option maxRecDepth 4000 in
theorem s_X10_flow {p : Program} {l : Launch} {e : Env} {s : State} {m : MethodId} {args : Array Value} {below : List Frame} {meth : Method} {c : Code} {G : GT} (cx : CX p s m args c cX10_flow 3 RX10 G) (hr : meth.sig.returnType = (some .int)) (hlk : meth.locks = false) (h : Hp) (o0 : Nat) (x1 : Int32) (x2 : Int32) (hk_o0 : kd o0 = 9) : PF p l e (rmc 2 48) s m args below meth c 3 G 0 0 (QI below G args s) 0 [some (.ref (gad G o0)), some (.int x1), some (.int x2)] [] h (p_X10_flow h o0 x1 x2) := by
  unfold p_X10_flow
  refine f_aload_n (pc := 0) cx dX10_flow_0 rfl rfl ?_
  refine f_iconst (pc := 1) cx dX10_flow_1 kc_iconst_0 ?_
  refine u_X10_45 (pc := 2) cx hk_o0 dX10_flow_2 ?_
  refine f_nvh (fun h1 => ?_)
  refine f_iload_n (pc := 5) cx dX10_flow_5 rfl rfl ?_
  refine f_bind (fun r2 hr2 => ?_)
  refine k_X10_301 (pc := 6) cx (c_X10_isKey l G _ x1 r2 hr2) ⟨by decide, by decide⟩ ⟨Nat.zero_le _, Nat.zero_le _⟩ (Nat.le_of_ble_eq_true rfl) dX10_flow_6 ?_
  refine f_if_eq (pc := 9) (tgt := 30) cx dX10_flow_9 (by decide) (fun _ => ?_) (fun _ => ?_)
  · refine f_iconst (pc := 30) cx dX10_flow_30 kc_iconst_m1 ?_
    exact f_iret cx hr hlk rfl dX10_flow_31
  · refine f_iload_n (pc := 12) cx dX10_flow_12 rfl rfl ?_
    refine f_if_lt (pc := 13) (tgt := 30) cx dX10_flow_13 (by decide) (fun _ => ?_) (fun _ => ?_)
    · refine f_iconst (pc := 30) cx dX10_flow_30 kc_iconst_m1 ?_
      exact f_iret cx hr hlk rfl dX10_flow_31
    · refine f_iload_n (pc := 16) cx dX10_flow_16 rfl rfl ?_
      refine f_iconst (pc := 17) cx dX10_flow_17 kc_iconst_3 ?_
      refine f_icmp_gt (pc := 18) (tgt := 30) cx dX10_flow_18 (by decide) (fun _ => ?_) (fun _ => ?_)
      · refine f_iconst (pc := 30) cx dX10_flow_30 kc_iconst_m1 ?_
        exact f_iret cx hr hlk rfl dX10_flow_31
      · refine f_aload_n (pc := 21) cx dX10_flow_21 rfl rfl ?_
        refine f_iload_n (pc := 22) cx dX10_flow_22 rfl rfl ?_
        refine f_iload_n (pc := 23) cx dX10_flow_23 rfl rfl ?_
        refine f_bind (fun r3 hr3 => ?_)
        refine k_X10_321 (pc := 24) cx (c_X10_flowOf l G _ o0 x1 x2 hk_o0 r3 hr3) hk_o0 ⟨by decide, by decide⟩ ⟨Nat.zero_le _, Nat.zero_le _⟩ (Nat.le_of_ble_eq_true rfl) dX10_flow_24 ?_
        refine f_goto (pc := 27) (tgt := 31) cx dX10_flow_27 (by decide) ?_
        exact f_iret cx hr hlk rfl dX10_flow_31
set_option maxRecDepth 4000 in
theorem c_X10_flow (l : Launch) (G : GT) (h : Hp) (o0 : Nat) (x1 : Int32) (x2 : Int32) (hk_o0 : kd o0 = 9) : CtI l G yX10_flow cX10_flow 3 (some .int) 2 48 [.ref (gad G o0), .int x1, .int x2] h (p_X10_flow h o0 x1 x2) := fun a ha => Ct.of (lv := [some (.ref (gad G o0)), some (.int x1), some (.int x2)]) (by decide) rfl (Nat.le_of_ble_eq_true rfl) rfl (fun p e s m args below meth c cx hr hlk => s_X10_flow cx hr hlk h o0 x1 x2 hk_o0 a ha)
def q_X10_uneven_54 (k13 : Hp × Int32 × Int32 × Int32 → Option (Int32 × Hp)) (h : Hp) (o0 : Nat) (x2 : Int32) (x3 : Int32) (x4 : Int32) (y0 : Int32) : Option (Int32 × Hp) :=
  if x4 ≤ x2 then (k13 (h, y0, x2, x3 + 1)) else (k13 (h, y0, x4, x3 + 1))
def b_X10_uneven_13 (o0 : Nat) (k13 : Hp × Int32 × Int32 × Int32 → Option (Int32 × Hp)) (q : Hp × Int32 × Int32 × Int32) : Option (Int32 × Hp) :=
  if (q.1 (o0 + 6) 1) ≤ q.2.2.2 then (if q.2.1 = (-2) then (some ((-2), q.1)) else (some (q.2.2.1 - q.2.1, q.1))) else (Option.bind (p_X10_frameOf q.1 o0 q.2.2.2 0) fun r1 => Option.bind (p_X10_flowOf r1.2 o0 r1.1 0) fun r2 => if q.2.1 = (-2) then (q_X10_uneven_54 k13 r2.2 o0 q.2.2.1 q.2.2.2 r2.1 r2.1) else (if q.2.1 ≤ r2.1 then (q_X10_uneven_54 k13 r2.2 o0 q.2.2.1 q.2.2.2 r2.1 q.2.1) else (q_X10_uneven_54 k13 r2.2 o0 q.2.2.1 q.2.2.2 r2.1 r2.1)))
def p_X10_uneven (h : Hp) (o0 : Nat) : Option (Int32 × Hp) :=
  nv (hp h o0 0 0) fun h3 => lp (b_X10_uneven_13 o0) FU (h3, (-2), (-2), 0)
set_option maxRecDepth 4000 in
theorem s_X10_uneven_54 {p : Program} {l : Launch} {e : Env} {s : State} {m : MethodId} {args : Array Value} {below : List Frame} {meth : Method} {c : Code} {G : GT} (cx : CX p s m args c cX10_uneven 5 RX10 G) (hr : meth.sig.returnType = (some .int)) (hlk : meth.locks = false) (h : Hp) (o0 : Nat) (x2 : Int32) (x3 : Int32) (x4 : Int32) (y0 : Int32) (hk_o0 : kd o0 = 9) (k13 : Hp × Int32 × Int32 × Int32 → Option (Int32 × Hp)) (hk13 : ∀ (q : Hp × Int32 × Int32 × Int32), PF p l e (rmc 2 48) s m args below meth c 5 G 0 0 (QI below G args s) 13 [some (.ref (gad G o0)), some (.int q.2.1), some (.int q.2.2.1), some (.int q.2.2.2), none] [] q.1 (k13 q)) : PF p l e (rmc 2 48) s m args below meth c 5 G 0 0 (QI below G args s) 54 [some (.ref (gad G o0)), none, some (.int x2), some (.int x3), some (.int x4)] [.int y0] h (q_X10_uneven_54 k13 h o0 x2 x3 x4 y0) := by
  unfold q_X10_uneven_54
  refine f_istore1 (pc := 54) cx dX10_uneven_54 (by decide) rfl ?_
  refine f_iload (pc := 55) cx dX10_uneven_55 rfl ?_
  refine f_iload_n (pc := 57) cx dX10_uneven_57 rfl rfl ?_
  refine f_icmp_le (pc := 58) (tgt := 66) cx dX10_uneven_58 (by decide) (fun _ => ?_) (fun _ => ?_)
  · refine f_iload_n (pc := 66) cx dX10_uneven_66 rfl rfl ?_
    refine f_istore2 (pc := 67) cx dX10_uneven_67 (by decide) rfl ?_
    refine f_iinc3 (pc := 68) cx dX10_uneven_68 kc_iconst_1 (by decide) rfl ?_
    refine f_goto (pc := 71) (tgt := 13) cx dX10_uneven_71 (by decide) ?_
    exact f_weak (LSb.s (LSb.s (LSb.s (LSb.s (LSb.n LSb.e))))) (hk13 (h, y0, x2, x3 + 1))
  · refine f_iload (pc := 61) cx dX10_uneven_61 rfl ?_
    refine f_goto (pc := 63) (tgt := 67) cx dX10_uneven_63 (by decide) ?_
    refine f_istore2 (pc := 67) cx dX10_uneven_67 (by decide) rfl ?_
    refine f_iinc3 (pc := 68) cx dX10_uneven_68 kc_iconst_1 (by decide) rfl ?_
    refine f_goto (pc := 71) (tgt := 13) cx dX10_uneven_71 (by decide) ?_
    exact f_weak (LSb.s (LSb.s (LSb.s (LSb.s (LSb.n LSb.e))))) (hk13 (h, y0, x4, x3 + 1))
set_option maxRecDepth 4000 in
theorem s_X10_uneven_13 {p : Program} {l : Launch} {e : Env} {s : State} {m : MethodId} {args : Array Value} {below : List Frame} {meth : Method} {c : Code} {G : GT} (cx : CX p s m args c cX10_uneven 5 RX10 G) (hr : meth.sig.returnType = (some .int)) (hlk : meth.locks = false) (o0 : Nat) (hk_o0 : kd o0 = 9) : ∀ (n : Nat) (q : Hp × Int32 × Int32 × Int32), PF p l e (rmc 2 48) s m args below meth c 5 G 0 0 (QI below G args s) 13 [some (.ref (gad G o0)), some (.int q.2.1), some (.int q.2.2.1), some (.int q.2.2.2), none] [] q.1 (lp (b_X10_uneven_13 o0) n q) := by
  refine f_lp (lvf := fun (q : Hp × Int32 × Int32 × Int32) => [some (.ref (gad G o0)), some (.int q.2.1), some (.int q.2.2.1), some (.int q.2.2.2), none]) (hf := fun (q : Hp × Int32 × Int32 × Int32) => q.1) (fun k13 hk13 q => ?_)
  show PF p l e (rmc 2 48) s m args below meth c 5 G 0 0 (QI below G args s) 13 [some (.ref (gad G o0)), some (.int q.2.1), some (.int q.2.2.1), some (.int q.2.2.2), none] [] q.1 (b_X10_uneven_13 o0 k13 q)
  unfold b_X10_uneven_13
  refine f_iload_n (pc := 13) cx dX10_uneven_13 rfl rfl ?_
  refine f_aload_n (pc := 14) cx dX10_uneven_14 rfl rfl ?_
  refine g_X10_30 (pc := 15) cx hk_o0 dX10_uneven_15 ?_
  refine f_iconst (pc := 18) cx dX10_uneven_18 kc_iconst_1 ?_
  refine f_ialdk (pc := 19) (j := 1) (n := 3715) cx (kf_9_20 hk_o0) (by decide) (by decide) kl_1 dX10_uneven_19 ?_
  refine f_icmp_ge (pc := 20) (tgt := 74) cx dX10_uneven_20 (by decide) (fun _ => ?_) (fun _ => ?_)
  · refine f_iload_n (pc := 74) cx dX10_uneven_74 rfl rfl ?_
    refine f_bipush (pc := 75) cx dX10_uneven_75 kc_bipush_m2 ?_
    refine f_icmp_ne (pc := 77) (tgt := 85) cx dX10_uneven_77 (by decide) (fun _ => ?_) (fun _ => ?_)
    · refine f_bipush (pc := 80) cx dX10_uneven_80 kc_bipush_m2 ?_
      refine f_goto (pc := 82) (tgt := 88) cx dX10_uneven_82 (by decide) ?_
      exact f_iret cx hr hlk rfl dX10_uneven_88
    · refine f_iload_n (pc := 85) cx dX10_uneven_85 rfl rfl ?_
      refine f_iload_n (pc := 86) cx dX10_uneven_86 rfl rfl ?_
      refine f_isub (pc := 87) cx dX10_uneven_87 ?_
      exact f_iret cx hr hlk rfl dX10_uneven_88
  · refine f_aload_n (pc := 23) cx dX10_uneven_23 rfl rfl ?_
    refine f_aload_n (pc := 24) cx dX10_uneven_24 rfl rfl ?_
    refine f_iload_n (pc := 25) cx dX10_uneven_25 rfl rfl ?_
    refine f_iconst (pc := 26) cx dX10_uneven_26 kc_iconst_0 ?_
    refine f_bind (fun r1 hr1 => ?_)
    refine k_X10_194 (pc := 27) cx (c_X10_frameOf l G _ o0 q.2.2.2 0 hk_o0 r1 hr1) hk_o0 ⟨by decide, by decide⟩ ⟨Nat.zero_le _, Nat.zero_le _⟩ (Nat.le_of_ble_eq_true rfl) dX10_uneven_27 ?_
    refine f_iconst (pc := 30) cx dX10_uneven_30 kc_iconst_0 ?_
    refine f_bind (fun r2 hr2 => ?_)
    refine k_X10_321 (pc := 31) cx (c_X10_flowOf l G _ o0 r1.1 0 hk_o0 r2 hr2) hk_o0 ⟨by decide, by decide⟩ ⟨Nat.zero_le _, Nat.zero_le _⟩ (Nat.le_of_ble_eq_true rfl) dX10_uneven_31 ?_
    refine f_istore4 (pc := 34) cx dX10_uneven_34 (by decide) rfl ?_
    refine f_iload_n (pc := 36) cx dX10_uneven_36 rfl rfl ?_
    refine f_bipush (pc := 37) cx dX10_uneven_37 kc_bipush_m2 ?_
    refine f_icmp_eq (pc := 39) (tgt := 48) cx dX10_uneven_39 (by decide) (fun _ => ?_) (fun _ => ?_)
    · refine f_iload (pc := 48) cx dX10_uneven_48 rfl ?_
      refine f_goto (pc := 50) (tgt := 54) cx dX10_uneven_50 (by decide) ?_
      exact f_weak (LSb.s (LSb.n (LSb.s (LSb.s (LSb.s LSb.e))))) (s_X10_uneven_54 cx hr hlk _ o0 q.2.2.1 q.2.2.2 r2.1 r2.1 hk_o0 k13 hk13)
    · refine f_iload (pc := 42) cx dX10_uneven_42 rfl ?_
      refine f_iload_n (pc := 44) cx dX10_uneven_44 rfl rfl ?_
      refine f_icmp_ge (pc := 45) (tgt := 53) cx dX10_uneven_45 (by decide) (fun _ => ?_) (fun _ => ?_)
      · refine f_iload_n (pc := 53) cx dX10_uneven_53 rfl rfl ?_
        exact f_weak (LSb.s (LSb.n (LSb.s (LSb.s (LSb.s LSb.e))))) (s_X10_uneven_54 cx hr hlk _ o0 q.2.2.1 q.2.2.2 r2.1 q.2.1 hk_o0 k13 hk13)
      · refine f_iload (pc := 48) cx dX10_uneven_48 rfl ?_
        refine f_goto (pc := 50) (tgt := 54) cx dX10_uneven_50 (by decide) ?_
        exact f_weak (LSb.s (LSb.n (LSb.s (LSb.s (LSb.s LSb.e))))) (s_X10_uneven_54 cx hr hlk _ o0 q.2.2.1 q.2.2.2 r2.1 r2.1 hk_o0 k13 hk13)
set_option maxRecDepth 4000 in
theorem s_X10_uneven {p : Program} {l : Launch} {e : Env} {s : State} {m : MethodId} {args : Array Value} {below : List Frame} {meth : Method} {c : Code} {G : GT} (cx : CX p s m args c cX10_uneven 5 RX10 G) (hr : meth.sig.returnType = (some .int)) (hlk : meth.locks = false) (h : Hp) (o0 : Nat) (hk_o0 : kd o0 = 9) : PF p l e (rmc 2 48) s m args below meth c 5 G 0 0 (QI below G args s) 0 [some (.ref (gad G o0)), none, none, none, none] [] h (p_X10_uneven h o0) := by
  unfold p_X10_uneven
  refine f_aload_n (pc := 0) cx dX10_uneven_0 rfl rfl ?_
  refine f_iconst (pc := 1) cx dX10_uneven_1 kc_iconst_0 ?_
  refine u_X10_45 (pc := 2) cx hk_o0 dX10_uneven_2 ?_
  refine f_nvh (fun h3 => ?_)
  refine f_bipush (pc := 5) cx dX10_uneven_5 kc_bipush_m2 ?_
  refine f_istore1 (pc := 7) cx dX10_uneven_7 (by decide) rfl ?_
  refine f_bipush (pc := 8) cx dX10_uneven_8 kc_bipush_m2 ?_
  refine f_istore2 (pc := 10) cx dX10_uneven_10 (by decide) rfl ?_
  refine f_iconst (pc := 11) cx dX10_uneven_11 kc_iconst_0 ?_
  refine f_istore3 (pc := 12) cx dX10_uneven_12 (by decide) rfl ?_
  exact f_weak (LSb.s (LSb.s (LSb.s (LSb.s (LSb.n LSb.e))))) (s_X10_uneven_13 cx hr hlk o0 hk_o0 FU (h3, (-2), (-2), 0))
set_option maxRecDepth 4000 in
theorem c_X10_uneven (l : Launch) (G : GT) (h : Hp) (o0 : Nat) (hk_o0 : kd o0 = 9) : CtI l G yX10_uneven cX10_uneven 5 (some .int) 2 48 [.ref (gad G o0)] h (p_X10_uneven h o0) := fun a ha => Ct.of (lv := [some (.ref (gad G o0)), none, none, none, none]) (by decide) rfl (Nat.le_of_ble_eq_true rfl) rfl (fun p e s m args below meth c cx hr hlk => s_X10_uneven cx hr hlk h o0 hk_o0 a ha)
def b_X10_within_28 (o0 : Nat) (x1 : Int32) (x2 : Int32) (k28 : Hp × Int32 × Int32 → Option (Int32 × Hp)) (q : Hp × Int32 × Int32) : Option (Int32 × Hp) :=
  if (q.1 (o0 + 6) 14) ≤ q.2.2 then (some (q.2.1, q.1)) else (Option.bind (p_X10_waitOf q.1 o0 q.2.2) fun r1 => if r1.1 < x1 then (nv (q.2.1 + 0) fun v2 => k28 (r1.2, v2, q.2.2 + 1)) else (Option.bind (p_X10_waitOf r1.2 o0 q.2.2) fun r3 => if x2 < r3.1 then (nv (q.2.1 + 0) fun v4 => k28 (r3.2, v4, q.2.2 + 1)) else (nv (q.2.1 + 1) fun v5 => k28 (r3.2, v5, q.2.2 + 1))))
def p_X10_within (h : Hp) (o0 : Nat) (x1 : Int32) (x2 : Int32) : Option (Int32 × Hp) :=
  nv (hp h o0 0 0) fun h6 => if x1 < 0 then (some ((-1), h6)) else (if x2 < x1 then (some ((-1), h6)) else (if x2 ≤ 9999999 then (lp (b_X10_within_28 o0 x1 x2) FU (h6, 0, 0)) else (some ((-1), h6))))
set_option maxRecDepth 4000 in
theorem s_X10_within_28 {p : Program} {l : Launch} {e : Env} {s : State} {m : MethodId} {args : Array Value} {below : List Frame} {meth : Method} {c : Code} {G : GT} (cx : CX p s m args c cX10_within 5 RX10 G) (hr : meth.sig.returnType = (some .int)) (hlk : meth.locks = false) (o0 : Nat) (x1 : Int32) (x2 : Int32) (hk_o0 : kd o0 = 9) : ∀ (n : Nat) (q : Hp × Int32 × Int32), PF p l e (rmc 2 44) s m args below meth c 5 G 0 0 (QI below G args s) 28 [some (.ref (gad G o0)), some (.int x1), some (.int x2), some (.int q.2.1), some (.int q.2.2)] [] q.1 (lp (b_X10_within_28 o0 x1 x2) n q) := by
  refine f_lp (lvf := fun (q : Hp × Int32 × Int32) => [some (.ref (gad G o0)), some (.int x1), some (.int x2), some (.int q.2.1), some (.int q.2.2)]) (hf := fun (q : Hp × Int32 × Int32) => q.1) (fun k28 hk28 q => ?_)
  show PF p l e (rmc 2 44) s m args below meth c 5 G 0 0 (QI below G args s) 28 [some (.ref (gad G o0)), some (.int x1), some (.int x2), some (.int q.2.1), some (.int q.2.2)] [] q.1 (b_X10_within_28 o0 x1 x2 k28 q)
  unfold b_X10_within_28
  refine f_iload (pc := 28) cx dX10_within_28 rfl ?_
  refine f_aload_n (pc := 30) cx dX10_within_30 rfl rfl ?_
  refine g_X10_30 (pc := 31) cx hk_o0 dX10_within_31 ?_
  refine f_bipush (pc := 34) cx dX10_within_34 kc_bipush_14 ?_
  refine f_ialdk (pc := 36) (j := 14) (n := 3715) cx (kf_9_20 hk_o0) (by decide) (by decide) kl_14 dX10_within_36 ?_
  refine f_icmp_ge (pc := 37) (tgt := 74) cx dX10_within_37 (by decide) (fun _ => ?_) (fun _ => ?_)
  · refine f_iload_n (pc := 74) cx dX10_within_74 rfl rfl ?_
    exact f_iret cx hr hlk rfl dX10_within_75
  · refine f_iload_n (pc := 40) cx dX10_within_40 rfl rfl ?_
    refine f_aload_n (pc := 41) cx dX10_within_41 rfl rfl ?_
    refine f_iload (pc := 42) cx dX10_within_42 rfl ?_
    refine f_bind (fun r1 hr1 => ?_)
    refine k_X10_325 (pc := 44) cx (c_X10_waitOf l G _ o0 q.2.2 hk_o0 r1 hr1) hk_o0 ⟨by decide, by decide⟩ ⟨Nat.zero_le _, Nat.zero_le _⟩ (Nat.le_of_ble_eq_true rfl) dX10_within_44 ?_
    refine f_iload_n (pc := 47) cx dX10_within_47 rfl rfl ?_
    refine f_icmp_lt (pc := 48) (tgt := 65) cx dX10_within_48 (by decide) (fun _ => ?_) (fun _ => ?_)
    · refine f_iconst (pc := 65) cx dX10_within_65 kc_iconst_0 ?_
      refine f_iadd (pc := 66) cx dX10_within_66 ?_
      refine f_nvi (fun v2 => ?_)
      refine f_istore3 (pc := 67) cx dX10_within_67 (by decide) rfl ?_
      refine f_iinc4 (pc := 68) cx dX10_within_68 kc_iconst_1 (by decide) rfl ?_
      refine f_goto (pc := 71) (tgt := 28) cx dX10_within_71 (by decide) ?_
      exact f_weak (LSb.s (LSb.s (LSb.s (LSb.s (LSb.s LSb.e))))) (hk28 (r1.2, v2, q.2.2 + 1))
    · refine f_aload_n (pc := 51) cx dX10_within_51 rfl rfl ?_
      refine f_iload (pc := 52) cx dX10_within_52 rfl ?_
      refine f_bind (fun r3 hr3 => ?_)
      refine k_X10_325 (pc := 54) cx (c_X10_waitOf l G _ o0 q.2.2 hk_o0 r3 hr3) hk_o0 ⟨by decide, by decide⟩ ⟨Nat.zero_le _, Nat.zero_le _⟩ (Nat.le_of_ble_eq_true rfl) dX10_within_54 ?_
      refine f_iload_n (pc := 57) cx dX10_within_57 rfl rfl ?_
      refine f_icmp_gt (pc := 58) (tgt := 65) cx dX10_within_58 (by decide) (fun _ => ?_) (fun _ => ?_)
      · refine f_iconst (pc := 65) cx dX10_within_65 kc_iconst_0 ?_
        refine f_iadd (pc := 66) cx dX10_within_66 ?_
        refine f_nvi (fun v4 => ?_)
        refine f_istore3 (pc := 67) cx dX10_within_67 (by decide) rfl ?_
        refine f_iinc4 (pc := 68) cx dX10_within_68 kc_iconst_1 (by decide) rfl ?_
        refine f_goto (pc := 71) (tgt := 28) cx dX10_within_71 (by decide) ?_
        exact f_weak (LSb.s (LSb.s (LSb.s (LSb.s (LSb.s LSb.e))))) (hk28 (r3.2, v4, q.2.2 + 1))
      · refine f_iconst (pc := 61) cx dX10_within_61 kc_iconst_1 ?_
        refine f_goto (pc := 62) (tgt := 66) cx dX10_within_62 (by decide) ?_
        refine f_iadd (pc := 66) cx dX10_within_66 ?_
        refine f_nvi (fun v5 => ?_)
        refine f_istore3 (pc := 67) cx dX10_within_67 (by decide) rfl ?_
        refine f_iinc4 (pc := 68) cx dX10_within_68 kc_iconst_1 (by decide) rfl ?_
        refine f_goto (pc := 71) (tgt := 28) cx dX10_within_71 (by decide) ?_
        exact f_weak (LSb.s (LSb.s (LSb.s (LSb.s (LSb.s LSb.e))))) (hk28 (r3.2, v5, q.2.2 + 1))
set_option maxRecDepth 4000 in
theorem s_X10_within {p : Program} {l : Launch} {e : Env} {s : State} {m : MethodId} {args : Array Value} {below : List Frame} {meth : Method} {c : Code} {G : GT} (cx : CX p s m args c cX10_within 5 RX10 G) (hr : meth.sig.returnType = (some .int)) (hlk : meth.locks = false) (h : Hp) (o0 : Nat) (x1 : Int32) (x2 : Int32) (hk_o0 : kd o0 = 9) : PF p l e (rmc 2 44) s m args below meth c 5 G 0 0 (QI below G args s) 0 [some (.ref (gad G o0)), some (.int x1), some (.int x2), none, none] [] h (p_X10_within h o0 x1 x2) := by
  unfold p_X10_within
  refine f_aload_n (pc := 0) cx dX10_within_0 rfl rfl ?_
  refine f_iconst (pc := 1) cx dX10_within_1 kc_iconst_0 ?_
  refine u_X10_45 (pc := 2) cx hk_o0 dX10_within_2 ?_
  refine f_nvh (fun h6 => ?_)
  refine f_iload_n (pc := 5) cx dX10_within_5 rfl rfl ?_
  refine f_if_lt (pc := 6) (tgt := 21) cx dX10_within_6 (by decide) (fun _ => ?_) (fun _ => ?_)
  · refine f_iconst (pc := 21) cx dX10_within_21 kc_iconst_m1 ?_
    exact f_iret cx hr hlk rfl dX10_within_22
  · refine f_iload_n (pc := 9) cx dX10_within_9 rfl rfl ?_
    refine f_iload_n (pc := 10) cx dX10_within_10 rfl rfl ?_
    refine f_icmp_lt (pc := 11) (tgt := 21) cx dX10_within_11 (by decide) (fun _ => ?_) (fun _ => ?_)
    · refine f_iconst (pc := 21) cx dX10_within_21 kc_iconst_m1 ?_
      exact f_iret cx hr hlk rfl dX10_within_22
    · refine f_iload_n (pc := 14) cx dX10_within_14 rfl rfl ?_
      refine f_ldcw (pc := 15) cx w_1770 dX10_within_15 ?_
      refine f_icmp_le (pc := 18) (tgt := 23) cx dX10_within_18 (by decide) (fun _ => ?_) (fun _ => ?_)
      · refine f_iconst (pc := 23) cx dX10_within_23 kc_iconst_0 ?_
        refine f_istore3 (pc := 24) cx dX10_within_24 (by decide) rfl ?_
        refine f_iconst (pc := 25) cx dX10_within_25 kc_iconst_0 ?_
        refine f_istore4 (pc := 26) cx dX10_within_26 (by decide) rfl ?_
        exact f_weak (LSb.s (LSb.s (LSb.s (LSb.s (LSb.s LSb.e))))) (s_X10_within_28 cx hr hlk o0 x1 x2 hk_o0 FU (h6, 0, 0))
      · refine f_iconst (pc := 21) cx dX10_within_21 kc_iconst_m1 ?_
        exact f_iret cx hr hlk rfl dX10_within_22
set_option maxRecDepth 4000 in
theorem c_X10_within (l : Launch) (G : GT) (h : Hp) (o0 : Nat) (x1 : Int32) (x2 : Int32) (hk_o0 : kd o0 = 9) : CtI l G yX10_within cX10_within 5 (some .int) 2 44 [.ref (gad G o0), .int x1, .int x2] h (p_X10_within h o0 x1 x2) := fun a ha => Ct.of (lv := [some (.ref (gad G o0)), some (.int x1), some (.int x2), none, none]) (by decide) rfl (Nat.le_of_ble_eq_true rfl) rfl (fun p e s m args below meth c cx hr hlk => s_X10_within cx hr hlk h o0 x1 x2 hk_o0 a ha)
def q_X10_middle_54 (k15 : Hp × Int32 → Option (Int32 × Hp)) (k28 : Hp × Int32 × Int32 × Int32 → Option (Int32 × Hp)) (h : Hp) (o0 : Nat) (x1 : Int32) (x2 : Int32) (x4 : Int32) (x5 : Int32) (y0 : Int32) (y1 : Int32) : Option (Int32 × Hp) :=
  nv (y0 + y1) fun v1 => Option.bind (p_X10_waitOf h o0 x5) fun r2 => Option.bind (p_X10_waitOf r2.2 o0 x2) fun r3 => if r2.1 = r3.1 then (nv (x4 + 1) fun v4 => k28 (r3.2, v1, v4, x5 + 1)) else (nv (x4 + 0) fun v5 => k28 (r3.2, v1, v5, x5 + 1))
def b_X10_middle_28 (k15 : Hp × Int32 → Option (Int32 × Hp)) (o0 : Nat) (x1 : Int32) (x2 : Int32) (k28 : Hp × Int32 × Int32 × Int32 → Option (Int32 × Hp)) (q : Hp × Int32 × Int32 × Int32) : Option (Int32 × Hp) :=
  if x1 ≤ q.2.2.2 then (if (x1 / 2) < q.2.1 then (k15 (q.1, x2 + 1)) else (if (q.2.1 + q.2.2.1) ≤ (x1 / 2) then (k15 (q.1, x2 + 1)) else (Option.bind (p_X10_waitOf q.1 o0 x2) fun r6 => some (r6.1, r6.2)))) else (Option.bind (p_X10_waitOf q.1 o0 q.2.2.2) fun r7 => Option.bind (p_X10_waitOf r7.2 o0 x2) fun r8 => if r8.1 ≤ r7.1 then (q_X10_middle_54 k15 k28 r8.2 o0 x1 x2 q.2.2.1 q.2.2.2 q.2.1 0) else (q_X10_middle_54 k15 k28 r8.2 o0 x1 x2 q.2.2.1 q.2.2.2 q.2.1 1))
def b_X10_middle_15 (o0 : Nat) (x1 : Int32) (k15 : Hp × Int32 → Option (Int32 × Hp)) (q : Hp × Int32) : Option (Int32 × Hp) :=
  if x1 ≤ q.2 then (some ((-2), q.1)) else (lp (b_X10_middle_28 k15 o0 x1 q.2) FU (q.1, 0, 0, 0))
def p_X10_middle (h : Hp) (o0 : Nat) : Option (Int32 × Hp) :=
  nv (hp h o0 0 0) fun h9 => nv (h9 (o0 + 6) 14) fun v10 => lp (b_X10_middle_15 o0 v10) FU (h9, 0)
set_option maxRecDepth 4000 in
theorem s_X10_middle_54 {p : Program} {l : Launch} {e : Env} {s : State} {m : MethodId} {args : Array Value} {below : List Frame} {meth : Method} {c : Code} {G : GT} (cx : CX p s m args c cX10_middle 6 RX10 G) (hr : meth.sig.returnType = (some .int)) (hlk : meth.locks = false) (h : Hp) (o0 : Nat) (x1 : Int32) (x2 : Int32) (x4 : Int32) (x5 : Int32) (y0 : Int32) (y1 : Int32) (hk_o0 : kd o0 = 9) (k15 : Hp × Int32 → Option (Int32 × Hp)) (k28 : Hp × Int32 × Int32 × Int32 → Option (Int32 × Hp)) (hk15 : ∀ (q : Hp × Int32), PF p l e (rmc 2 44) s m args below meth c 6 G 0 0 (QI below G args s) 15 [some (.ref (gad G o0)), some (.int x1), some (.int q.2), none, none, none] [] q.1 (k15 q)) (hk28 : ∀ (q : Hp × Int32 × Int32 × Int32), PF p l e (rmc 2 44) s m args below meth c 6 G 0 0 (QI below G args s) 28 [some (.ref (gad G o0)), some (.int x1), some (.int x2), some (.int q.2.1), some (.int q.2.2.1), some (.int q.2.2.2)] [] q.1 (k28 q)) : PF p l e (rmc 2 44) s m args below meth c 6 G 0 0 (QI below G args s) 54 [some (.ref (gad G o0)), some (.int x1), some (.int x2), none, some (.int x4), some (.int x5)] [.int y1, .int y0] h (q_X10_middle_54 k15 k28 h o0 x1 x2 x4 x5 y0 y1) := by
  unfold q_X10_middle_54
  refine f_iadd (pc := 54) cx dX10_middle_54 ?_
  refine f_nvi (fun v1 => ?_)
  refine f_istore3 (pc := 55) cx dX10_middle_55 (by decide) rfl ?_
  refine f_iload (pc := 56) cx dX10_middle_56 rfl ?_
  refine f_aload_n (pc := 58) cx dX10_middle_58 rfl rfl ?_
  refine f_iload (pc := 59) cx dX10_middle_59 rfl ?_
  refine f_bind (fun r2 hr2 => ?_)
  refine k_X10_325 (pc := 61) cx (c_X10_waitOf l G _ o0 x5 hk_o0 r2 hr2) hk_o0 ⟨by decide, by decide⟩ ⟨Nat.zero_le _, Nat.zero_le _⟩ (Nat.le_of_ble_eq_true rfl) dX10_middle_61 ?_
  refine f_aload_n (pc := 64) cx dX10_middle_64 rfl rfl ?_
  refine f_iload_n (pc := 65) cx dX10_middle_65 rfl rfl ?_
  refine f_bind (fun r3 hr3 => ?_)
  refine k_X10_325 (pc := 66) cx (c_X10_waitOf l G _ o0 x2 hk_o0 r3 hr3) hk_o0 ⟨by decide, by decide⟩ ⟨Nat.zero_le _, Nat.zero_le _⟩ (Nat.le_of_ble_eq_true rfl) dX10_middle_66 ?_
  refine f_icmp_ne (pc := 69) (tgt := 76) cx dX10_middle_69 (by decide) (fun _ => ?_) (fun _ => ?_)
  · refine f_iconst (pc := 72) cx dX10_middle_72 kc_iconst_1 ?_
    refine f_goto (pc := 73) (tgt := 77) cx dX10_middle_73 (by decide) ?_
    refine f_iadd (pc := 77) cx dX10_middle_77 ?_
    refine f_nvi (fun v4 => ?_)
    refine f_istore4 (pc := 78) cx dX10_middle_78 (by decide) rfl ?_
    refine f_iinc5 (pc := 80) cx dX10_middle_80 kc_iconst_1 (by decide) rfl ?_
    refine f_goto (pc := 83) (tgt := 28) cx dX10_middle_83 (by decide) ?_
    exact f_weak (LSb.s (LSb.s (LSb.s (LSb.s (LSb.s (LSb.s LSb.e)))))) (hk28 (r3.2, v1, v4, x5 + 1))
  · refine f_iconst (pc := 76) cx dX10_middle_76 kc_iconst_0 ?_
    refine f_iadd (pc := 77) cx dX10_middle_77 ?_
    refine f_nvi (fun v5 => ?_)
    refine f_istore4 (pc := 78) cx dX10_middle_78 (by decide) rfl ?_
    refine f_iinc5 (pc := 80) cx dX10_middle_80 kc_iconst_1 (by decide) rfl ?_
    refine f_goto (pc := 83) (tgt := 28) cx dX10_middle_83 (by decide) ?_
    exact f_weak (LSb.s (LSb.s (LSb.s (LSb.s (LSb.s (LSb.s LSb.e)))))) (hk28 (r3.2, v1, v5, x5 + 1))
set_option maxRecDepth 4000 in
theorem s_X10_middle_28 {p : Program} {l : Launch} {e : Env} {s : State} {m : MethodId} {args : Array Value} {below : List Frame} {meth : Method} {c : Code} {G : GT} (cx : CX p s m args c cX10_middle 6 RX10 G) (hr : meth.sig.returnType = (some .int)) (hlk : meth.locks = false) (o0 : Nat) (x1 : Int32) (x2 : Int32) (hk_o0 : kd o0 = 9) (k15 : Hp × Int32 → Option (Int32 × Hp)) (hk15 : ∀ (q : Hp × Int32), PF p l e (rmc 2 44) s m args below meth c 6 G 0 0 (QI below G args s) 15 [some (.ref (gad G o0)), some (.int x1), some (.int q.2), none, none, none] [] q.1 (k15 q)) : ∀ (n : Nat) (q : Hp × Int32 × Int32 × Int32), PF p l e (rmc 2 44) s m args below meth c 6 G 0 0 (QI below G args s) 28 [some (.ref (gad G o0)), some (.int x1), some (.int x2), some (.int q.2.1), some (.int q.2.2.1), some (.int q.2.2.2)] [] q.1 (lp (b_X10_middle_28 k15 o0 x1 x2) n q) := by
  refine f_lp (lvf := fun (q : Hp × Int32 × Int32 × Int32) => [some (.ref (gad G o0)), some (.int x1), some (.int x2), some (.int q.2.1), some (.int q.2.2.1), some (.int q.2.2.2)]) (hf := fun (q : Hp × Int32 × Int32 × Int32) => q.1) (fun k28 hk28 q => ?_)
  show PF p l e (rmc 2 44) s m args below meth c 6 G 0 0 (QI below G args s) 28 [some (.ref (gad G o0)), some (.int x1), some (.int x2), some (.int q.2.1), some (.int q.2.2.1), some (.int q.2.2.2)] [] q.1 (b_X10_middle_28 k15 o0 x1 x2 k28 q)
  unfold b_X10_middle_28
  refine f_iload (pc := 28) cx dX10_middle_28 rfl ?_
  refine f_iload_n (pc := 30) cx dX10_middle_30 rfl rfl ?_
  refine f_icmp_ge (pc := 31) (tgt := 86) cx dX10_middle_31 (by decide) (fun _ => ?_) (fun _ => ?_)
  · refine f_iload_n (pc := 86) cx dX10_middle_86 rfl rfl ?_
    refine f_iload_n (pc := 87) cx dX10_middle_87 rfl rfl ?_
    refine f_iconst (pc := 88) cx dX10_middle_88 kc_iconst_2 ?_
    refine f_idiv (pc := 89) cx dX10_middle_89 (by decide) ?_
    refine f_icmp_gt (pc := 90) (tgt := 109) cx dX10_middle_90 (by decide) (fun _ => ?_) (fun _ => ?_)
    · refine f_iinc2 (pc := 109) cx dX10_middle_109 kc_iconst_1 (by decide) rfl ?_
      refine f_goto (pc := 112) (tgt := 15) cx dX10_middle_112 (by decide) ?_
      exact f_weak (LSb.s (LSb.s (LSb.s (LSb.n (LSb.n (LSb.n LSb.e)))))) (hk15 (q.1, x2 + 1))
    · refine f_iload_n (pc := 93) cx dX10_middle_93 rfl rfl ?_
      refine f_iconst (pc := 94) cx dX10_middle_94 kc_iconst_2 ?_
      refine f_idiv (pc := 95) cx dX10_middle_95 (by decide) ?_
      refine f_iload_n (pc := 96) cx dX10_middle_96 rfl rfl ?_
      refine f_iload (pc := 97) cx dX10_middle_97 rfl ?_
      refine f_iadd (pc := 99) cx dX10_middle_99 ?_
      refine f_icmp_ge (pc := 100) (tgt := 109) cx dX10_middle_100 (by decide) (fun _ => ?_) (fun _ => ?_)
      · refine f_iinc2 (pc := 109) cx dX10_middle_109 kc_iconst_1 (by decide) rfl ?_
        refine f_goto (pc := 112) (tgt := 15) cx dX10_middle_112 (by decide) ?_
        exact f_weak (LSb.s (LSb.s (LSb.s (LSb.n (LSb.n (LSb.n LSb.e)))))) (hk15 (q.1, x2 + 1))
      · refine f_aload_n (pc := 103) cx dX10_middle_103 rfl rfl ?_
        refine f_iload_n (pc := 104) cx dX10_middle_104 rfl rfl ?_
        refine f_bind (fun r6 hr6 => ?_)
        refine k_X10_325 (pc := 105) cx (c_X10_waitOf l G _ o0 x2 hk_o0 r6 hr6) hk_o0 ⟨by decide, by decide⟩ ⟨Nat.zero_le _, Nat.zero_le _⟩ (Nat.le_of_ble_eq_true rfl) dX10_middle_105 ?_
        exact f_iret cx hr hlk rfl dX10_middle_108
  · refine f_iload_n (pc := 34) cx dX10_middle_34 rfl rfl ?_
    refine f_aload_n (pc := 35) cx dX10_middle_35 rfl rfl ?_
    refine f_iload (pc := 36) cx dX10_middle_36 rfl ?_
    refine f_bind (fun r7 hr7 => ?_)
    refine k_X10_325 (pc := 38) cx (c_X10_waitOf l G _ o0 q.2.2.2 hk_o0 r7 hr7) hk_o0 ⟨by decide, by decide⟩ ⟨Nat.zero_le _, Nat.zero_le _⟩ (Nat.le_of_ble_eq_true rfl) dX10_middle_38 ?_
    refine f_aload_n (pc := 41) cx dX10_middle_41 rfl rfl ?_
    refine f_iload_n (pc := 42) cx dX10_middle_42 rfl rfl ?_
    refine f_bind (fun r8 hr8 => ?_)
    refine k_X10_325 (pc := 43) cx (c_X10_waitOf l G _ o0 x2 hk_o0 r8 hr8) hk_o0 ⟨by decide, by decide⟩ ⟨Nat.zero_le _, Nat.zero_le _⟩ (Nat.le_of_ble_eq_true rfl) dX10_middle_43 ?_
    refine f_icmp_ge (pc := 46) (tgt := 53) cx dX10_middle_46 (by decide) (fun _ => ?_) (fun _ => ?_)
    · refine f_iconst (pc := 53) cx dX10_middle_53 kc_iconst_0 ?_
      exact f_weak (LSb.s (LSb.s (LSb.s (LSb.n (LSb.s (LSb.s LSb.e)))))) (s_X10_middle_54 cx hr hlk _ o0 x1 x2 q.2.2.1 q.2.2.2 q.2.1 0 hk_o0 k15 k28 hk15 hk28)
    · refine f_iconst (pc := 49) cx dX10_middle_49 kc_iconst_1 ?_
      refine f_goto (pc := 50) (tgt := 54) cx dX10_middle_50 (by decide) ?_
      exact f_weak (LSb.s (LSb.s (LSb.s (LSb.n (LSb.s (LSb.s LSb.e)))))) (s_X10_middle_54 cx hr hlk _ o0 x1 x2 q.2.2.1 q.2.2.2 q.2.1 1 hk_o0 k15 k28 hk15 hk28)
set_option maxRecDepth 4000 in
theorem s_X10_middle_15 {p : Program} {l : Launch} {e : Env} {s : State} {m : MethodId} {args : Array Value} {below : List Frame} {meth : Method} {c : Code} {G : GT} (cx : CX p s m args c cX10_middle 6 RX10 G) (hr : meth.sig.returnType = (some .int)) (hlk : meth.locks = false) (o0 : Nat) (x1 : Int32) (hk_o0 : kd o0 = 9) : ∀ (n : Nat) (q : Hp × Int32), PF p l e (rmc 2 44) s m args below meth c 6 G 0 0 (QI below G args s) 15 [some (.ref (gad G o0)), some (.int x1), some (.int q.2), none, none, none] [] q.1 (lp (b_X10_middle_15 o0 x1) n q) := by
  refine f_lp (lvf := fun (q : Hp × Int32) => [some (.ref (gad G o0)), some (.int x1), some (.int q.2), none, none, none]) (hf := fun (q : Hp × Int32) => q.1) (fun k15 hk15 q => ?_)
  show PF p l e (rmc 2 44) s m args below meth c 6 G 0 0 (QI below G args s) 15 [some (.ref (gad G o0)), some (.int x1), some (.int q.2), none, none, none] [] q.1 (b_X10_middle_15 o0 x1 k15 q)
  unfold b_X10_middle_15
  refine f_iload_n (pc := 15) cx dX10_middle_15 rfl rfl ?_
  refine f_iload_n (pc := 16) cx dX10_middle_16 rfl rfl ?_
  refine f_icmp_ge (pc := 17) (tgt := 115) cx dX10_middle_17 (by decide) (fun _ => ?_) (fun _ => ?_)
  · refine f_bipush (pc := 115) cx dX10_middle_115 kc_bipush_m2 ?_
    exact f_iret cx hr hlk rfl dX10_middle_117
  · refine f_iconst (pc := 20) cx dX10_middle_20 kc_iconst_0 ?_
    refine f_istore3 (pc := 21) cx dX10_middle_21 (by decide) rfl ?_
    refine f_iconst (pc := 22) cx dX10_middle_22 kc_iconst_0 ?_
    refine f_istore4 (pc := 23) cx dX10_middle_23 (by decide) rfl ?_
    refine f_iconst (pc := 25) cx dX10_middle_25 kc_iconst_0 ?_
    refine f_istore5 (pc := 26) cx dX10_middle_26 (by decide) rfl ?_
    exact f_weak (LSb.s (LSb.s (LSb.s (LSb.s (LSb.s (LSb.s LSb.e)))))) (s_X10_middle_28 cx hr hlk o0 x1 q.2 hk_o0 k15 hk15 FU (q.1, 0, 0, 0))
set_option maxRecDepth 4000 in
theorem s_X10_middle {p : Program} {l : Launch} {e : Env} {s : State} {m : MethodId} {args : Array Value} {below : List Frame} {meth : Method} {c : Code} {G : GT} (cx : CX p s m args c cX10_middle 6 RX10 G) (hr : meth.sig.returnType = (some .int)) (hlk : meth.locks = false) (h : Hp) (o0 : Nat) (hk_o0 : kd o0 = 9) : PF p l e (rmc 2 44) s m args below meth c 6 G 0 0 (QI below G args s) 0 [some (.ref (gad G o0)), none, none, none, none, none] [] h (p_X10_middle h o0) := by
  unfold p_X10_middle
  refine f_aload_n (pc := 0) cx dX10_middle_0 rfl rfl ?_
  refine f_iconst (pc := 1) cx dX10_middle_1 kc_iconst_0 ?_
  refine u_X10_45 (pc := 2) cx hk_o0 dX10_middle_2 ?_
  refine f_nvh (fun h9 => ?_)
  refine f_aload_n (pc := 5) cx dX10_middle_5 rfl rfl ?_
  refine g_X10_30 (pc := 6) cx hk_o0 dX10_middle_6 ?_
  refine f_bipush (pc := 9) cx dX10_middle_9 kc_bipush_14 ?_
  refine f_ialdk (pc := 11) (j := 14) (n := 3715) cx (kf_9_20 hk_o0) (by decide) (by decide) kl_14 dX10_middle_11 ?_
  refine f_nvi (fun v10 => ?_)
  refine f_istore1 (pc := 12) cx dX10_middle_12 (by decide) rfl ?_
  refine f_iconst (pc := 13) cx dX10_middle_13 kc_iconst_0 ?_
  refine f_istore2 (pc := 14) cx dX10_middle_14 (by decide) rfl ?_
  exact f_weak (LSb.s (LSb.s (LSb.s (LSb.n (LSb.n (LSb.n LSb.e)))))) (s_X10_middle_15 cx hr hlk o0 v10 hk_o0 FU (h9, 0))
set_option maxRecDepth 4000 in
theorem c_X10_middle (l : Launch) (G : GT) (h : Hp) (o0 : Nat) (hk_o0 : kd o0 = 9) : CtI l G yX10_middle cX10_middle 6 (some .int) 2 44 [.ref (gad G o0)] h (p_X10_middle h o0) := fun a ha => Ct.of (lv := [some (.ref (gad G o0)), none, none, none, none, none]) (by decide) rfl (Nat.le_of_ble_eq_true rfl) rfl (fun p e s m args below meth c cx hr hlk => s_X10_middle cx hr hlk h o0 hk_o0 a ha)
def p_X10_eldest (h : Hp) (o0 : Nat) (x1 : Int32) (x2 : Int32) : Option (Int32 × Hp) :=
  nv (hp h o0 0 0) fun h1 => Option.bind (p_X10_isBucket h1 o0 x1) fun r2 => if r2.1 = 0 then (some ((-1), r2.2)) else (if x2 < 0 then (some ((-1), r2.2)) else (if x2 ≤ 1 then (Option.bind (p_X10_firstIn r2.2 o0 x1) fun r3 => if r3.1 = (-1) then (some ((-2), r3.2)) else (if x2 = 0 then (Option.bind (p_X10_frameOf r3.2 o0 r3.1 3) fun r4 => some ((r3.2 (o0 + 6) 0) - r4.1, r4.2)) else (some (r3.1, r3.2)))) else (some ((-1), r2.2))))
set_option maxRecDepth 4000 in
theorem s_X10_eldest {p : Program} {l : Launch} {e : Env} {s : State} {m : MethodId} {args : Array Value} {below : List Frame} {meth : Method} {c : Code} {G : GT} (cx : CX p s m args c cX10_eldest 4 RX10 G) (hr : meth.sig.returnType = (some .int)) (hlk : meth.locks = false) (h : Hp) (o0 : Nat) (x1 : Int32) (x2 : Int32) (hk_o0 : kd o0 = 9) : PF p l e (rmc 2 44) s m args below meth c 4 G 0 0 (QI below G args s) 0 [some (.ref (gad G o0)), some (.int x1), some (.int x2), none] [] h (p_X10_eldest h o0 x1 x2) := by
  unfold p_X10_eldest
  refine f_aload_n (pc := 0) cx dX10_eldest_0 rfl rfl ?_
  refine f_iconst (pc := 1) cx dX10_eldest_1 kc_iconst_0 ?_
  refine u_X10_45 (pc := 2) cx hk_o0 dX10_eldest_2 ?_
  refine f_nvh (fun h1 => ?_)
  refine f_aload_n (pc := 5) cx dX10_eldest_5 rfl rfl ?_
  refine f_iload_n (pc := 6) cx dX10_eldest_6 rfl rfl ?_
  refine f_bind (fun r2 hr2 => ?_)
  refine k_X10_304 (pc := 7) cx (c_X10_isBucket l G _ o0 x1 hk_o0 r2 hr2) hk_o0 ⟨by decide, by decide⟩ ⟨Nat.zero_le _, Nat.zero_le _⟩ (Nat.le_of_ble_eq_true rfl) dX10_eldest_7 ?_
  refine f_if_eq (pc := 10) (tgt := 22) cx dX10_eldest_10 (by decide) (fun _ => ?_) (fun _ => ?_)
  · refine f_iconst (pc := 22) cx dX10_eldest_22 kc_iconst_m1 ?_
    exact f_iret cx hr hlk rfl dX10_eldest_23
  · refine f_iload_n (pc := 13) cx dX10_eldest_13 rfl rfl ?_
    refine f_if_lt (pc := 14) (tgt := 22) cx dX10_eldest_14 (by decide) (fun _ => ?_) (fun _ => ?_)
    · refine f_iconst (pc := 22) cx dX10_eldest_22 kc_iconst_m1 ?_
      exact f_iret cx hr hlk rfl dX10_eldest_23
    · refine f_iload_n (pc := 17) cx dX10_eldest_17 rfl rfl ?_
      refine f_iconst (pc := 18) cx dX10_eldest_18 kc_iconst_1 ?_
      refine f_icmp_le (pc := 19) (tgt := 24) cx dX10_eldest_19 (by decide) (fun _ => ?_) (fun _ => ?_)
      · refine f_aload_n (pc := 24) cx dX10_eldest_24 rfl rfl ?_
        refine f_iload_n (pc := 25) cx dX10_eldest_25 rfl rfl ?_
        refine f_bind (fun r3 hr3 => ?_)
        refine k_X10_212 (pc := 26) cx (c_X10_firstIn l G _ o0 x1 hk_o0 r3 hr3) hk_o0 ⟨by decide, by decide⟩ ⟨Nat.zero_le _, Nat.zero_le _⟩ (Nat.le_of_ble_eq_true rfl) dX10_eldest_26 ?_
        refine f_istore3 (pc := 29) cx dX10_eldest_29 (by decide) rfl ?_
        refine f_iload_n (pc := 30) cx dX10_eldest_30 rfl rfl ?_
        refine f_iconst (pc := 31) cx dX10_eldest_31 kc_iconst_m1 ?_
        refine f_icmp_ne (pc := 32) (tgt := 40) cx dX10_eldest_32 (by decide) (fun _ => ?_) (fun _ => ?_)
        · refine f_bipush (pc := 35) cx dX10_eldest_35 kc_bipush_m2 ?_
          refine f_goto (pc := 37) (tgt := 61) cx dX10_eldest_37 (by decide) ?_
          exact f_iret cx hr hlk rfl dX10_eldest_61
        · refine f_iload_n (pc := 40) cx dX10_eldest_40 rfl rfl ?_
          refine f_if_ne (pc := 41) (tgt := 60) cx dX10_eldest_41 (by decide) (fun _ => ?_) (fun _ => ?_)
          · refine f_aload_n (pc := 44) cx dX10_eldest_44 rfl rfl ?_
            refine g_X10_30 (pc := 45) cx hk_o0 dX10_eldest_45 ?_
            refine f_iconst (pc := 48) cx dX10_eldest_48 kc_iconst_0 ?_
            refine f_ialdk (pc := 49) (j := 0) (n := 3715) cx (kf_9_20 hk_o0) (by decide) (by decide) kl_0 dX10_eldest_49 ?_
            refine f_aload_n (pc := 50) cx dX10_eldest_50 rfl rfl ?_
            refine f_iload_n (pc := 51) cx dX10_eldest_51 rfl rfl ?_
            refine f_iconst (pc := 52) cx dX10_eldest_52 kc_iconst_3 ?_
            refine f_bind (fun r4 hr4 => ?_)
            refine k_X10_194 (pc := 53) cx (c_X10_frameOf l G _ o0 r3.1 3 hk_o0 r4 hr4) hk_o0 ⟨by decide, by decide⟩ ⟨Nat.zero_le _, Nat.zero_le _⟩ (Nat.le_of_ble_eq_true rfl) dX10_eldest_53 ?_
            refine f_isub (pc := 56) cx dX10_eldest_56 ?_
            refine f_goto (pc := 57) (tgt := 61) cx dX10_eldest_57 (by decide) ?_
            exact f_iret cx hr hlk rfl dX10_eldest_61
          · refine f_iload_n (pc := 60) cx dX10_eldest_60 rfl rfl ?_
            exact f_iret cx hr hlk rfl dX10_eldest_61
      · refine f_iconst (pc := 22) cx dX10_eldest_22 kc_iconst_m1 ?_
        exact f_iret cx hr hlk rfl dX10_eldest_23
set_option maxRecDepth 4000 in
theorem c_X10_eldest (l : Launch) (G : GT) (h : Hp) (o0 : Nat) (x1 : Int32) (x2 : Int32) (hk_o0 : kd o0 = 9) : CtI l G yX10_eldest cX10_eldest 4 (some .int) 2 44 [.ref (gad G o0), .int x1, .int x2] h (p_X10_eldest h o0 x1 x2) := fun a ha => Ct.of (lv := [some (.ref (gad G o0)), some (.int x1), some (.int x2), none]) (by decide) rfl (Nat.le_of_ble_eq_true rfl) rfl (fun p e s m args below meth c cx hr hlk => s_X10_eldest cx hr hlk h o0 x1 x2 hk_o0 a ha)
def q_X10_count_52 (h : Hp) (o0 : Nat) (x1 : Int32) : Option (Int32 × Hp) :=
  if x1 = 0 then (some (h (o0 + 6) 0, h)) else if x1 = 1 then (some (h (o0 + 6) 1, h)) else if x1 = 2 then (some (h (o0 + 6) 2, h)) else if x1 = 3 then (Option.bind (p_X10_bytesStanding h o0) fun r4 => some (r4.1, r4.2)) else if x1 = 4 then (some ((-1), h)) else if x1 = 5 then (some ((-1), h)) else if x1 = 6 then (some ((-1), h)) else if x1 = 7 then (some ((-1), h)) else if x1 = 8 then (Option.bind (p_X10_buckets h o0) fun r10 => some (r10.1, r10.2)) else if x1 = 9 then (Option.bind (p_X10_freeOnes h o0) fun r12 => some (r12.1, r12.2)) else if x1 = 10 then (some (h (o0 + 6) 3, h)) else if x1 = 11 then (some ((-1), h)) else if x1 = 12 then (some ((-1), h)) else if x1 = 13 then (some ((-1), h)) else if x1 = 14 then (some ((-1), h)) else if x1 = 15 then (some ((-1), h)) else if x1 = 16 then (some (h o0 2, h)) else if x1 = 17 then (some (h (o0 + 6) 9, h)) else if x1 = 18 then (some (h (o0 + 6) 3476, h)) else if x1 = 19 then (some (h (o0 + 6) 3477, h)) else (some ((-1), h))
def q_X10_count_28 (h : Hp) (o0 : Nat) (x1 : Int32) : Option (Int32 × Hp) :=
  if x1 < 11 then (q_X10_count_52 h o0 x1) else (if 15 < x1 then (q_X10_count_52 h o0 x1) else (if ib ((4 + x1) - 11) 3715 then (some (h (o0 + 6) (Int32.toNatClampNeg ((4 + x1) - 11)), h)) else none))
def p_X10_count (h : Hp) (o0 : Nat) (x1 : Int32) : Option (Int32 × Hp) :=
  nv (hp h o0 0 0) fun h25 => if x1 < 4 then (q_X10_count_28 h25 o0 x1) else (if 7 < x1 then (q_X10_count_28 h25 o0 x1) else (if ib ((14 + x1) - 4) 3715 then (some (h25 (o0 + 6) (Int32.toNatClampNeg ((14 + x1) - 4)), h25)) else none))
set_option maxRecDepth 4000 in
theorem s_X10_count_52 {p : Program} {l : Launch} {e : Env} {s : State} {m : MethodId} {args : Array Value} {below : List Frame} {meth : Method} {c : Code} {G : GT} (cx : CX p s m args c cX10_count 2 RX10 G) (hr : meth.sig.returnType = (some .int)) (hlk : meth.locks = false) (h : Hp) (o0 : Nat) (x1 : Int32) (hk_o0 : kd o0 = 9) : PF p l e (rmc 2 44) s m args below meth c 2 G 0 0 (QI below G args s) 52 [some (.ref (gad G o0)), some (.int x1)] [] h (q_X10_count_52 h o0 x1) := by
  unfold q_X10_count_52
  refine f_iload_n (pc := 52) cx dX10_count_52 rfl rfl ?_
  refine f_case (?_) (fun n1 => ?_)
  · refine f_tin (pc := 53) (tgt := 148) cx dX10_count_53 (by decide) (by decide) rfl (by decide) ?_
    refine f_aload_n (pc := 148) cx dX10_count_148 rfl rfl ?_
    refine g_X10_30 (pc := 149) cx hk_o0 dX10_count_149 ?_
    refine f_iconst (pc := 152) cx dX10_count_152 kc_iconst_0 ?_
    refine f_ialdk (pc := 153) (j := 0) (n := 3715) cx (kf_9_20 hk_o0) (by decide) (by decide) kl_0 dX10_count_153 ?_
    exact f_iret cx hr hlk rfl dX10_count_154
  refine f_case (?_) (fun n2 => ?_)
  · refine f_tin (pc := 53) (tgt := 155) cx dX10_count_53 (by decide) (by decide) rfl (by decide) ?_
    refine f_aload_n (pc := 155) cx dX10_count_155 rfl rfl ?_
    refine g_X10_30 (pc := 156) cx hk_o0 dX10_count_156 ?_
    refine f_iconst (pc := 159) cx dX10_count_159 kc_iconst_1 ?_
    refine f_ialdk (pc := 160) (j := 1) (n := 3715) cx (kf_9_20 hk_o0) (by decide) (by decide) kl_1 dX10_count_160 ?_
    exact f_iret cx hr hlk rfl dX10_count_161
  refine f_case (?_) (fun n3 => ?_)
  · refine f_tin (pc := 53) (tgt := 162) cx dX10_count_53 (by decide) (by decide) rfl (by decide) ?_
    refine f_aload_n (pc := 162) cx dX10_count_162 rfl rfl ?_
    refine g_X10_30 (pc := 163) cx hk_o0 dX10_count_163 ?_
    refine f_iconst (pc := 166) cx dX10_count_166 kc_iconst_2 ?_
    refine f_ialdk (pc := 167) (j := 2) (n := 3715) cx (kf_9_20 hk_o0) (by decide) (by decide) kl_2 dX10_count_167 ?_
    exact f_iret cx hr hlk rfl dX10_count_168
  refine f_case (?_) (fun n5 => ?_)
  · refine f_tin (pc := 53) (tgt := 169) cx dX10_count_53 (by decide) (by decide) rfl (by decide) ?_
    refine f_aload_n (pc := 169) cx dX10_count_169 rfl rfl ?_
    refine f_bind (fun r4 hr4 => ?_)
    refine k_X10_337 (pc := 170) cx (c_X10_bytesStanding l G _ o0 hk_o0 r4 hr4) hk_o0 ⟨by decide, by decide⟩ ⟨Nat.zero_le _, Nat.zero_le _⟩ (Nat.le_of_ble_eq_true rfl) dX10_count_170 ?_
    exact f_iret cx hr hlk rfl dX10_count_173
  refine f_case (?_) (fun n6 => ?_)
  · refine f_tin (pc := 53) (tgt := 222) cx dX10_count_53 (by decide) (by decide) rfl (by decide) ?_
    refine f_iconst (pc := 222) cx dX10_count_222 kc_iconst_m1 ?_
    exact f_iret cx hr hlk rfl dX10_count_223
  refine f_case (?_) (fun n7 => ?_)
  · refine f_tin (pc := 53) (tgt := 222) cx dX10_count_53 (by decide) (by decide) rfl (by decide) ?_
    refine f_iconst (pc := 222) cx dX10_count_222 kc_iconst_m1 ?_
    exact f_iret cx hr hlk rfl dX10_count_223
  refine f_case (?_) (fun n8 => ?_)
  · refine f_tin (pc := 53) (tgt := 222) cx dX10_count_53 (by decide) (by decide) rfl (by decide) ?_
    refine f_iconst (pc := 222) cx dX10_count_222 kc_iconst_m1 ?_
    exact f_iret cx hr hlk rfl dX10_count_223
  refine f_case (?_) (fun n9 => ?_)
  · refine f_tin (pc := 53) (tgt := 222) cx dX10_count_53 (by decide) (by decide) rfl (by decide) ?_
    refine f_iconst (pc := 222) cx dX10_count_222 kc_iconst_m1 ?_
    exact f_iret cx hr hlk rfl dX10_count_223
  refine f_case (?_) (fun n11 => ?_)
  · refine f_tin (pc := 53) (tgt := 174) cx dX10_count_53 (by decide) (by decide) rfl (by decide) ?_
    refine f_aload_n (pc := 174) cx dX10_count_174 rfl rfl ?_
    refine f_bind (fun r10 hr10 => ?_)
    refine k_X10_209 (pc := 175) cx (c_X10_buckets l G _ o0 hk_o0 r10 hr10) hk_o0 ⟨by decide, by decide⟩ ⟨Nat.zero_le _, Nat.zero_le _⟩ (Nat.le_of_ble_eq_true rfl) dX10_count_175 ?_
    exact f_iret cx hr hlk rfl dX10_count_178
  refine f_case (?_) (fun n13 => ?_)
  · refine f_tin (pc := 53) (tgt := 179) cx dX10_count_53 (by decide) (by decide) rfl (by decide) ?_
    refine f_aload_n (pc := 179) cx dX10_count_179 rfl rfl ?_
    refine f_bind (fun r12 hr12 => ?_)
    refine k_X10_340 (pc := 180) cx (c_X10_freeOnes l G _ o0 hk_o0 r12 hr12) hk_o0 ⟨by decide, by decide⟩ ⟨Nat.zero_le _, Nat.zero_le _⟩ (Nat.le_of_ble_eq_true rfl) dX10_count_180 ?_
    exact f_iret cx hr hlk rfl dX10_count_183
  refine f_case (?_) (fun n14 => ?_)
  · refine f_tin (pc := 53) (tgt := 184) cx dX10_count_53 (by decide) (by decide) rfl (by decide) ?_
    refine f_aload_n (pc := 184) cx dX10_count_184 rfl rfl ?_
    refine g_X10_30 (pc := 185) cx hk_o0 dX10_count_185 ?_
    refine f_iconst (pc := 188) cx dX10_count_188 kc_iconst_3 ?_
    refine f_ialdk (pc := 189) (j := 3) (n := 3715) cx (kf_9_20 hk_o0) (by decide) (by decide) kl_3 dX10_count_189 ?_
    exact f_iret cx hr hlk rfl dX10_count_190
  refine f_case (?_) (fun n15 => ?_)
  · refine f_tin (pc := 53) (tgt := 222) cx dX10_count_53 (by decide) (by decide) rfl (by decide) ?_
    refine f_iconst (pc := 222) cx dX10_count_222 kc_iconst_m1 ?_
    exact f_iret cx hr hlk rfl dX10_count_223
  refine f_case (?_) (fun n16 => ?_)
  · refine f_tin (pc := 53) (tgt := 222) cx dX10_count_53 (by decide) (by decide) rfl (by decide) ?_
    refine f_iconst (pc := 222) cx dX10_count_222 kc_iconst_m1 ?_
    exact f_iret cx hr hlk rfl dX10_count_223
  refine f_case (?_) (fun n17 => ?_)
  · refine f_tin (pc := 53) (tgt := 222) cx dX10_count_53 (by decide) (by decide) rfl (by decide) ?_
    refine f_iconst (pc := 222) cx dX10_count_222 kc_iconst_m1 ?_
    exact f_iret cx hr hlk rfl dX10_count_223
  refine f_case (?_) (fun n18 => ?_)
  · refine f_tin (pc := 53) (tgt := 222) cx dX10_count_53 (by decide) (by decide) rfl (by decide) ?_
    refine f_iconst (pc := 222) cx dX10_count_222 kc_iconst_m1 ?_
    exact f_iret cx hr hlk rfl dX10_count_223
  refine f_case (?_) (fun n19 => ?_)
  · refine f_tin (pc := 53) (tgt := 222) cx dX10_count_53 (by decide) (by decide) rfl (by decide) ?_
    refine f_iconst (pc := 222) cx dX10_count_222 kc_iconst_m1 ?_
    exact f_iret cx hr hlk rfl dX10_count_223
  refine f_case (?_) (fun n20 => ?_)
  · refine f_tin (pc := 53) (tgt := 191) cx dX10_count_53 (by decide) (by decide) rfl (by decide) ?_
    refine f_aload_n (pc := 191) cx dX10_count_191 rfl rfl ?_
    refine g_X10_48 (pc := 192) cx hk_o0 dX10_count_192 ?_
    exact f_iret cx hr hlk rfl dX10_count_195
  refine f_case (?_) (fun n21 => ?_)
  · refine f_tin (pc := 53) (tgt := 196) cx dX10_count_53 (by decide) (by decide) rfl (by decide) ?_
    refine f_aload_n (pc := 196) cx dX10_count_196 rfl rfl ?_
    refine g_X10_30 (pc := 197) cx hk_o0 dX10_count_197 ?_
    refine f_bipush (pc := 200) cx dX10_count_200 kc_bipush_9 ?_
    refine f_ialdk (pc := 202) (j := 9) (n := 3715) cx (kf_9_20 hk_o0) (by decide) (by decide) kl_9 dX10_count_202 ?_
    exact f_iret cx hr hlk rfl dX10_count_203
  refine f_case (?_) (fun n22 => ?_)
  · refine f_tin (pc := 53) (tgt := 204) cx dX10_count_53 (by decide) (by decide) rfl (by decide) ?_
    refine f_aload_n (pc := 204) cx dX10_count_204 rfl rfl ?_
    refine g_X10_30 (pc := 205) cx hk_o0 dX10_count_205 ?_
    refine f_sipush (pc := 208) cx dX10_count_208 kc_sipush_3476 ?_
    refine f_ialdk (pc := 211) (j := 3476) (n := 3715) cx (kf_9_20 hk_o0) (by decide) (by decide) kl_3476 dX10_count_211 ?_
    exact f_iret cx hr hlk rfl dX10_count_212
  refine f_case (?_) (fun n23 => ?_)
  · refine f_tin (pc := 53) (tgt := 213) cx dX10_count_53 (by decide) (by decide) rfl (by decide) ?_
    refine f_aload_n (pc := 213) cx dX10_count_213 rfl rfl ?_
    refine g_X10_30 (pc := 214) cx hk_o0 dX10_count_214 ?_
    refine f_sipush (pc := 217) cx dX10_count_217 kc_sipush_3477 ?_
    refine f_ialdk (pc := 220) (j := 3477) (n := 3715) cx (kf_9_20 hk_o0) (by decide) (by decide) kl_3477 dX10_count_220 ?_
    exact f_iret cx hr hlk rfl dX10_count_221
  refine f_tout (pc := 53) (tgt := 222) (N := 20) cx dX10_count_53 (by decide) (by decide) (lt_s (lt_s (lt_s (lt_s (lt_s (lt_s (lt_s (lt_s (lt_s (lt_s (lt_s (lt_s (lt_s (lt_s (lt_s (lt_s (lt_s (lt_s (lt_s (lt_s lt_0 n1) n2) n3) n5) n6) n7) n8) n9) n11) n13) n14) n15) n16) n17) n18) n19) n20) n21) n22) n23) (by decide) ?_
  refine f_iconst (pc := 222) cx dX10_count_222 kc_iconst_m1 ?_
  exact f_iret cx hr hlk rfl dX10_count_223
set_option maxRecDepth 4000 in
theorem s_X10_count_28 {p : Program} {l : Launch} {e : Env} {s : State} {m : MethodId} {args : Array Value} {below : List Frame} {meth : Method} {c : Code} {G : GT} (cx : CX p s m args c cX10_count 2 RX10 G) (hr : meth.sig.returnType = (some .int)) (hlk : meth.locks = false) (h : Hp) (o0 : Nat) (x1 : Int32) (hk_o0 : kd o0 = 9) : PF p l e (rmc 2 44) s m args below meth c 2 G 0 0 (QI below G args s) 28 [some (.ref (gad G o0)), some (.int x1)] [] h (q_X10_count_28 h o0 x1) := by
  unfold q_X10_count_28
  refine f_iload_n (pc := 28) cx dX10_count_28 rfl rfl ?_
  refine f_bipush (pc := 29) cx dX10_count_29 kc_bipush_11 ?_
  refine f_icmp_lt (pc := 31) (tgt := 52) cx dX10_count_31 (by decide) (fun _ => ?_) (fun _ => ?_)
  · exact f_weak (LSb.s (LSb.s LSb.e)) (s_X10_count_52 cx hr hlk _ o0 x1 hk_o0)
  · refine f_iload_n (pc := 34) cx dX10_count_34 rfl rfl ?_
    refine f_bipush (pc := 35) cx dX10_count_35 kc_bipush_15 ?_
    refine f_icmp_gt (pc := 37) (tgt := 52) cx dX10_count_37 (by decide) (fun _ => ?_) (fun _ => ?_)
    · exact f_weak (LSb.s (LSb.s LSb.e)) (s_X10_count_52 cx hr hlk _ o0 x1 hk_o0)
    · refine f_aload_n (pc := 40) cx dX10_count_40 rfl rfl ?_
      refine g_X10_30 (pc := 41) cx hk_o0 dX10_count_41 ?_
      refine f_iconst (pc := 44) cx dX10_count_44 kc_iconst_4 ?_
      refine f_iload_n (pc := 45) cx dX10_count_45 rfl rfl ?_
      refine f_iadd (pc := 46) cx dX10_count_46 ?_
      refine f_bipush (pc := 47) cx dX10_count_47 kc_bipush_11 ?_
      refine f_isub (pc := 49) cx dX10_count_49 ?_
      refine f_need (fun c24 => ?_)
      refine f_iald (pc := 50) (n := 3715) cx (kf_9_20 hk_o0) (by decide) c24 dX10_count_50 ?_
      exact f_iret cx hr hlk rfl dX10_count_51
set_option maxRecDepth 4000 in
theorem s_X10_count {p : Program} {l : Launch} {e : Env} {s : State} {m : MethodId} {args : Array Value} {below : List Frame} {meth : Method} {c : Code} {G : GT} (cx : CX p s m args c cX10_count 2 RX10 G) (hr : meth.sig.returnType = (some .int)) (hlk : meth.locks = false) (h : Hp) (o0 : Nat) (x1 : Int32) (hk_o0 : kd o0 = 9) : PF p l e (rmc 2 44) s m args below meth c 2 G 0 0 (QI below G args s) 0 [some (.ref (gad G o0)), some (.int x1)] [] h (p_X10_count h o0 x1) := by
  unfold p_X10_count
  refine f_aload_n (pc := 0) cx dX10_count_0 rfl rfl ?_
  refine f_iconst (pc := 1) cx dX10_count_1 kc_iconst_0 ?_
  refine u_X10_45 (pc := 2) cx hk_o0 dX10_count_2 ?_
  refine f_nvh (fun h25 => ?_)
  refine f_iload_n (pc := 5) cx dX10_count_5 rfl rfl ?_
  refine f_iconst (pc := 6) cx dX10_count_6 kc_iconst_4 ?_
  refine f_icmp_lt (pc := 7) (tgt := 28) cx dX10_count_7 (by decide) (fun _ => ?_) (fun _ => ?_)
  · exact f_weak (LSb.s (LSb.s LSb.e)) (s_X10_count_28 cx hr hlk _ o0 x1 hk_o0)
  · refine f_iload_n (pc := 10) cx dX10_count_10 rfl rfl ?_
    refine f_bipush (pc := 11) cx dX10_count_11 kc_bipush_7 ?_
    refine f_icmp_gt (pc := 13) (tgt := 28) cx dX10_count_13 (by decide) (fun _ => ?_) (fun _ => ?_)
    · exact f_weak (LSb.s (LSb.s LSb.e)) (s_X10_count_28 cx hr hlk _ o0 x1 hk_o0)
    · refine f_aload_n (pc := 16) cx dX10_count_16 rfl rfl ?_
      refine g_X10_30 (pc := 17) cx hk_o0 dX10_count_17 ?_
      refine f_bipush (pc := 20) cx dX10_count_20 kc_bipush_14 ?_
      refine f_iload_n (pc := 22) cx dX10_count_22 rfl rfl ?_
      refine f_iadd (pc := 23) cx dX10_count_23 ?_
      refine f_iconst (pc := 24) cx dX10_count_24 kc_iconst_4 ?_
      refine f_isub (pc := 25) cx dX10_count_25 ?_
      refine f_need (fun c26 => ?_)
      refine f_iald (pc := 26) (n := 3715) cx (kf_9_20 hk_o0) (by decide) c26 dX10_count_26 ?_
      exact f_iret cx hr hlk rfl dX10_count_27
set_option maxRecDepth 4000 in
theorem c_X10_count (l : Launch) (G : GT) (h : Hp) (o0 : Nat) (x1 : Int32) (hk_o0 : kd o0 = 9) : CtI l G yX10_count cX10_count 2 (some .int) 2 44 [.ref (gad G o0), .int x1] h (p_X10_count h o0 x1) := fun a ha => Ct.of (lv := [some (.ref (gad G o0)), some (.int x1)]) (by decide) rfl (Nat.le_of_ble_eq_true rfl) rfl (fun p e s m args below meth c cx hr hlk => s_X10_count cx hr hlk h o0 x1 hk_o0 a ha)
def q_X10_comesIn_228 (h : Hp) (o0 : Nat) (x5 : Int32) (p0 : Nat) (y1 : Int32) (y2 : Int32) : Option (Int32 × Hp) :=
  if ib y1 3715 then (nv (hp h p0 (Int32.toNatClampNeg y1) y2) fun h2 => if (h2 (o0 + 6) 2) ≤ (h2 (o0 + 6) 7) then (some (x5, h2)) else (Option.bind (p_X10_pushes h2 o0) fun r3 => some (x5, r3))) else none
def q_X10_comesIn_53 (h : Hp) (o0 : Nat) (x1 : Int32) (x2 : Int32) (x3 : Int32) (x4 : Int32) (x5 : Int32) (p0 : Nat) (y1 : Int32) (y2 : Int32) (y3 : Int32) : Option (Int32 × Hp) :=
  Option.bind (p_X10_frames h p0 y1 y2 y3) fun r4 => Option.bind (p_X10_frames r4 o0 x5 10 (r4 o0 22)) fun r5 => Option.bind (p_X10_frames r5 o0 x5 11 0) fun r6 => Option.bind (p_X10_frames r6 o0 x5 0 x1) fun r7 => Option.bind (p_X10_frames r7 o0 x5 1 x2) fun r8 => Option.bind (p_X10_frames r8 o0 x5 2 x3) fun r9 => Option.bind (p_X10_frames r9 o0 x5 3 (r9 (o0 + 6) 0)) fun r10 => Option.bind (p_X10_frames r10 o0 x5 4 x4) fun r11 => Option.bind (p_X10_frames r11 o0 x5 7 (-2)) fun r12 => Option.bind (p_X10_of r12 o0 x4 9) fun r13 => Option.bind (p_X10_frames r13.2 o0 x5 8 r13.1) fun r14 => nv (hp r14 (o0 + 6) 1 ((r14 (o0 + 6) 1) + 1)) fun h15 => nv (hp h15 (o0 + 6) 2 ((h15 (o0 + 6) 2) + 1)) fun h16 => Option.bind (p_X10_of h16 o0 x4 12) fun r17 => Option.bind (p_X10_puts r17.2 o0 x4 12 (r17.1 + x2)) fun r18 => if (r18 (o0 + 6) 2) ≤ (r18 (o0 + 6) 3476) then (q_X10_comesIn_228 r18 o0 x5 (o0 + 6) 3476 (r18 (o0 + 6) 3476)) else (q_X10_comesIn_228 r18 o0 x5 (o0 + 6) 3476 (r18 (o0 + 6) 2))
def q_X10_comesIn_24 (h : Hp) (o0 : Nat) (x1 : Int32) (x2 : Int32) (x3 : Int32) (x4 : Int32) : Option (Int32 × Hp) :=
  nv (h (o0 + 6) 1) fun v19 => Option.bind (p_X10_of h o0 x4 0) fun r20 => if r20.1 = x1 then (q_X10_comesIn_53 r20.2 o0 x1 x2 x3 x4 v19 o0 v19 9 0) else (q_X10_comesIn_53 r20.2 o0 x1 x2 x3 x4 v19 o0 v19 9 1)
def p_X10_comesIn (h : Hp) (o0 : Nat) (x1 : Int32) (x2 : Int32) (x3 : Int32) : Option (Int32 × Hp) :=
  Option.bind (p_X10_goesTo h o0 x1) fun r21 => Option.bind (p_X10_of r21.2 o0 r21.1 2) fun r22 => if r22.1 = 0 then (Option.bind (p_X10_opens r22.2 o0 r21.1 x1) fun r23 => q_X10_comesIn_24 r23 o0 x1 x2 x3 r21.1) else (q_X10_comesIn_24 r22.2 o0 x1 x2 x3 r21.1)
set_option maxRecDepth 4000 in
theorem s_X10_comesIn_228 {p : Program} {l : Launch} {e : Env} {s : State} {m : MethodId} {args : Array Value} {below : List Frame} {meth : Method} {c : Code} {G : GT} (cx : CX p s m args c cX10_comesIn 6 RX10 G) (hr : meth.sig.returnType = (some .int)) (hlk : meth.locks = false) (h : Hp) (o0 : Nat) (x5 : Int32) (p0 : Nat) (y1 : Int32) (y2 : Int32) (hk_o0 : kd o0 = 9) (hk_p0 : kd p0 = 13715) : PF p l e (rmc 3 67) s m args below meth c 6 G 0 0 (QI below G args s) 228 [some (.ref (gad G o0)), none, none, none, none, some (.int x5)] [.int y2, .int y1, .ref (gad G p0)] h (q_X10_comesIn_228 h o0 x5 p0 y1 y2) := by
  unfold q_X10_comesIn_228
  refine f_need (fun c1 => ?_)
  refine f_iast (pc := 228) (n := 3715) cx hk_p0 (by decide) c1 dX10_comesIn_228 ?_
  refine f_nvh (fun h2 => ?_)
  refine f_aload_n (pc := 229) cx dX10_comesIn_229 rfl rfl ?_
  refine g_X10_30 (pc := 230) cx hk_o0 dX10_comesIn_230 ?_
  refine f_iconst (pc := 233) cx dX10_comesIn_233 kc_iconst_2 ?_
  refine f_ialdk (pc := 234) (j := 2) (n := 3715) cx (kf_9_20 hk_o0) (by decide) (by decide) kl_2 dX10_comesIn_234 ?_
  refine f_aload_n (pc := 235) cx dX10_comesIn_235 rfl rfl ?_
  refine g_X10_30 (pc := 236) cx hk_o0 dX10_comesIn_236 ?_
  refine f_bipush (pc := 239) cx dX10_comesIn_239 kc_bipush_7 ?_
  refine f_ialdk (pc := 241) (j := 7) (n := 3715) cx (kf_9_20 hk_o0) (by decide) (by decide) kl_7 dX10_comesIn_241 ?_
  refine f_icmp_le (pc := 242) (tgt := 249) cx dX10_comesIn_242 (by decide) (fun _ => ?_) (fun _ => ?_)
  · refine f_iload (pc := 249) cx dX10_comesIn_249 rfl ?_
    exact f_iret cx hr hlk rfl dX10_comesIn_251
  · refine f_aload_n (pc := 245) cx dX10_comesIn_245 rfl rfl ?_
    refine f_bind (fun r3 hr3 => ?_)
    refine k_X10_206 (pc := 246) cx (c_X10_pushes l G _ o0 hk_o0 r3 hr3) hk_o0 ⟨by decide, by decide⟩ ⟨Nat.zero_le _, Nat.zero_le _⟩ (Nat.le_of_ble_eq_true rfl) dX10_comesIn_246 ?_
    refine f_iload (pc := 249) cx dX10_comesIn_249 rfl ?_
    exact f_iret cx hr hlk rfl dX10_comesIn_251
set_option maxRecDepth 4000 in
theorem s_X10_comesIn_53 {p : Program} {l : Launch} {e : Env} {s : State} {m : MethodId} {args : Array Value} {below : List Frame} {meth : Method} {c : Code} {G : GT} (cx : CX p s m args c cX10_comesIn 6 RX10 G) (hr : meth.sig.returnType = (some .int)) (hlk : meth.locks = false) (h : Hp) (o0 : Nat) (x1 : Int32) (x2 : Int32) (x3 : Int32) (x4 : Int32) (x5 : Int32) (p0 : Nat) (y1 : Int32) (y2 : Int32) (y3 : Int32) (hk_o0 : kd o0 = 9) (hk_p0 : kd p0 = 9) : PF p l e (rmc 3 67) s m args below meth c 6 G 0 0 (QI below G args s) 53 [some (.ref (gad G o0)), some (.int x1), some (.int x2), some (.int x3), some (.int x4), some (.int x5)] [.int y3, .int y2, .int y1, .ref (gad G p0)] h (q_X10_comesIn_53 h o0 x1 x2 x3 x4 x5 p0 y1 y2 y3) := by
  unfold q_X10_comesIn_53
  refine f_bind (fun r4 hr4 => ?_)
  refine k_X10_197 (pc := 53) cx (c_X10_frames l G _ p0 y1 y2 y3 hk_p0 r4 hr4) hk_p0 ⟨by decide, by decide⟩ ⟨Nat.zero_le _, Nat.zero_le _⟩ (Nat.le_of_ble_eq_true rfl) dX10_comesIn_53 ?_
  refine f_aload_n (pc := 56) cx dX10_comesIn_56 rfl rfl ?_
  refine f_iload (pc := 57) cx dX10_comesIn_57 rfl ?_
  refine f_bipush (pc := 59) cx dX10_comesIn_59 kc_bipush_10 ?_
  refine f_aload_n (pc := 61) cx dX10_comesIn_61 rfl rfl ?_
  refine g_X10_36 (pc := 62) cx hk_o0 dX10_comesIn_62 ?_
  refine f_bind (fun r5 hr5 => ?_)
  refine k_X10_197 (pc := 65) cx (c_X10_frames l G _ o0 x5 10 (r4 o0 22) hk_o0 r5 hr5) hk_o0 ⟨by decide, by decide⟩ ⟨Nat.zero_le _, Nat.zero_le _⟩ (Nat.le_of_ble_eq_true rfl) dX10_comesIn_65 ?_
  refine f_aload_n (pc := 68) cx dX10_comesIn_68 rfl rfl ?_
  refine f_iload (pc := 69) cx dX10_comesIn_69 rfl ?_
  refine f_bipush (pc := 71) cx dX10_comesIn_71 kc_bipush_11 ?_
  refine f_iconst (pc := 73) cx dX10_comesIn_73 kc_iconst_0 ?_
  refine f_bind (fun r6 hr6 => ?_)
  refine k_X10_197 (pc := 74) cx (c_X10_frames l G _ o0 x5 11 0 hk_o0 r6 hr6) hk_o0 ⟨by decide, by decide⟩ ⟨Nat.zero_le _, Nat.zero_le _⟩ (Nat.le_of_ble_eq_true rfl) dX10_comesIn_74 ?_
  refine f_aload_n (pc := 77) cx dX10_comesIn_77 rfl rfl ?_
  refine f_iload (pc := 78) cx dX10_comesIn_78 rfl ?_
  refine f_iconst (pc := 80) cx dX10_comesIn_80 kc_iconst_0 ?_
  refine f_iload_n (pc := 81) cx dX10_comesIn_81 rfl rfl ?_
  refine f_bind (fun r7 hr7 => ?_)
  refine k_X10_197 (pc := 82) cx (c_X10_frames l G _ o0 x5 0 x1 hk_o0 r7 hr7) hk_o0 ⟨by decide, by decide⟩ ⟨Nat.zero_le _, Nat.zero_le _⟩ (Nat.le_of_ble_eq_true rfl) dX10_comesIn_82 ?_
  refine f_aload_n (pc := 85) cx dX10_comesIn_85 rfl rfl ?_
  refine f_iload (pc := 86) cx dX10_comesIn_86 rfl ?_
  refine f_iconst (pc := 88) cx dX10_comesIn_88 kc_iconst_1 ?_
  refine f_iload_n (pc := 89) cx dX10_comesIn_89 rfl rfl ?_
  refine f_bind (fun r8 hr8 => ?_)
  refine k_X10_197 (pc := 90) cx (c_X10_frames l G _ o0 x5 1 x2 hk_o0 r8 hr8) hk_o0 ⟨by decide, by decide⟩ ⟨Nat.zero_le _, Nat.zero_le _⟩ (Nat.le_of_ble_eq_true rfl) dX10_comesIn_90 ?_
  refine f_aload_n (pc := 93) cx dX10_comesIn_93 rfl rfl ?_
  refine f_iload (pc := 94) cx dX10_comesIn_94 rfl ?_
  refine f_iconst (pc := 96) cx dX10_comesIn_96 kc_iconst_2 ?_
  refine f_iload_n (pc := 97) cx dX10_comesIn_97 rfl rfl ?_
  refine f_bind (fun r9 hr9 => ?_)
  refine k_X10_197 (pc := 98) cx (c_X10_frames l G _ o0 x5 2 x3 hk_o0 r9 hr9) hk_o0 ⟨by decide, by decide⟩ ⟨Nat.zero_le _, Nat.zero_le _⟩ (Nat.le_of_ble_eq_true rfl) dX10_comesIn_98 ?_
  refine f_aload_n (pc := 101) cx dX10_comesIn_101 rfl rfl ?_
  refine f_iload (pc := 102) cx dX10_comesIn_102 rfl ?_
  refine f_iconst (pc := 104) cx dX10_comesIn_104 kc_iconst_3 ?_
  refine f_aload_n (pc := 105) cx dX10_comesIn_105 rfl rfl ?_
  refine g_X10_30 (pc := 106) cx hk_o0 dX10_comesIn_106 ?_
  refine f_iconst (pc := 109) cx dX10_comesIn_109 kc_iconst_0 ?_
  refine f_ialdk (pc := 110) (j := 0) (n := 3715) cx (kf_9_20 hk_o0) (by decide) (by decide) kl_0 dX10_comesIn_110 ?_
  refine f_bind (fun r10 hr10 => ?_)
  refine k_X10_197 (pc := 111) cx (c_X10_frames l G _ o0 x5 3 (r9 (o0 + 6) 0) hk_o0 r10 hr10) hk_o0 ⟨by decide, by decide⟩ ⟨Nat.zero_le _, Nat.zero_le _⟩ (Nat.le_of_ble_eq_true rfl) dX10_comesIn_111 ?_
  refine f_aload_n (pc := 114) cx dX10_comesIn_114 rfl rfl ?_
  refine f_iload (pc := 115) cx dX10_comesIn_115 rfl ?_
  refine f_iconst (pc := 117) cx dX10_comesIn_117 kc_iconst_4 ?_
  refine f_iload (pc := 118) cx dX10_comesIn_118 rfl ?_
  refine f_bind (fun r11 hr11 => ?_)
  refine k_X10_197 (pc := 120) cx (c_X10_frames l G _ o0 x5 4 x4 hk_o0 r11 hr11) hk_o0 ⟨by decide, by decide⟩ ⟨Nat.zero_le _, Nat.zero_le _⟩ (Nat.le_of_ble_eq_true rfl) dX10_comesIn_120 ?_
  refine f_aload_n (pc := 123) cx dX10_comesIn_123 rfl rfl ?_
  refine f_iload (pc := 124) cx dX10_comesIn_124 rfl ?_
  refine f_bipush (pc := 126) cx dX10_comesIn_126 kc_bipush_7 ?_
  refine f_bipush (pc := 128) cx dX10_comesIn_128 kc_bipush_m2 ?_
  refine f_bind (fun r12 hr12 => ?_)
  refine k_X10_197 (pc := 130) cx (c_X10_frames l G _ o0 x5 7 (-2) hk_o0 r12 hr12) hk_o0 ⟨by decide, by decide⟩ ⟨Nat.zero_le _, Nat.zero_le _⟩ (Nat.le_of_ble_eq_true rfl) dX10_comesIn_130 ?_
  refine f_aload_n (pc := 133) cx dX10_comesIn_133 rfl rfl ?_
  refine f_iload (pc := 134) cx dX10_comesIn_134 rfl ?_
  refine f_bipush (pc := 136) cx dX10_comesIn_136 kc_bipush_8 ?_
  refine f_aload_n (pc := 138) cx dX10_comesIn_138 rfl rfl ?_
  refine f_iload (pc := 139) cx dX10_comesIn_139 rfl ?_
  refine f_bipush (pc := 141) cx dX10_comesIn_141 kc_bipush_9 ?_
  refine f_bind (fun r13 hr13 => ?_)
  refine k_X10_184 (pc := 143) cx (c_X10_of l G _ o0 x4 9 hk_o0 r13 hr13) hk_o0 ⟨by decide, by decide⟩ ⟨Nat.zero_le _, Nat.zero_le _⟩ (Nat.le_of_ble_eq_true rfl) dX10_comesIn_143 ?_
  refine f_bind (fun r14 hr14 => ?_)
  refine k_X10_197 (pc := 146) cx (c_X10_frames l G _ o0 x5 8 r13.1 hk_o0 r14 hr14) hk_o0 ⟨by decide, by decide⟩ ⟨Nat.zero_le _, Nat.zero_le _⟩ (Nat.le_of_ble_eq_true rfl) dX10_comesIn_146 ?_
  refine f_aload_n (pc := 149) cx dX10_comesIn_149 rfl rfl ?_
  refine g_X10_30 (pc := 150) cx hk_o0 dX10_comesIn_150 ?_
  refine f_iconst (pc := 153) cx dX10_comesIn_153 kc_iconst_1 ?_
  refine f_dup2 (pc := 154) cx dX10_comesIn_154 rfl rfl ?_
  refine f_ialdk (pc := 155) (j := 1) (n := 3715) cx (kf_9_20 hk_o0) (by decide) (by decide) kl_1 dX10_comesIn_155 ?_
  refine f_iconst (pc := 156) cx dX10_comesIn_156 kc_iconst_1 ?_
  refine f_iadd (pc := 157) cx dX10_comesIn_157 ?_
  refine f_iastk (pc := 158) (j := 1) (n := 3715) cx (kf_9_20 hk_o0) (by decide) (by decide) kl_1 dX10_comesIn_158 ?_
  refine f_nvh (fun h15 => ?_)
  refine f_aload_n (pc := 159) cx dX10_comesIn_159 rfl rfl ?_
  refine g_X10_30 (pc := 160) cx hk_o0 dX10_comesIn_160 ?_
  refine f_iconst (pc := 163) cx dX10_comesIn_163 kc_iconst_2 ?_
  refine f_dup2 (pc := 164) cx dX10_comesIn_164 rfl rfl ?_
  refine f_ialdk (pc := 165) (j := 2) (n := 3715) cx (kf_9_20 hk_o0) (by decide) (by decide) kl_2 dX10_comesIn_165 ?_
  refine f_iconst (pc := 166) cx dX10_comesIn_166 kc_iconst_1 ?_
  refine f_iadd (pc := 167) cx dX10_comesIn_167 ?_
  refine f_iastk (pc := 168) (j := 2) (n := 3715) cx (kf_9_20 hk_o0) (by decide) (by decide) kl_2 dX10_comesIn_168 ?_
  refine f_nvh (fun h16 => ?_)
  refine f_aload_n (pc := 169) cx dX10_comesIn_169 rfl rfl ?_
  refine f_iload (pc := 170) cx dX10_comesIn_170 rfl ?_
  refine f_bipush (pc := 172) cx dX10_comesIn_172 kc_bipush_12 ?_
  refine f_aload_n (pc := 174) cx dX10_comesIn_174 rfl rfl ?_
  refine f_iload (pc := 175) cx dX10_comesIn_175 rfl ?_
  refine f_bipush (pc := 177) cx dX10_comesIn_177 kc_bipush_12 ?_
  refine f_bind (fun r17 hr17 => ?_)
  refine k_X10_184 (pc := 179) cx (c_X10_of l G _ o0 x4 12 hk_o0 r17 hr17) hk_o0 ⟨by decide, by decide⟩ ⟨Nat.zero_le _, Nat.zero_le _⟩ (Nat.le_of_ble_eq_true rfl) dX10_comesIn_179 ?_
  refine f_iload_n (pc := 182) cx dX10_comesIn_182 rfl rfl ?_
  refine f_iadd (pc := 183) cx dX10_comesIn_183 ?_
  refine f_bind (fun r18 hr18 => ?_)
  refine k_X10_165 (pc := 184) cx (c_X10_puts l G _ o0 x4 12 (r17.1 + x2) hk_o0 r18 hr18) hk_o0 ⟨by decide, by decide⟩ ⟨Nat.zero_le _, Nat.zero_le _⟩ (Nat.le_of_ble_eq_true rfl) dX10_comesIn_184 ?_
  refine f_aload_n (pc := 187) cx dX10_comesIn_187 rfl rfl ?_
  refine g_X10_30 (pc := 188) cx hk_o0 dX10_comesIn_188 ?_
  refine f_sipush (pc := 191) cx dX10_comesIn_191 kc_sipush_3476 ?_
  refine f_aload_n (pc := 194) cx dX10_comesIn_194 rfl rfl ?_
  refine g_X10_30 (pc := 195) cx hk_o0 dX10_comesIn_195 ?_
  refine f_iconst (pc := 198) cx dX10_comesIn_198 kc_iconst_2 ?_
  refine f_ialdk (pc := 199) (j := 2) (n := 3715) cx (kf_9_20 hk_o0) (by decide) (by decide) kl_2 dX10_comesIn_199 ?_
  refine f_aload_n (pc := 200) cx dX10_comesIn_200 rfl rfl ?_
  refine g_X10_30 (pc := 201) cx hk_o0 dX10_comesIn_201 ?_
  refine f_sipush (pc := 204) cx dX10_comesIn_204 kc_sipush_3476 ?_
  refine f_ialdk (pc := 207) (j := 3476) (n := 3715) cx (kf_9_20 hk_o0) (by decide) (by decide) kl_3476 dX10_comesIn_207 ?_
  refine f_icmp_le (pc := 208) (tgt := 220) cx dX10_comesIn_208 (by decide) (fun _ => ?_) (fun _ => ?_)
  · refine f_aload_n (pc := 220) cx dX10_comesIn_220 rfl rfl ?_
    refine g_X10_30 (pc := 221) cx hk_o0 dX10_comesIn_221 ?_
    refine f_sipush (pc := 224) cx dX10_comesIn_224 kc_sipush_3476 ?_
    refine f_ialdk (pc := 227) (j := 3476) (n := 3715) cx (kf_9_20 hk_o0) (by decide) (by decide) kl_3476 dX10_comesIn_227 ?_
    exact f_weak (LSb.s (LSb.n (LSb.n (LSb.n (LSb.n (LSb.s LSb.e)))))) (s_X10_comesIn_228 cx hr hlk _ o0 x5 (o0 + 6) 3476 (r18 (o0 + 6) 3476) hk_o0 (kf_9_20 hk_o0))
  · refine f_aload_n (pc := 211) cx dX10_comesIn_211 rfl rfl ?_
    refine g_X10_30 (pc := 212) cx hk_o0 dX10_comesIn_212 ?_
    refine f_iconst (pc := 215) cx dX10_comesIn_215 kc_iconst_2 ?_
    refine f_ialdk (pc := 216) (j := 2) (n := 3715) cx (kf_9_20 hk_o0) (by decide) (by decide) kl_2 dX10_comesIn_216 ?_
    refine f_goto (pc := 217) (tgt := 228) cx dX10_comesIn_217 (by decide) ?_
    exact f_weak (LSb.s (LSb.n (LSb.n (LSb.n (LSb.n (LSb.s LSb.e)))))) (s_X10_comesIn_228 cx hr hlk _ o0 x5 (o0 + 6) 3476 (r18 (o0 + 6) 2) hk_o0 (kf_9_20 hk_o0))
set_option maxRecDepth 4000 in
theorem s_X10_comesIn_24 {p : Program} {l : Launch} {e : Env} {s : State} {m : MethodId} {args : Array Value} {below : List Frame} {meth : Method} {c : Code} {G : GT} (cx : CX p s m args c cX10_comesIn 6 RX10 G) (hr : meth.sig.returnType = (some .int)) (hlk : meth.locks = false) (h : Hp) (o0 : Nat) (x1 : Int32) (x2 : Int32) (x3 : Int32) (x4 : Int32) (hk_o0 : kd o0 = 9) : PF p l e (rmc 3 67) s m args below meth c 6 G 0 0 (QI below G args s) 24 [some (.ref (gad G o0)), some (.int x1), some (.int x2), some (.int x3), some (.int x4), none] [] h (q_X10_comesIn_24 h o0 x1 x2 x3 x4) := by
  unfold q_X10_comesIn_24
  refine f_aload_n (pc := 24) cx dX10_comesIn_24 rfl rfl ?_
  refine g_X10_30 (pc := 25) cx hk_o0 dX10_comesIn_25 ?_
  refine f_iconst (pc := 28) cx dX10_comesIn_28 kc_iconst_1 ?_
  refine f_ialdk (pc := 29) (j := 1) (n := 3715) cx (kf_9_20 hk_o0) (by decide) (by decide) kl_1 dX10_comesIn_29 ?_
  refine f_nvi (fun v19 => ?_)
  refine f_istore5 (pc := 30) cx dX10_comesIn_30 (by decide) rfl ?_
  refine f_aload_n (pc := 32) cx dX10_comesIn_32 rfl rfl ?_
  refine f_iload (pc := 33) cx dX10_comesIn_33 rfl ?_
  refine f_bipush (pc := 35) cx dX10_comesIn_35 kc_bipush_9 ?_
  refine f_aload_n (pc := 37) cx dX10_comesIn_37 rfl rfl ?_
  refine f_iload (pc := 38) cx dX10_comesIn_38 rfl ?_
  refine f_iconst (pc := 40) cx dX10_comesIn_40 kc_iconst_0 ?_
  refine f_bind (fun r20 hr20 => ?_)
  refine k_X10_184 (pc := 41) cx (c_X10_of l G _ o0 x4 0 hk_o0 r20 hr20) hk_o0 ⟨by decide, by decide⟩ ⟨Nat.zero_le _, Nat.zero_le _⟩ (Nat.le_of_ble_eq_true rfl) dX10_comesIn_41 ?_
  refine f_iload_n (pc := 44) cx dX10_comesIn_44 rfl rfl ?_
  refine f_icmp_ne (pc := 45) (tgt := 52) cx dX10_comesIn_45 (by decide) (fun _ => ?_) (fun _ => ?_)
  · refine f_iconst (pc := 48) cx dX10_comesIn_48 kc_iconst_0 ?_
    refine f_goto (pc := 49) (tgt := 53) cx dX10_comesIn_49 (by decide) ?_
    exact f_weak (LSb.s (LSb.s (LSb.s (LSb.s (LSb.s (LSb.s LSb.e)))))) (s_X10_comesIn_53 cx hr hlk _ o0 x1 x2 x3 x4 v19 o0 v19 9 0 hk_o0 hk_o0)
  · refine f_iconst (pc := 52) cx dX10_comesIn_52 kc_iconst_1 ?_
    exact f_weak (LSb.s (LSb.s (LSb.s (LSb.s (LSb.s (LSb.s LSb.e)))))) (s_X10_comesIn_53 cx hr hlk _ o0 x1 x2 x3 x4 v19 o0 v19 9 1 hk_o0 hk_o0)
set_option maxRecDepth 4000 in
theorem s_X10_comesIn {p : Program} {l : Launch} {e : Env} {s : State} {m : MethodId} {args : Array Value} {below : List Frame} {meth : Method} {c : Code} {G : GT} (cx : CX p s m args c cX10_comesIn 6 RX10 G) (hr : meth.sig.returnType = (some .int)) (hlk : meth.locks = false) (h : Hp) (o0 : Nat) (x1 : Int32) (x2 : Int32) (x3 : Int32) (hk_o0 : kd o0 = 9) : PF p l e (rmc 3 67) s m args below meth c 6 G 0 0 (QI below G args s) 0 [some (.ref (gad G o0)), some (.int x1), some (.int x2), some (.int x3), none, none] [] h (p_X10_comesIn h o0 x1 x2 x3) := by
  unfold p_X10_comesIn
  refine f_aload_n (pc := 0) cx dX10_comesIn_0 rfl rfl ?_
  refine f_iload_n (pc := 1) cx dX10_comesIn_1 rfl rfl ?_
  refine f_bind (fun r21 hr21 => ?_)
  refine k_X10_200 (pc := 2) cx (c_X10_goesTo l G _ o0 x1 hk_o0 r21 hr21) hk_o0 ⟨by decide, by decide⟩ ⟨Nat.zero_le _, Nat.zero_le _⟩ (Nat.le_of_ble_eq_true rfl) dX10_comesIn_2 ?_
  refine f_istore4 (pc := 5) cx dX10_comesIn_5 (by decide) rfl ?_
  refine f_aload_n (pc := 7) cx dX10_comesIn_7 rfl rfl ?_
  refine f_iload (pc := 8) cx dX10_comesIn_8 rfl ?_
  refine f_iconst (pc := 10) cx dX10_comesIn_10 kc_iconst_2 ?_
  refine f_bind (fun r22 hr22 => ?_)
  refine k_X10_184 (pc := 11) cx (c_X10_of l G _ o0 r21.1 2 hk_o0 r22 hr22) hk_o0 ⟨by decide, by decide⟩ ⟨Nat.zero_le _, Nat.zero_le _⟩ (Nat.le_of_ble_eq_true rfl) dX10_comesIn_11 ?_
  refine f_if_ne (pc := 14) (tgt := 24) cx dX10_comesIn_14 (by decide) (fun _ => ?_) (fun _ => ?_)
  · refine f_aload_n (pc := 17) cx dX10_comesIn_17 rfl rfl ?_
    refine f_iload (pc := 18) cx dX10_comesIn_18 rfl ?_
    refine f_iload_n (pc := 20) cx dX10_comesIn_20 rfl rfl ?_
    refine f_bind (fun r23 hr23 => ?_)
    refine k_X10_203 (pc := 21) cx (c_X10_opens l G _ o0 r21.1 x1 hk_o0 r23 hr23) hk_o0 ⟨by decide, by decide⟩ ⟨Nat.zero_le _, Nat.zero_le _⟩ (Nat.le_of_ble_eq_true rfl) dX10_comesIn_21 ?_
    exact f_weak (LSb.s (LSb.s (LSb.s (LSb.s (LSb.s (LSb.n LSb.e)))))) (s_X10_comesIn_24 cx hr hlk _ o0 x1 x2 x3 r21.1 hk_o0)
  · exact f_weak (LSb.s (LSb.s (LSb.s (LSb.s (LSb.s (LSb.n LSb.e)))))) (s_X10_comesIn_24 cx hr hlk _ o0 x1 x2 x3 r21.1 hk_o0)
set_option maxRecDepth 4000 in
theorem c_X10_comesIn (l : Launch) (G : GT) (h : Hp) (o0 : Nat) (x1 : Int32) (x2 : Int32) (x3 : Int32) (hk_o0 : kd o0 = 9) : CtI l G yX10_comesIn cX10_comesIn 6 (some .int) 3 67 [.ref (gad G o0), .int x1, .int x2, .int x3] h (p_X10_comesIn h o0 x1 x2 x3) := fun a ha => Ct.of (lv := [some (.ref (gad G o0)), some (.int x1), some (.int x2), some (.int x3), none, none]) (by decide) rfl (Nat.le_of_ble_eq_true rfl) rfl (fun p e s m args below meth c cx hr hlk => s_X10_comesIn cx hr hlk h o0 x1 x2 x3 hk_o0 a ha)
def q_X10_dropsOn_57 (k2 : Hp × Int32 → Option (Int32 × Hp)) (h : Hp) (o0 : Nat) (x1 : Int32) (x3 : Int32) (p0 : Nat) (y1 : Int32) (y2 : Int32) (y3 : Int32) : Option (Int32 × Hp) :=
  Option.bind (p_X10_puts h p0 y1 y2 y3) fun r1 => Option.bind (p_X10_steps r1 o0 x1) fun r2 => Option.bind (p_X10_frameOf r2 o0 x3 2) fun r3 => if r3.1 = 1 then (Option.bind (p_X10_marks r3.2 o0 x3) fun r4 => Option.bind (p_X10_of r4 o0 x1 6) fun r5 => Option.bind (p_X10_law r5.2 o0 x1 r5.1) fun r6 => Option.bind (p_X10_puts r6.2 o0 x1 6 r6.1) fun r7 => some (x3, r7)) else (Option.bind (p_X10_drops r3.2 o0 x3) fun r8 => Option.bind (p_X10_takes r8 o0 x1) fun r9 => Option.bind (p_X10_of r9.2 o0 x1 11) fun r10 => if r10.1 = 0 then (Option.bind (p_X10_puts r10.2 o0 x1 5 0) fun r11 => k2 (r11, r9.1)) else (Option.bind (p_X10_of r10.2 o0 x1 6) fun r12 => Option.bind (p_X10_law r12.2 o0 x1 r12.1) fun r13 => Option.bind (p_X10_puts r13.2 o0 x1 6 r13.1) fun r14 => k2 (r14, r9.1)))
def b_X10_dropsOn_2 (o0 : Nat) (x1 : Int32) (k2 : Hp × Int32 → Option (Int32 × Hp)) (q : Hp × Int32) : Option (Int32 × Hp) :=
  Option.bind (p_X10_of q.1 o0 x1 5) fun r15 => if r15.1 = 1 then (Option.bind (p_X10_of r15.2 o0 x1 6) fun r16 => if (r15.2 (o0 + 6) 0) < r16.1 then (some (q.2, r16.2)) else (Option.bind (p_X10_of r16.2 o0 x1 3) fun r17 => if 999 ≤ r17.1 then (q_X10_dropsOn_57 k2 r17.2 o0 x1 q.2 o0 x1 3 999) else (Option.bind (p_X10_of r17.2 o0 x1 3) fun r18 => q_X10_dropsOn_57 k2 r18.2 o0 x1 q.2 o0 x1 3 (r18.1 + 1)))) else (some (q.2, r15.2))
def p_X10_dropsOn (h : Hp) (o0 : Nat) (x1 : Int32) (x2 : Int32) : Option (Int32 × Hp) :=
  lp (b_X10_dropsOn_2 o0 x1) FU (h, x2)
set_option maxRecDepth 4000 in
theorem s_X10_dropsOn_57 {p : Program} {l : Launch} {e : Env} {s : State} {m : MethodId} {args : Array Value} {below : List Frame} {meth : Method} {c : Code} {G : GT} (cx : CX p s m args c cX10_dropsOn 4 RX10 G) (hr : meth.sig.returnType = (some .int)) (hlk : meth.locks = false) (h : Hp) (o0 : Nat) (x1 : Int32) (x3 : Int32) (p0 : Nat) (y1 : Int32) (y2 : Int32) (y3 : Int32) (hk_o0 : kd o0 = 9) (hk_p0 : kd p0 = 9) (k2 : Hp × Int32 → Option (Int32 × Hp)) (hk2 : ∀ (q : Hp × Int32), PF p l e (rmc 3 67) s m args below meth c 4 G 0 0 (QI below G args s) 2 [some (.ref (gad G o0)), some (.int x1), none, some (.int q.2)] [] q.1 (k2 q)) : PF p l e (rmc 3 67) s m args below meth c 4 G 0 0 (QI below G args s) 57 [some (.ref (gad G o0)), some (.int x1), none, some (.int x3)] [.int y3, .int y2, .int y1, .ref (gad G p0)] h (q_X10_dropsOn_57 k2 h o0 x1 x3 p0 y1 y2 y3) := by
  unfold q_X10_dropsOn_57
  refine f_bind (fun r1 hr1 => ?_)
  refine k_X10_165 (pc := 57) cx (c_X10_puts l G _ p0 y1 y2 y3 hk_p0 r1 hr1) hk_p0 ⟨by decide, by decide⟩ ⟨Nat.zero_le _, Nat.zero_le _⟩ (Nat.le_of_ble_eq_true rfl) dX10_dropsOn_57 ?_
  refine f_aload_n (pc := 60) cx dX10_dropsOn_60 rfl rfl ?_
  refine f_iload_n (pc := 61) cx dX10_dropsOn_61 rfl rfl ?_
  refine f_bind (fun r2 hr2 => ?_)
  refine k_X10_242 (pc := 62) cx (c_X10_steps l G _ o0 x1 hk_o0 r2 hr2) hk_o0 ⟨by decide, by decide⟩ ⟨Nat.zero_le _, Nat.zero_le _⟩ (Nat.le_of_ble_eq_true rfl) dX10_dropsOn_62 ?_
  refine f_aload_n (pc := 65) cx dX10_dropsOn_65 rfl rfl ?_
  refine f_iload_n (pc := 66) cx dX10_dropsOn_66 rfl rfl ?_
  refine f_iconst (pc := 67) cx dX10_dropsOn_67 kc_iconst_2 ?_
  refine f_bind (fun r3 hr3 => ?_)
  refine k_X10_194 (pc := 68) cx (c_X10_frameOf l G _ o0 x3 2 hk_o0 r3 hr3) hk_o0 ⟨by decide, by decide⟩ ⟨Nat.zero_le _, Nat.zero_le _⟩ (Nat.le_of_ble_eq_true rfl) dX10_dropsOn_68 ?_
  refine f_iconst (pc := 71) cx dX10_dropsOn_71 kc_iconst_1 ?_
  refine f_icmp_ne (pc := 72) (tgt := 101) cx dX10_dropsOn_72 (by decide) (fun _ => ?_) (fun _ => ?_)
  · refine f_aload_n (pc := 75) cx dX10_dropsOn_75 rfl rfl ?_
    refine f_iload_n (pc := 76) cx dX10_dropsOn_76 rfl rfl ?_
    refine f_bind (fun r4 hr4 => ?_)
    refine k_X10_245 (pc := 77) cx (c_X10_marks l G _ o0 x3 hk_o0 r4 hr4) hk_o0 ⟨by decide, by decide⟩ ⟨Nat.zero_le _, Nat.zero_le _⟩ (Nat.le_of_ble_eq_true rfl) dX10_dropsOn_77 ?_
    refine f_aload_n (pc := 80) cx dX10_dropsOn_80 rfl rfl ?_
    refine f_iload_n (pc := 81) cx dX10_dropsOn_81 rfl rfl ?_
    refine f_bipush (pc := 82) cx dX10_dropsOn_82 kc_bipush_6 ?_
    refine f_aload_n (pc := 84) cx dX10_dropsOn_84 rfl rfl ?_
    refine f_iload_n (pc := 85) cx dX10_dropsOn_85 rfl rfl ?_
    refine f_aload_n (pc := 86) cx dX10_dropsOn_86 rfl rfl ?_
    refine f_iload_n (pc := 87) cx dX10_dropsOn_87 rfl rfl ?_
    refine f_bipush (pc := 88) cx dX10_dropsOn_88 kc_bipush_6 ?_
    refine f_bind (fun r5 hr5 => ?_)
    refine k_X10_184 (pc := 90) cx (c_X10_of l G _ o0 x1 6 hk_o0 r5 hr5) hk_o0 ⟨by decide, by decide⟩ ⟨Nat.zero_le _, Nat.zero_le _⟩ (Nat.le_of_ble_eq_true rfl) dX10_dropsOn_90 ?_
    refine f_bind (fun r6 hr6 => ?_)
    refine k_X10_248 (pc := 93) cx (c_X10_law l G _ o0 x1 r5.1 hk_o0 r6 hr6) hk_o0 ⟨by decide, by decide⟩ ⟨Nat.zero_le _, Nat.zero_le _⟩ (Nat.le_of_ble_eq_true rfl) dX10_dropsOn_93 ?_
    refine f_bind (fun r7 hr7 => ?_)
    refine k_X10_165 (pc := 96) cx (c_X10_puts l G _ o0 x1 6 r6.1 hk_o0 r7 hr7) hk_o0 ⟨by decide, by decide⟩ ⟨Nat.zero_le _, Nat.zero_le _⟩ (Nat.le_of_ble_eq_true rfl) dX10_dropsOn_96 ?_
    refine f_iload_n (pc := 99) cx dX10_dropsOn_99 rfl rfl ?_
    exact f_iret cx hr hlk rfl dX10_dropsOn_100
  · refine f_aload_n (pc := 101) cx dX10_dropsOn_101 rfl rfl ?_
    refine f_iload_n (pc := 102) cx dX10_dropsOn_102 rfl rfl ?_
    refine f_bind (fun r8 hr8 => ?_)
    refine k_X10_251 (pc := 103) cx (c_X10_drops l G _ o0 x3 hk_o0 r8 hr8) hk_o0 ⟨by decide, by decide⟩ ⟨Nat.zero_le _, Nat.zero_le _⟩ (Nat.le_of_ble_eq_true rfl) dX10_dropsOn_103 ?_
    refine f_aload_n (pc := 106) cx dX10_dropsOn_106 rfl rfl ?_
    refine f_iload_n (pc := 107) cx dX10_dropsOn_107 rfl rfl ?_
    refine f_bind (fun r9 hr9 => ?_)
    refine k_X10_254 (pc := 108) cx (c_X10_takes l G _ o0 x1 hk_o0 r9 hr9) hk_o0 ⟨by decide, by decide⟩ ⟨Nat.zero_le _, Nat.zero_le _⟩ (Nat.le_of_ble_eq_true rfl) dX10_dropsOn_108 ?_
    refine f_istore3 (pc := 111) cx dX10_dropsOn_111 (by decide) rfl ?_
    refine f_aload_n (pc := 112) cx dX10_dropsOn_112 rfl rfl ?_
    refine f_iload_n (pc := 113) cx dX10_dropsOn_113 rfl rfl ?_
    refine f_bipush (pc := 114) cx dX10_dropsOn_114 kc_bipush_11 ?_
    refine f_bind (fun r10 hr10 => ?_)
    refine k_X10_184 (pc := 116) cx (c_X10_of l G _ o0 x1 11 hk_o0 r10 hr10) hk_o0 ⟨by decide, by decide⟩ ⟨Nat.zero_le _, Nat.zero_le _⟩ (Nat.le_of_ble_eq_true rfl) dX10_dropsOn_116 ?_
    refine f_if_ne (pc := 119) (tgt := 132) cx dX10_dropsOn_119 (by decide) (fun _ => ?_) (fun _ => ?_)
    · refine f_aload_n (pc := 122) cx dX10_dropsOn_122 rfl rfl ?_
      refine f_iload_n (pc := 123) cx dX10_dropsOn_123 rfl rfl ?_
      refine f_iconst (pc := 124) cx dX10_dropsOn_124 kc_iconst_5 ?_
      refine f_iconst (pc := 125) cx dX10_dropsOn_125 kc_iconst_0 ?_
      refine f_bind (fun r11 hr11 => ?_)
      refine k_X10_165 (pc := 126) cx (c_X10_puts l G _ o0 x1 5 0 hk_o0 r11 hr11) hk_o0 ⟨by decide, by decide⟩ ⟨Nat.zero_le _, Nat.zero_le _⟩ (Nat.le_of_ble_eq_true rfl) dX10_dropsOn_126 ?_
      refine f_goto (pc := 129) (tgt := 2) cx dX10_dropsOn_129 (by decide) ?_
      exact f_weak (LSb.s (LSb.s (LSb.n (LSb.s LSb.e)))) (hk2 (r11, r9.1))
    · refine f_aload_n (pc := 132) cx dX10_dropsOn_132 rfl rfl ?_
      refine f_iload_n (pc := 133) cx dX10_dropsOn_133 rfl rfl ?_
      refine f_bipush (pc := 134) cx dX10_dropsOn_134 kc_bipush_6 ?_
      refine f_aload_n (pc := 136) cx dX10_dropsOn_136 rfl rfl ?_
      refine f_iload_n (pc := 137) cx dX10_dropsOn_137 rfl rfl ?_
      refine f_aload_n (pc := 138) cx dX10_dropsOn_138 rfl rfl ?_
      refine f_iload_n (pc := 139) cx dX10_dropsOn_139 rfl rfl ?_
      refine f_bipush (pc := 140) cx dX10_dropsOn_140 kc_bipush_6 ?_
      refine f_bind (fun r12 hr12 => ?_)
      refine k_X10_184 (pc := 142) cx (c_X10_of l G _ o0 x1 6 hk_o0 r12 hr12) hk_o0 ⟨by decide, by decide⟩ ⟨Nat.zero_le _, Nat.zero_le _⟩ (Nat.le_of_ble_eq_true rfl) dX10_dropsOn_142 ?_
      refine f_bind (fun r13 hr13 => ?_)
      refine k_X10_248 (pc := 145) cx (c_X10_law l G _ o0 x1 r12.1 hk_o0 r13 hr13) hk_o0 ⟨by decide, by decide⟩ ⟨Nat.zero_le _, Nat.zero_le _⟩ (Nat.le_of_ble_eq_true rfl) dX10_dropsOn_145 ?_
      refine f_bind (fun r14 hr14 => ?_)
      refine k_X10_165 (pc := 148) cx (c_X10_puts l G _ o0 x1 6 r13.1 hk_o0 r14 hr14) hk_o0 ⟨by decide, by decide⟩ ⟨Nat.zero_le _, Nat.zero_le _⟩ (Nat.le_of_ble_eq_true rfl) dX10_dropsOn_148 ?_
      refine f_goto (pc := 151) (tgt := 2) cx dX10_dropsOn_151 (by decide) ?_
      exact f_weak (LSb.s (LSb.s (LSb.n (LSb.s LSb.e)))) (hk2 (r14, r9.1))
set_option maxRecDepth 4000 in
theorem s_X10_dropsOn_2 {p : Program} {l : Launch} {e : Env} {s : State} {m : MethodId} {args : Array Value} {below : List Frame} {meth : Method} {c : Code} {G : GT} (cx : CX p s m args c cX10_dropsOn 4 RX10 G) (hr : meth.sig.returnType = (some .int)) (hlk : meth.locks = false) (o0 : Nat) (x1 : Int32) (hk_o0 : kd o0 = 9) : ∀ (n : Nat) (q : Hp × Int32), PF p l e (rmc 3 67) s m args below meth c 4 G 0 0 (QI below G args s) 2 [some (.ref (gad G o0)), some (.int x1), none, some (.int q.2)] [] q.1 (lp (b_X10_dropsOn_2 o0 x1) n q) := by
  refine f_lp (lvf := fun (q : Hp × Int32) => [some (.ref (gad G o0)), some (.int x1), none, some (.int q.2)]) (hf := fun (q : Hp × Int32) => q.1) (fun k2 hk2 q => ?_)
  show PF p l e (rmc 3 67) s m args below meth c 4 G 0 0 (QI below G args s) 2 [some (.ref (gad G o0)), some (.int x1), none, some (.int q.2)] [] q.1 (b_X10_dropsOn_2 o0 x1 k2 q)
  unfold b_X10_dropsOn_2
  refine f_aload_n (pc := 2) cx dX10_dropsOn_2 rfl rfl ?_
  refine f_iload_n (pc := 3) cx dX10_dropsOn_3 rfl rfl ?_
  refine f_iconst (pc := 4) cx dX10_dropsOn_4 kc_iconst_5 ?_
  refine f_bind (fun r15 hr15 => ?_)
  refine k_X10_184 (pc := 5) cx (c_X10_of l G _ o0 x1 5 hk_o0 r15 hr15) hk_o0 ⟨by decide, by decide⟩ ⟨Nat.zero_le _, Nat.zero_le _⟩ (Nat.le_of_ble_eq_true rfl) dX10_dropsOn_5 ?_
  refine f_iconst (pc := 8) cx dX10_dropsOn_8 kc_iconst_1 ?_
  refine f_icmp_ne (pc := 9) (tgt := 154) cx dX10_dropsOn_9 (by decide) (fun _ => ?_) (fun _ => ?_)
  · refine f_aload_n (pc := 12) cx dX10_dropsOn_12 rfl rfl ?_
    refine g_X10_30 (pc := 13) cx hk_o0 dX10_dropsOn_13 ?_
    refine f_iconst (pc := 16) cx dX10_dropsOn_16 kc_iconst_0 ?_
    refine f_ialdk (pc := 17) (j := 0) (n := 3715) cx (kf_9_20 hk_o0) (by decide) (by decide) kl_0 dX10_dropsOn_17 ?_
    refine f_aload_n (pc := 18) cx dX10_dropsOn_18 rfl rfl ?_
    refine f_iload_n (pc := 19) cx dX10_dropsOn_19 rfl rfl ?_
    refine f_bipush (pc := 20) cx dX10_dropsOn_20 kc_bipush_6 ?_
    refine f_bind (fun r16 hr16 => ?_)
    refine k_X10_184 (pc := 22) cx (c_X10_of l G _ o0 x1 6 hk_o0 r16 hr16) hk_o0 ⟨by decide, by decide⟩ ⟨Nat.zero_le _, Nat.zero_le _⟩ (Nat.le_of_ble_eq_true rfl) dX10_dropsOn_22 ?_
    refine f_icmp_lt (pc := 25) (tgt := 154) cx dX10_dropsOn_25 (by decide) (fun _ => ?_) (fun _ => ?_)
    · refine f_iload_n (pc := 154) cx dX10_dropsOn_154 rfl rfl ?_
      exact f_iret cx hr hlk rfl dX10_dropsOn_155
    · refine f_aload_n (pc := 28) cx dX10_dropsOn_28 rfl rfl ?_
      refine f_iload_n (pc := 29) cx dX10_dropsOn_29 rfl rfl ?_
      refine f_iconst (pc := 30) cx dX10_dropsOn_30 kc_iconst_3 ?_
      refine f_aload_n (pc := 31) cx dX10_dropsOn_31 rfl rfl ?_
      refine f_iload_n (pc := 32) cx dX10_dropsOn_32 rfl rfl ?_
      refine f_iconst (pc := 33) cx dX10_dropsOn_33 kc_iconst_3 ?_
      refine f_bind (fun r17 hr17 => ?_)
      refine k_X10_184 (pc := 34) cx (c_X10_of l G _ o0 x1 3 hk_o0 r17 hr17) hk_o0 ⟨by decide, by decide⟩ ⟨Nat.zero_le _, Nat.zero_le _⟩ (Nat.le_of_ble_eq_true rfl) dX10_dropsOn_34 ?_
      refine f_sipush (pc := 37) cx dX10_dropsOn_37 kc_sipush_999 ?_
      refine f_icmp_ge (pc := 40) (tgt := 54) cx dX10_dropsOn_40 (by decide) (fun _ => ?_) (fun _ => ?_)
      · refine f_sipush (pc := 54) cx dX10_dropsOn_54 kc_sipush_999 ?_
        exact f_weak (LSb.s (LSb.s (LSb.n (LSb.s LSb.e)))) (s_X10_dropsOn_57 cx hr hlk _ o0 x1 q.2 o0 x1 3 999 hk_o0 hk_o0 k2 hk2)
      · refine f_aload_n (pc := 43) cx dX10_dropsOn_43 rfl rfl ?_
        refine f_iload_n (pc := 44) cx dX10_dropsOn_44 rfl rfl ?_
        refine f_iconst (pc := 45) cx dX10_dropsOn_45 kc_iconst_3 ?_
        refine f_bind (fun r18 hr18 => ?_)
        refine k_X10_184 (pc := 46) cx (c_X10_of l G _ o0 x1 3 hk_o0 r18 hr18) hk_o0 ⟨by decide, by decide⟩ ⟨Nat.zero_le _, Nat.zero_le _⟩ (Nat.le_of_ble_eq_true rfl) dX10_dropsOn_46 ?_
        refine f_iconst (pc := 49) cx dX10_dropsOn_49 kc_iconst_1 ?_
        refine f_iadd (pc := 50) cx dX10_dropsOn_50 ?_
        refine f_goto (pc := 51) (tgt := 57) cx dX10_dropsOn_51 (by decide) ?_
        exact f_weak (LSb.s (LSb.s (LSb.n (LSb.s LSb.e)))) (s_X10_dropsOn_57 cx hr hlk _ o0 x1 q.2 o0 x1 3 (r18.1 + 1) hk_o0 hk_o0 k2 hk2)
  · refine f_iload_n (pc := 154) cx dX10_dropsOn_154 rfl rfl ?_
    exact f_iret cx hr hlk rfl dX10_dropsOn_155
set_option maxRecDepth 4000 in
theorem s_X10_dropsOn {p : Program} {l : Launch} {e : Env} {s : State} {m : MethodId} {args : Array Value} {below : List Frame} {meth : Method} {c : Code} {G : GT} (cx : CX p s m args c cX10_dropsOn 4 RX10 G) (hr : meth.sig.returnType = (some .int)) (hlk : meth.locks = false) (h : Hp) (o0 : Nat) (x1 : Int32) (x2 : Int32) (hk_o0 : kd o0 = 9) : PF p l e (rmc 3 67) s m args below meth c 4 G 0 0 (QI below G args s) 0 [some (.ref (gad G o0)), some (.int x1), some (.int x2), none] [] h (p_X10_dropsOn h o0 x1 x2) := by
  unfold p_X10_dropsOn
  refine f_iload_n (pc := 0) cx dX10_dropsOn_0 rfl rfl ?_
  refine f_istore3 (pc := 1) cx dX10_dropsOn_1 (by decide) rfl ?_
  exact f_weak (LSb.s (LSb.s (LSb.n (LSb.s LSb.e)))) (s_X10_dropsOn_2 cx hr hlk o0 x1 hk_o0 FU (h, x2))
set_option maxRecDepth 4000 in
theorem c_X10_dropsOn (l : Launch) (G : GT) (h : Hp) (o0 : Nat) (x1 : Int32) (x2 : Int32) (hk_o0 : kd o0 = 9) : CtI l G yX10_dropsOn cX10_dropsOn 4 (some .int) 3 67 [.ref (gad G o0), .int x1, .int x2] h (p_X10_dropsOn h o0 x1 x2) := fun a ha => Ct.of (lv := [some (.ref (gad G o0)), some (.int x1), some (.int x2), none]) (by decide) rfl (Nat.le_of_ble_eq_true rfl) rfl (fun p e s m args below meth c cx hr hlk => s_X10_dropsOn cx hr hlk h o0 x1 x2 hk_o0 a ha)
def q_X10_dropsFirst_115 (h : Hp) (o0 : Nat) (x1 : Int32) (x3 : Int32) : Option (Int32 × Hp) :=
  Option.bind (p_X10_of h o0 x1 3) fun r1 => Option.bind (p_X10_puts r1.2 o0 x1 4 r1.1) fun r2 => Option.bind (p_X10_law r2 o0 x1 (r2 (o0 + 6) 0)) fun r3 => Option.bind (p_X10_puts r3.2 o0 x1 6 r3.1) fun r4 => some (x3, r4)
def q_X10_dropsFirst_31 (h : Hp) (o0 : Nat) (x1 : Int32) (x3 : Int32) : Option (Int32 × Hp) :=
  Option.bind (p_X10_puts h o0 x1 5 1) fun r5 => Option.bind (p_X10_of r5 o0 x1 3) fun r6 => Option.bind (p_X10_of r6.2 o0 x1 4) fun r7 => nv (r6.1 - r7.1) fun v8 => if v8 ≤ 1 then (Option.bind (p_X10_puts r7.2 o0 x1 3 1) fun r9 => Option.bind (p_X10_puts r9 o0 x1 8 65535) fun r10 => q_X10_dropsFirst_115 r10 o0 x1 x3) else (Option.bind (p_X10_of r7.2 o0 x1 6) fun r11 => Option.bind (p_X10_interval r11.2 o0) fun r12 => if (16 * r12.1) ≤ ((r7.2 (o0 + 6) 0) - r11.1) then (Option.bind (p_X10_puts r12.2 o0 x1 3 1) fun r13 => Option.bind (p_X10_puts r13 o0 x1 8 65535) fun r14 => q_X10_dropsFirst_115 r14 o0 x1 x3) else (Option.bind (p_X10_puts r12.2 o0 x1 3 v8) fun r15 => Option.bind (p_X10_steps r15 o0 x1) fun r16 => q_X10_dropsFirst_115 r16 o0 x1 x3))
def p_X10_dropsFirst (h : Hp) (o0 : Nat) (x1 : Int32) (x2 : Int32) : Option (Int32 × Hp) :=
  Option.bind (p_X10_frameOf h o0 x2 2) fun r17 => if r17.1 = 1 then (Option.bind (p_X10_marks r17.2 o0 x2) fun r18 => q_X10_dropsFirst_31 r18 o0 x1 x2) else (Option.bind (p_X10_drops r17.2 o0 x2) fun r19 => Option.bind (p_X10_takes r19 o0 x1) fun r20 => q_X10_dropsFirst_31 r20.2 o0 x1 r20.1)
set_option maxRecDepth 4000 in
theorem s_X10_dropsFirst_115 {p : Program} {l : Launch} {e : Env} {s : State} {m : MethodId} {args : Array Value} {below : List Frame} {meth : Method} {c : Code} {G : GT} (cx : CX p s m args c cX10_dropsFirst 5 RX10 G) (hr : meth.sig.returnType = (some .int)) (hlk : meth.locks = false) (h : Hp) (o0 : Nat) (x1 : Int32) (x3 : Int32) (hk_o0 : kd o0 = 9) : PF p l e (rmc 3 67) s m args below meth c 5 G 0 0 (QI below G args s) 115 [some (.ref (gad G o0)), some (.int x1), none, some (.int x3), none] [] h (q_X10_dropsFirst_115 h o0 x1 x3) := by
  unfold q_X10_dropsFirst_115
  refine f_aload_n (pc := 115) cx dX10_dropsFirst_115 rfl rfl ?_
  refine f_iload_n (pc := 116) cx dX10_dropsFirst_116 rfl rfl ?_
  refine f_iconst (pc := 117) cx dX10_dropsFirst_117 kc_iconst_4 ?_
  refine f_aload_n (pc := 118) cx dX10_dropsFirst_118 rfl rfl ?_
  refine f_iload_n (pc := 119) cx dX10_dropsFirst_119 rfl rfl ?_
  refine f_iconst (pc := 120) cx dX10_dropsFirst_120 kc_iconst_3 ?_
  refine f_bind (fun r1 hr1 => ?_)
  refine k_X10_184 (pc := 121) cx (c_X10_of l G _ o0 x1 3 hk_o0 r1 hr1) hk_o0 ⟨by decide, by decide⟩ ⟨Nat.zero_le _, Nat.zero_le _⟩ (Nat.le_of_ble_eq_true rfl) dX10_dropsFirst_121 ?_
  refine f_bind (fun r2 hr2 => ?_)
  refine k_X10_165 (pc := 124) cx (c_X10_puts l G _ o0 x1 4 r1.1 hk_o0 r2 hr2) hk_o0 ⟨by decide, by decide⟩ ⟨Nat.zero_le _, Nat.zero_le _⟩ (Nat.le_of_ble_eq_true rfl) dX10_dropsFirst_124 ?_
  refine f_aload_n (pc := 127) cx dX10_dropsFirst_127 rfl rfl ?_
  refine f_iload_n (pc := 128) cx dX10_dropsFirst_128 rfl rfl ?_
  refine f_bipush (pc := 129) cx dX10_dropsFirst_129 kc_bipush_6 ?_
  refine f_aload_n (pc := 131) cx dX10_dropsFirst_131 rfl rfl ?_
  refine f_iload_n (pc := 132) cx dX10_dropsFirst_132 rfl rfl ?_
  refine f_aload_n (pc := 133) cx dX10_dropsFirst_133 rfl rfl ?_
  refine g_X10_30 (pc := 134) cx hk_o0 dX10_dropsFirst_134 ?_
  refine f_iconst (pc := 137) cx dX10_dropsFirst_137 kc_iconst_0 ?_
  refine f_ialdk (pc := 138) (j := 0) (n := 3715) cx (kf_9_20 hk_o0) (by decide) (by decide) kl_0 dX10_dropsFirst_138 ?_
  refine f_bind (fun r3 hr3 => ?_)
  refine k_X10_248 (pc := 139) cx (c_X10_law l G _ o0 x1 (r2 (o0 + 6) 0) hk_o0 r3 hr3) hk_o0 ⟨by decide, by decide⟩ ⟨Nat.zero_le _, Nat.zero_le _⟩ (Nat.le_of_ble_eq_true rfl) dX10_dropsFirst_139 ?_
  refine f_bind (fun r4 hr4 => ?_)
  refine k_X10_165 (pc := 142) cx (c_X10_puts l G _ o0 x1 6 r3.1 hk_o0 r4 hr4) hk_o0 ⟨by decide, by decide⟩ ⟨Nat.zero_le _, Nat.zero_le _⟩ (Nat.le_of_ble_eq_true rfl) dX10_dropsFirst_142 ?_
  refine f_iload_n (pc := 145) cx dX10_dropsFirst_145 rfl rfl ?_
  exact f_iret cx hr hlk rfl dX10_dropsFirst_146
set_option maxRecDepth 4000 in
theorem s_X10_dropsFirst_31 {p : Program} {l : Launch} {e : Env} {s : State} {m : MethodId} {args : Array Value} {below : List Frame} {meth : Method} {c : Code} {G : GT} (cx : CX p s m args c cX10_dropsFirst 5 RX10 G) (hr : meth.sig.returnType = (some .int)) (hlk : meth.locks = false) (h : Hp) (o0 : Nat) (x1 : Int32) (x3 : Int32) (hk_o0 : kd o0 = 9) : PF p l e (rmc 3 67) s m args below meth c 5 G 0 0 (QI below G args s) 31 [some (.ref (gad G o0)), some (.int x1), none, some (.int x3), none] [] h (q_X10_dropsFirst_31 h o0 x1 x3) := by
  unfold q_X10_dropsFirst_31
  refine f_aload_n (pc := 31) cx dX10_dropsFirst_31 rfl rfl ?_
  refine f_iload_n (pc := 32) cx dX10_dropsFirst_32 rfl rfl ?_
  refine f_iconst (pc := 33) cx dX10_dropsFirst_33 kc_iconst_5 ?_
  refine f_iconst (pc := 34) cx dX10_dropsFirst_34 kc_iconst_1 ?_
  refine f_bind (fun r5 hr5 => ?_)
  refine k_X10_165 (pc := 35) cx (c_X10_puts l G _ o0 x1 5 1 hk_o0 r5 hr5) hk_o0 ⟨by decide, by decide⟩ ⟨Nat.zero_le _, Nat.zero_le _⟩ (Nat.le_of_ble_eq_true rfl) dX10_dropsFirst_35 ?_
  refine f_aload_n (pc := 38) cx dX10_dropsFirst_38 rfl rfl ?_
  refine f_iload_n (pc := 39) cx dX10_dropsFirst_39 rfl rfl ?_
  refine f_iconst (pc := 40) cx dX10_dropsFirst_40 kc_iconst_3 ?_
  refine f_bind (fun r6 hr6 => ?_)
  refine k_X10_184 (pc := 41) cx (c_X10_of l G _ o0 x1 3 hk_o0 r6 hr6) hk_o0 ⟨by decide, by decide⟩ ⟨Nat.zero_le _, Nat.zero_le _⟩ (Nat.le_of_ble_eq_true rfl) dX10_dropsFirst_41 ?_
  refine f_aload_n (pc := 44) cx dX10_dropsFirst_44 rfl rfl ?_
  refine f_iload_n (pc := 45) cx dX10_dropsFirst_45 rfl rfl ?_
  refine f_iconst (pc := 46) cx dX10_dropsFirst_46 kc_iconst_4 ?_
  refine f_bind (fun r7 hr7 => ?_)
  refine k_X10_184 (pc := 47) cx (c_X10_of l G _ o0 x1 4 hk_o0 r7 hr7) hk_o0 ⟨by decide, by decide⟩ ⟨Nat.zero_le _, Nat.zero_le _⟩ (Nat.le_of_ble_eq_true rfl) dX10_dropsFirst_47 ?_
  refine f_isub (pc := 50) cx dX10_dropsFirst_50 ?_
  refine f_nvi (fun v8 => ?_)
  refine f_istore4 (pc := 51) cx dX10_dropsFirst_51 (by decide) rfl ?_
  refine f_iload (pc := 53) cx dX10_dropsFirst_53 rfl ?_
  refine f_iconst (pc := 55) cx dX10_dropsFirst_55 kc_iconst_1 ?_
  refine f_icmp_le (pc := 56) (tgt := 99) cx dX10_dropsFirst_56 (by decide) (fun _ => ?_) (fun _ => ?_)
  · refine f_aload_n (pc := 99) cx dX10_dropsFirst_99 rfl rfl ?_
    refine f_iload_n (pc := 100) cx dX10_dropsFirst_100 rfl rfl ?_
    refine f_iconst (pc := 101) cx dX10_dropsFirst_101 kc_iconst_3 ?_
    refine f_iconst (pc := 102) cx dX10_dropsFirst_102 kc_iconst_1 ?_
    refine f_bind (fun r9 hr9 => ?_)
    refine k_X10_165 (pc := 103) cx (c_X10_puts l G _ o0 x1 3 1 hk_o0 r9 hr9) hk_o0 ⟨by decide, by decide⟩ ⟨Nat.zero_le _, Nat.zero_le _⟩ (Nat.le_of_ble_eq_true rfl) dX10_dropsFirst_103 ?_
    refine f_aload_n (pc := 106) cx dX10_dropsFirst_106 rfl rfl ?_
    refine f_iload_n (pc := 107) cx dX10_dropsFirst_107 rfl rfl ?_
    refine f_bipush (pc := 108) cx dX10_dropsFirst_108 kc_bipush_8 ?_
    refine f_ldc (pc := 110) cx w_1310 dX10_dropsFirst_110 ?_
    refine f_bind (fun r10 hr10 => ?_)
    refine k_X10_165 (pc := 112) cx (c_X10_puts l G _ o0 x1 8 65535 hk_o0 r10 hr10) hk_o0 ⟨by decide, by decide⟩ ⟨Nat.zero_le _, Nat.zero_le _⟩ (Nat.le_of_ble_eq_true rfl) dX10_dropsFirst_112 ?_
    exact f_weak (LSb.s (LSb.s (LSb.n (LSb.s (LSb.n LSb.e))))) (s_X10_dropsFirst_115 cx hr hlk _ o0 x1 x3 hk_o0)
  · refine f_aload_n (pc := 59) cx dX10_dropsFirst_59 rfl rfl ?_
    refine g_X10_30 (pc := 60) cx hk_o0 dX10_dropsFirst_60 ?_
    refine f_iconst (pc := 63) cx dX10_dropsFirst_63 kc_iconst_0 ?_
    refine f_ialdk (pc := 64) (j := 0) (n := 3715) cx (kf_9_20 hk_o0) (by decide) (by decide) kl_0 dX10_dropsFirst_64 ?_
    refine f_aload_n (pc := 65) cx dX10_dropsFirst_65 rfl rfl ?_
    refine f_iload_n (pc := 66) cx dX10_dropsFirst_66 rfl rfl ?_
    refine f_bipush (pc := 67) cx dX10_dropsFirst_67 kc_bipush_6 ?_
    refine f_bind (fun r11 hr11 => ?_)
    refine k_X10_184 (pc := 69) cx (c_X10_of l G _ o0 x1 6 hk_o0 r11 hr11) hk_o0 ⟨by decide, by decide⟩ ⟨Nat.zero_le _, Nat.zero_le _⟩ (Nat.le_of_ble_eq_true rfl) dX10_dropsFirst_69 ?_
    refine f_isub (pc := 72) cx dX10_dropsFirst_72 ?_
    refine f_bipush (pc := 73) cx dX10_dropsFirst_73 kc_bipush_16 ?_
    refine f_aload_n (pc := 75) cx dX10_dropsFirst_75 rfl rfl ?_
    refine f_bind (fun r12 hr12 => ?_)
    refine k_X10_225 (pc := 76) cx (c_X10_interval l G _ o0 hk_o0 r12 hr12) hk_o0 ⟨by decide, by decide⟩ ⟨Nat.zero_le _, Nat.zero_le _⟩ (Nat.le_of_ble_eq_true rfl) dX10_dropsFirst_76 ?_
    refine f_imul (pc := 79) cx dX10_dropsFirst_79 ?_
    refine f_icmp_ge (pc := 80) (tgt := 99) cx dX10_dropsFirst_80 (by decide) (fun _ => ?_) (fun _ => ?_)
    · refine f_aload_n (pc := 99) cx dX10_dropsFirst_99 rfl rfl ?_
      refine f_iload_n (pc := 100) cx dX10_dropsFirst_100 rfl rfl ?_
      refine f_iconst (pc := 101) cx dX10_dropsFirst_101 kc_iconst_3 ?_
      refine f_iconst (pc := 102) cx dX10_dropsFirst_102 kc_iconst_1 ?_
      refine f_bind (fun r13 hr13 => ?_)
      refine k_X10_165 (pc := 103) cx (c_X10_puts l G _ o0 x1 3 1 hk_o0 r13 hr13) hk_o0 ⟨by decide, by decide⟩ ⟨Nat.zero_le _, Nat.zero_le _⟩ (Nat.le_of_ble_eq_true rfl) dX10_dropsFirst_103 ?_
      refine f_aload_n (pc := 106) cx dX10_dropsFirst_106 rfl rfl ?_
      refine f_iload_n (pc := 107) cx dX10_dropsFirst_107 rfl rfl ?_
      refine f_bipush (pc := 108) cx dX10_dropsFirst_108 kc_bipush_8 ?_
      refine f_ldc (pc := 110) cx w_1310 dX10_dropsFirst_110 ?_
      refine f_bind (fun r14 hr14 => ?_)
      refine k_X10_165 (pc := 112) cx (c_X10_puts l G _ o0 x1 8 65535 hk_o0 r14 hr14) hk_o0 ⟨by decide, by decide⟩ ⟨Nat.zero_le _, Nat.zero_le _⟩ (Nat.le_of_ble_eq_true rfl) dX10_dropsFirst_112 ?_
      exact f_weak (LSb.s (LSb.s (LSb.n (LSb.s (LSb.n LSb.e))))) (s_X10_dropsFirst_115 cx hr hlk _ o0 x1 x3 hk_o0)
    · refine f_aload_n (pc := 83) cx dX10_dropsFirst_83 rfl rfl ?_
      refine f_iload_n (pc := 84) cx dX10_dropsFirst_84 rfl rfl ?_
      refine f_iconst (pc := 85) cx dX10_dropsFirst_85 kc_iconst_3 ?_
      refine f_iload (pc := 86) cx dX10_dropsFirst_86 rfl ?_
      refine f_bind (fun r15 hr15 => ?_)
      refine k_X10_165 (pc := 88) cx (c_X10_puts l G _ o0 x1 3 v8 hk_o0 r15 hr15) hk_o0 ⟨by decide, by decide⟩ ⟨Nat.zero_le _, Nat.zero_le _⟩ (Nat.le_of_ble_eq_true rfl) dX10_dropsFirst_88 ?_
      refine f_aload_n (pc := 91) cx dX10_dropsFirst_91 rfl rfl ?_
      refine f_iload_n (pc := 92) cx dX10_dropsFirst_92 rfl rfl ?_
      refine f_bind (fun r16 hr16 => ?_)
      refine k_X10_242 (pc := 93) cx (c_X10_steps l G _ o0 x1 hk_o0 r16 hr16) hk_o0 ⟨by decide, by decide⟩ ⟨Nat.zero_le _, Nat.zero_le _⟩ (Nat.le_of_ble_eq_true rfl) dX10_dropsFirst_93 ?_
      refine f_goto (pc := 96) (tgt := 115) cx dX10_dropsFirst_96 (by decide) ?_
      exact f_weak (LSb.s (LSb.s (LSb.n (LSb.s (LSb.n LSb.e))))) (s_X10_dropsFirst_115 cx hr hlk _ o0 x1 x3 hk_o0)
set_option maxRecDepth 4000 in
theorem s_X10_dropsFirst {p : Program} {l : Launch} {e : Env} {s : State} {m : MethodId} {args : Array Value} {below : List Frame} {meth : Method} {c : Code} {G : GT} (cx : CX p s m args c cX10_dropsFirst 5 RX10 G) (hr : meth.sig.returnType = (some .int)) (hlk : meth.locks = false) (h : Hp) (o0 : Nat) (x1 : Int32) (x2 : Int32) (hk_o0 : kd o0 = 9) : PF p l e (rmc 3 67) s m args below meth c 5 G 0 0 (QI below G args s) 0 [some (.ref (gad G o0)), some (.int x1), some (.int x2), none, none] [] h (p_X10_dropsFirst h o0 x1 x2) := by
  unfold p_X10_dropsFirst
  refine f_iload_n (pc := 0) cx dX10_dropsFirst_0 rfl rfl ?_
  refine f_istore3 (pc := 1) cx dX10_dropsFirst_1 (by decide) rfl ?_
  refine f_aload_n (pc := 2) cx dX10_dropsFirst_2 rfl rfl ?_
  refine f_iload_n (pc := 3) cx dX10_dropsFirst_3 rfl rfl ?_
  refine f_iconst (pc := 4) cx dX10_dropsFirst_4 kc_iconst_2 ?_
  refine f_bind (fun r17 hr17 => ?_)
  refine k_X10_194 (pc := 5) cx (c_X10_frameOf l G _ o0 x2 2 hk_o0 r17 hr17) hk_o0 ⟨by decide, by decide⟩ ⟨Nat.zero_le _, Nat.zero_le _⟩ (Nat.le_of_ble_eq_true rfl) dX10_dropsFirst_5 ?_
  refine f_iconst (pc := 8) cx dX10_dropsFirst_8 kc_iconst_1 ?_
  refine f_icmp_ne (pc := 9) (tgt := 20) cx dX10_dropsFirst_9 (by decide) (fun _ => ?_) (fun _ => ?_)
  · refine f_aload_n (pc := 12) cx dX10_dropsFirst_12 rfl rfl ?_
    refine f_iload_n (pc := 13) cx dX10_dropsFirst_13 rfl rfl ?_
    refine f_bind (fun r18 hr18 => ?_)
    refine k_X10_245 (pc := 14) cx (c_X10_marks l G _ o0 x2 hk_o0 r18 hr18) hk_o0 ⟨by decide, by decide⟩ ⟨Nat.zero_le _, Nat.zero_le _⟩ (Nat.le_of_ble_eq_true rfl) dX10_dropsFirst_14 ?_
    refine f_goto (pc := 17) (tgt := 31) cx dX10_dropsFirst_17 (by decide) ?_
    exact f_weak (LSb.s (LSb.s (LSb.n (LSb.s (LSb.n LSb.e))))) (s_X10_dropsFirst_31 cx hr hlk _ o0 x1 x2 hk_o0)
  · refine f_aload_n (pc := 20) cx dX10_dropsFirst_20 rfl rfl ?_
    refine f_iload_n (pc := 21) cx dX10_dropsFirst_21 rfl rfl ?_
    refine f_bind (fun r19 hr19 => ?_)
    refine k_X10_251 (pc := 22) cx (c_X10_drops l G _ o0 x2 hk_o0 r19 hr19) hk_o0 ⟨by decide, by decide⟩ ⟨Nat.zero_le _, Nat.zero_le _⟩ (Nat.le_of_ble_eq_true rfl) dX10_dropsFirst_22 ?_
    refine f_aload_n (pc := 25) cx dX10_dropsFirst_25 rfl rfl ?_
    refine f_iload_n (pc := 26) cx dX10_dropsFirst_26 rfl rfl ?_
    refine f_bind (fun r20 hr20 => ?_)
    refine k_X10_254 (pc := 27) cx (c_X10_takes l G _ o0 x1 hk_o0 r20 hr20) hk_o0 ⟨by decide, by decide⟩ ⟨Nat.zero_le _, Nat.zero_le _⟩ (Nat.le_of_ble_eq_true rfl) dX10_dropsFirst_27 ?_
    refine f_istore3 (pc := 30) cx dX10_dropsFirst_30 (by decide) rfl ?_
    exact f_weak (LSb.s (LSb.s (LSb.n (LSb.s (LSb.n LSb.e))))) (s_X10_dropsFirst_31 cx hr hlk _ o0 x1 r20.1 hk_o0)
set_option maxRecDepth 4000 in
theorem c_X10_dropsFirst (l : Launch) (G : GT) (h : Hp) (o0 : Nat) (x1 : Int32) (x2 : Int32) (hk_o0 : kd o0 = 9) : CtI l G yX10_dropsFirst cX10_dropsFirst 5 (some .int) 3 67 [.ref (gad G o0), .int x1, .int x2] h (p_X10_dropsFirst h o0 x1 x2) := fun a ha => Ct.of (lv := [some (.ref (gad G o0)), some (.int x1), some (.int x2), none, none]) (by decide) rfl (Nat.le_of_ble_eq_true rfl) rfl (fun p e s m args below meth c cx hr hlk => s_X10_dropsFirst cx hr hlk h o0 x1 x2 hk_o0 a ha)
def p_X10_keeps (h : Hp) (o0 : Nat) (x1 : Int32) : Option (Int32 × Hp) :=
  Option.bind (p_X10_takes h o0 x1) fun r1 => Option.bind (p_X10_of r1.2 o0 x1 5) fun r2 => if r2.1 = 1 then (Option.bind (p_X10_of r2.2 o0 x1 11) fun r3 => if r3.1 = 0 then (Option.bind (p_X10_puts r3.2 o0 x1 5 0) fun r4 => some (r1.1, r4)) else (Option.bind (p_X10_dropsOn r3.2 o0 x1 r1.1) fun r5 => some (r5.1, r5.2))) else (Option.bind (p_X10_of r2.2 o0 x1 11) fun r6 => if r6.1 = 1 then (Option.bind (p_X10_dropsFirst r6.2 o0 x1 r1.1) fun r7 => some (r7.1, r7.2)) else (some (r1.1, r6.2)))
set_option maxRecDepth 4000 in
theorem s_X10_keeps {p : Program} {l : Launch} {e : Env} {s : State} {m : MethodId} {args : Array Value} {below : List Frame} {meth : Method} {c : Code} {G : GT} (cx : CX p s m args c cX10_keeps 3 RX10 G) (hr : meth.sig.returnType = (some .int)) (hlk : meth.locks = false) (h : Hp) (o0 : Nat) (x1 : Int32) (hk_o0 : kd o0 = 9) : PF p l e (rmc 4 91) s m args below meth c 3 G 0 0 (QI below G args s) 0 [some (.ref (gad G o0)), some (.int x1), none] [] h (p_X10_keeps h o0 x1) := by
  unfold p_X10_keeps
  refine f_aload_n (pc := 0) cx dX10_keeps_0 rfl rfl ?_
  refine f_iload_n (pc := 1) cx dX10_keeps_1 rfl rfl ?_
  refine f_bind (fun r1 hr1 => ?_)
  refine k_X10_254 (pc := 2) cx (c_X10_takes l G _ o0 x1 hk_o0 r1 hr1) hk_o0 ⟨by decide, by decide⟩ ⟨Nat.zero_le _, Nat.zero_le _⟩ (Nat.le_of_ble_eq_true rfl) dX10_keeps_2 ?_
  refine f_istore2 (pc := 5) cx dX10_keeps_5 (by decide) rfl ?_
  refine f_aload_n (pc := 6) cx dX10_keeps_6 rfl rfl ?_
  refine f_iload_n (pc := 7) cx dX10_keeps_7 rfl rfl ?_
  refine f_iconst (pc := 8) cx dX10_keeps_8 kc_iconst_5 ?_
  refine f_bind (fun r2 hr2 => ?_)
  refine k_X10_184 (pc := 9) cx (c_X10_of l G _ o0 x1 5 hk_o0 r2 hr2) hk_o0 ⟨by decide, by decide⟩ ⟨Nat.zero_le _, Nat.zero_le _⟩ (Nat.le_of_ble_eq_true rfl) dX10_keeps_9 ?_
  refine f_iconst (pc := 12) cx dX10_keeps_12 kc_iconst_1 ?_
  refine f_icmp_ne (pc := 13) (tgt := 42) cx dX10_keeps_13 (by decide) (fun _ => ?_) (fun _ => ?_)
  · refine f_aload_n (pc := 16) cx dX10_keeps_16 rfl rfl ?_
    refine f_iload_n (pc := 17) cx dX10_keeps_17 rfl rfl ?_
    refine f_bipush (pc := 18) cx dX10_keeps_18 kc_bipush_11 ?_
    refine f_bind (fun r3 hr3 => ?_)
    refine k_X10_184 (pc := 20) cx (c_X10_of l G _ o0 x1 11 hk_o0 r3 hr3) hk_o0 ⟨by decide, by decide⟩ ⟨Nat.zero_le _, Nat.zero_le _⟩ (Nat.le_of_ble_eq_true rfl) dX10_keeps_20 ?_
    refine f_if_ne (pc := 23) (tgt := 35) cx dX10_keeps_23 (by decide) (fun _ => ?_) (fun _ => ?_)
    · refine f_aload_n (pc := 26) cx dX10_keeps_26 rfl rfl ?_
      refine f_iload_n (pc := 27) cx dX10_keeps_27 rfl rfl ?_
      refine f_iconst (pc := 28) cx dX10_keeps_28 kc_iconst_5 ?_
      refine f_iconst (pc := 29) cx dX10_keeps_29 kc_iconst_0 ?_
      refine f_bind (fun r4 hr4 => ?_)
      refine k_X10_165 (pc := 30) cx (c_X10_puts l G _ o0 x1 5 0 hk_o0 r4 hr4) hk_o0 ⟨by decide, by decide⟩ ⟨Nat.zero_le _, Nat.zero_le _⟩ (Nat.le_of_ble_eq_true rfl) dX10_keeps_30 ?_
      refine f_iload_n (pc := 33) cx dX10_keeps_33 rfl rfl ?_
      exact f_iret cx hr hlk rfl dX10_keeps_34
    · refine f_aload_n (pc := 35) cx dX10_keeps_35 rfl rfl ?_
      refine f_iload_n (pc := 36) cx dX10_keeps_36 rfl rfl ?_
      refine f_iload_n (pc := 37) cx dX10_keeps_37 rfl rfl ?_
      refine f_bind (fun r5 hr5 => ?_)
      refine k_X10_257 (pc := 38) cx (c_X10_dropsOn l G _ o0 x1 r1.1 hk_o0 r5 hr5) hk_o0 ⟨by decide, by decide⟩ ⟨Nat.zero_le _, Nat.zero_le _⟩ (Nat.le_of_ble_eq_true rfl) dX10_keeps_38 ?_
      exact f_iret cx hr hlk rfl dX10_keeps_41
  · refine f_aload_n (pc := 42) cx dX10_keeps_42 rfl rfl ?_
    refine f_iload_n (pc := 43) cx dX10_keeps_43 rfl rfl ?_
    refine f_bipush (pc := 44) cx dX10_keeps_44 kc_bipush_11 ?_
    refine f_bind (fun r6 hr6 => ?_)
    refine k_X10_184 (pc := 46) cx (c_X10_of l G _ o0 x1 11 hk_o0 r6 hr6) hk_o0 ⟨by decide, by decide⟩ ⟨Nat.zero_le _, Nat.zero_le _⟩ (Nat.le_of_ble_eq_true rfl) dX10_keeps_46 ?_
    refine f_iconst (pc := 49) cx dX10_keeps_49 kc_iconst_1 ?_
    refine f_icmp_ne (pc := 50) (tgt := 62) cx dX10_keeps_50 (by decide) (fun _ => ?_) (fun _ => ?_)
    · refine f_aload_n (pc := 53) cx dX10_keeps_53 rfl rfl ?_
      refine f_iload_n (pc := 54) cx dX10_keeps_54 rfl rfl ?_
      refine f_iload_n (pc := 55) cx dX10_keeps_55 rfl rfl ?_
      refine f_bind (fun r7 hr7 => ?_)
      refine k_X10_260 (pc := 56) cx (c_X10_dropsFirst l G _ o0 x1 r1.1 hk_o0 r7 hr7) hk_o0 ⟨by decide, by decide⟩ ⟨Nat.zero_le _, Nat.zero_le _⟩ (Nat.le_of_ble_eq_true rfl) dX10_keeps_56 ?_
      refine f_goto (pc := 59) (tgt := 63) cx dX10_keeps_59 (by decide) ?_
      exact f_iret cx hr hlk rfl dX10_keeps_63
    · refine f_iload_n (pc := 62) cx dX10_keeps_62 rfl rfl ?_
      exact f_iret cx hr hlk rfl dX10_keeps_63
set_option maxRecDepth 4000 in
theorem c_X10_keeps (l : Launch) (G : GT) (h : Hp) (o0 : Nat) (x1 : Int32) (hk_o0 : kd o0 = 9) : CtI l G yX10_keeps cX10_keeps 3 (some .int) 4 91 [.ref (gad G o0), .int x1] h (p_X10_keeps h o0 x1) := fun a ha => Ct.of (lv := [some (.ref (gad G o0)), some (.int x1), none]) (by decide) rfl (Nat.le_of_ble_eq_true rfl) rfl (fun p e s m args below meth c cx hr hlk => s_X10_keeps cx hr hlk h o0 x1 hk_o0 a ha)
def p_X10_come (h : Hp) (o0 : Nat) (x1 : Int32) (x2 : Int32) (x3 : Int32) : Option (Int32 × Hp) :=
  nv (hp h o0 0 0) fun h1 => if x1 < 0 then (some ((-1), h1)) else (if 9999 < x1 then (some ((-1), h1)) else (if x2 < 1 then (some ((-1), h1)) else (if 1500 < x2 then (some ((-1), h1)) else (if x3 < 0 then (some ((-1), h1)) else (if x3 ≤ 1 then (if (h1 (o0 + 6) 1) = 200 then (some ((-2), h1)) else (Option.bind (p_X10_comesIn h1 o0 x1 x2 x3) fun r2 => some (r2.1, r2.2))) else (some ((-1), h1)))))))
set_option maxRecDepth 4000 in
theorem s_X10_come {p : Program} {l : Launch} {e : Env} {s : State} {m : MethodId} {args : Array Value} {below : List Frame} {meth : Method} {c : Code} {G : GT} (cx : CX p s m args c cX10_come 4 RX10 G) (hr : meth.sig.returnType = (some .int)) (hlk : meth.locks = false) (h : Hp) (o0 : Nat) (x1 : Int32) (x2 : Int32) (x3 : Int32) (hk_o0 : kd o0 = 9) : PF p l e (rmc 4 92) s m args below meth c 4 G 0 0 (QI below G args s) 0 [some (.ref (gad G o0)), some (.int x1), some (.int x2), some (.int x3)] [] h (p_X10_come h o0 x1 x2 x3) := by
  unfold p_X10_come
  refine f_aload_n (pc := 0) cx dX10_come_0 rfl rfl ?_
  refine f_iconst (pc := 1) cx dX10_come_1 kc_iconst_0 ?_
  refine u_X10_45 (pc := 2) cx hk_o0 dX10_come_2 ?_
  refine f_nvh (fun h1 => ?_)
  refine f_iload_n (pc := 5) cx dX10_come_5 rfl rfl ?_
  refine f_if_lt (pc := 6) (tgt := 37) cx dX10_come_6 (by decide) (fun _ => ?_) (fun _ => ?_)
  · refine f_iconst (pc := 37) cx dX10_come_37 kc_iconst_m1 ?_
    exact f_iret cx hr hlk rfl dX10_come_38
  · refine f_iload_n (pc := 9) cx dX10_come_9 rfl rfl ?_
    refine f_sipush (pc := 10) cx dX10_come_10 kc_sipush_9999 ?_
    refine f_icmp_gt (pc := 13) (tgt := 37) cx dX10_come_13 (by decide) (fun _ => ?_) (fun _ => ?_)
    · refine f_iconst (pc := 37) cx dX10_come_37 kc_iconst_m1 ?_
      exact f_iret cx hr hlk rfl dX10_come_38
    · refine f_iload_n (pc := 16) cx dX10_come_16 rfl rfl ?_
      refine f_iconst (pc := 17) cx dX10_come_17 kc_iconst_1 ?_
      refine f_icmp_lt (pc := 18) (tgt := 37) cx dX10_come_18 (by decide) (fun _ => ?_) (fun _ => ?_)
      · refine f_iconst (pc := 37) cx dX10_come_37 kc_iconst_m1 ?_
        exact f_iret cx hr hlk rfl dX10_come_38
      · refine f_iload_n (pc := 21) cx dX10_come_21 rfl rfl ?_
        refine f_sipush (pc := 22) cx dX10_come_22 kc_sipush_1500 ?_
        refine f_icmp_gt (pc := 25) (tgt := 37) cx dX10_come_25 (by decide) (fun _ => ?_) (fun _ => ?_)
        · refine f_iconst (pc := 37) cx dX10_come_37 kc_iconst_m1 ?_
          exact f_iret cx hr hlk rfl dX10_come_38
        · refine f_iload_n (pc := 28) cx dX10_come_28 rfl rfl ?_
          refine f_if_lt (pc := 29) (tgt := 37) cx dX10_come_29 (by decide) (fun _ => ?_) (fun _ => ?_)
          · refine f_iconst (pc := 37) cx dX10_come_37 kc_iconst_m1 ?_
            exact f_iret cx hr hlk rfl dX10_come_38
          · refine f_iload_n (pc := 32) cx dX10_come_32 rfl rfl ?_
            refine f_iconst (pc := 33) cx dX10_come_33 kc_iconst_1 ?_
            refine f_icmp_le (pc := 34) (tgt := 39) cx dX10_come_34 (by decide) (fun _ => ?_) (fun _ => ?_)
            · refine f_aload_n (pc := 39) cx dX10_come_39 rfl rfl ?_
              refine g_X10_30 (pc := 40) cx hk_o0 dX10_come_40 ?_
              refine f_iconst (pc := 43) cx dX10_come_43 kc_iconst_1 ?_
              refine f_ialdk (pc := 44) (j := 1) (n := 3715) cx (kf_9_20 hk_o0) (by decide) (by decide) kl_1 dX10_come_44 ?_
              refine f_sipush (pc := 45) cx dX10_come_45 kc_sipush_200 ?_
              refine f_icmp_ne (pc := 48) (tgt := 56) cx dX10_come_48 (by decide) (fun _ => ?_) (fun _ => ?_)
              · refine f_bipush (pc := 51) cx dX10_come_51 kc_bipush_m2 ?_
                refine f_goto (pc := 53) (tgt := 63) cx dX10_come_53 (by decide) ?_
                exact f_iret cx hr hlk rfl dX10_come_63
              · refine f_aload_n (pc := 56) cx dX10_come_56 rfl rfl ?_
                refine f_iload_n (pc := 57) cx dX10_come_57 rfl rfl ?_
                refine f_iload_n (pc := 58) cx dX10_come_58 rfl rfl ?_
                refine f_iload_n (pc := 59) cx dX10_come_59 rfl rfl ?_
                refine f_bind (fun r2 hr2 => ?_)
                refine k_X10_146 (pc := 60) cx (c_X10_comesIn l G _ o0 x1 x2 x3 hk_o0 r2 hr2) hk_o0 ⟨by decide, by decide⟩ ⟨Nat.zero_le _, Nat.zero_le _⟩ (Nat.le_of_ble_eq_true rfl) dX10_come_60 ?_
                exact f_iret cx hr hlk rfl dX10_come_63
            · refine f_iconst (pc := 37) cx dX10_come_37 kc_iconst_m1 ?_
              exact f_iret cx hr hlk rfl dX10_come_38
set_option maxRecDepth 4000 in
theorem c_X10_come (l : Launch) (G : GT) (h : Hp) (o0 : Nat) (x1 : Int32) (x2 : Int32) (x3 : Int32) (hk_o0 : kd o0 = 9) : CtI l G yX10_come cX10_come 4 (some .int) 4 92 [.ref (gad G o0), .int x1, .int x2, .int x3] h (p_X10_come h o0 x1 x2 x3) := fun a ha => Ct.of (lv := [some (.ref (gad G o0)), some (.int x1), some (.int x2), some (.int x3)]) (by decide) rfl (Nat.le_of_ble_eq_true rfl) rfl (fun p e s m args below meth c cx hr hlk => s_X10_come cx hr hlk h o0 x1 x2 x3 hk_o0 a ha)
def q_X10_serves_120 (k0 : Hp → Option (Int32 × Hp)) (h : Hp) (o0 : Nat) (x1 : Int32) (x2 : Int32) (y0 : Int32) : Option (Int32 × Hp) :=
  Option.bind (p_X10_leaves h o0 x1) fun r1 => if y0 = 0 then (Option.bind (p_X10_of r1 o0 x2 0) fun r2 => Option.bind (p_X10_watches r2.2 o0 5 r2.1 0) fun r3 => k0 r3) else (Option.bind (p_X10_enters r1 o0 x2 2) fun r4 => k0 r4)
def q_X10_serves_33 (k0 : Hp → Option (Int32 × Hp)) (h : Hp) (o0 : Nat) (y0 : Int32) : Option (Int32 × Hp) :=
  Option.bind (p_X10_inList h o0 y0 0) fun r5 => Option.bind (p_X10_of r5.2 o0 r5.1 1) fun r6 => if 0 < r6.1 then (Option.bind (p_X10_keeps r6.2 o0 r5.1) fun r7 => if r7.1 = (-1) then (if y0 = 1 then (if (r7.2 (o0 + 6) 13) ≤ 0 then (q_X10_serves_120 k0 r7.2 o0 y0 r5.1 0) else (q_X10_serves_120 k0 r7.2 o0 y0 r5.1 1)) else (q_X10_serves_120 k0 r7.2 o0 y0 r5.1 0)) else (Option.bind (p_X10_sends r7.2 o0 r5.1 r7.1) fun r8 => some (r7.1, r8))) else (Option.bind (p_X10_of r6.2 o0 r5.1 1) fun r9 => Option.bind (p_X10_quantum r9.2 o0) fun r10 => Option.bind (p_X10_puts r10.2 o0 r5.1 1 (r9.1 + r10.1)) fun r11 => Option.bind (p_X10_leaves r11 o0 y0) fun r12 => Option.bind (p_X10_enters r12 o0 r5.1 2) fun r13 => k0 r13)
def b_X10_serves_0 (o0 : Nat) (k0 : Hp → Option (Int32 × Hp)) (q : Hp) : Option (Int32 × Hp) :=
  if ((q (o0 + 6) 12) + (q (o0 + 6) 13)) ≤ 0 then (some ((-2), q)) else (if (q (o0 + 6) 12) ≤ 0 then (q_X10_serves_33 k0 q o0 2) else (q_X10_serves_33 k0 q o0 1))
def p_X10_serves (h : Hp) (o0 : Nat) : Option (Int32 × Hp) :=
  lp (b_X10_serves_0 o0) FU h
set_option maxRecDepth 4000 in
theorem s_X10_serves_120 {p : Program} {l : Launch} {e : Env} {s : State} {m : MethodId} {args : Array Value} {below : List Frame} {meth : Method} {c : Code} {G : GT} (cx : CX p s m args c cX10_serves 5 RX10 G) (hr : meth.sig.returnType = (some .int)) (hlk : meth.locks = false) (h : Hp) (o0 : Nat) (x1 : Int32) (x2 : Int32) (y0 : Int32) (hk_o0 : kd o0 = 9) (k0 : Hp → Option (Int32 × Hp)) (hk0 : ∀ (q : Hp), PF p l e (rmc 5 113) s m args below meth c 5 G 0 0 (QI below G args s) 0 [some (.ref (gad G o0)), none, none, none, none] [] q (k0 q)) : PF p l e (rmc 5 113) s m args below meth c 5 G 0 0 (QI below G args s) 120 [some (.ref (gad G o0)), some (.int x1), some (.int x2), none, none] [.int y0] h (q_X10_serves_120 k0 h o0 x1 x2 y0) := by
  unfold q_X10_serves_120
  refine f_istore4 (pc := 120) cx dX10_serves_120 (by decide) rfl ?_
  refine f_aload_n (pc := 122) cx dX10_serves_122 rfl rfl ?_
  refine f_iload_n (pc := 123) cx dX10_serves_123 rfl rfl ?_
  refine f_bind (fun r1 hr1 => ?_)
  refine k_X10_263 (pc := 124) cx (c_X10_leaves l G _ o0 x1 hk_o0 r1 hr1) hk_o0 ⟨by decide, by decide⟩ ⟨Nat.zero_le _, Nat.zero_le _⟩ (Nat.le_of_ble_eq_true rfl) dX10_serves_124 ?_
  refine f_iload (pc := 127) cx dX10_serves_127 rfl ?_
  refine f_if_eq (pc := 129) (tgt := 141) cx dX10_serves_129 (by decide) (fun _ => ?_) (fun _ => ?_)
  · refine f_aload_n (pc := 141) cx dX10_serves_141 rfl rfl ?_
    refine f_iconst (pc := 142) cx dX10_serves_142 kc_iconst_5 ?_
    refine f_aload_n (pc := 143) cx dX10_serves_143 rfl rfl ?_
    refine f_iload_n (pc := 144) cx dX10_serves_144 rfl rfl ?_
    refine f_iconst (pc := 145) cx dX10_serves_145 kc_iconst_0 ?_
    refine f_bind (fun r2 hr2 => ?_)
    refine k_X10_184 (pc := 146) cx (c_X10_of l G _ o0 x2 0 hk_o0 r2 hr2) hk_o0 ⟨by decide, by decide⟩ ⟨Nat.zero_le _, Nat.zero_le _⟩ (Nat.le_of_ble_eq_true rfl) dX10_serves_146 ?_
    refine f_iconst (pc := 149) cx dX10_serves_149 kc_iconst_0 ?_
    refine f_bind (fun r3 hr3 => ?_)
    refine k_X10_221 (pc := 150) cx (c_X10_watches l G _ o0 5 r2.1 0 hk_o0 r3 hr3) hk_o0 ⟨by decide, by decide⟩ ⟨Nat.zero_le _, Nat.zero_le _⟩ (Nat.le_of_ble_eq_true rfl) dX10_serves_150 ?_
    refine f_goto (pc := 153) (tgt := 0) cx dX10_serves_153 (by decide) ?_
    exact f_weak (LSb.s (LSb.n (LSb.n (LSb.n (LSb.n LSb.e))))) (hk0 r3)
  · refine f_aload_n (pc := 132) cx dX10_serves_132 rfl rfl ?_
    refine f_iload_n (pc := 133) cx dX10_serves_133 rfl rfl ?_
    refine f_iconst (pc := 134) cx dX10_serves_134 kc_iconst_2 ?_
    refine f_bind (fun r4 hr4 => ?_)
    refine k_X10_190 (pc := 135) cx (c_X10_enters l G _ o0 x2 2 hk_o0 r4 hr4) hk_o0 ⟨by decide, by decide⟩ ⟨Nat.zero_le _, Nat.zero_le _⟩ (Nat.le_of_ble_eq_true rfl) dX10_serves_135 ?_
    refine f_goto (pc := 138) (tgt := 153) cx dX10_serves_138 (by decide) ?_
    refine f_goto (pc := 153) (tgt := 0) cx dX10_serves_153 (by decide) ?_
    exact f_weak (LSb.s (LSb.n (LSb.n (LSb.n (LSb.n LSb.e))))) (hk0 r4)
set_option maxRecDepth 4000 in
theorem s_X10_serves_33 {p : Program} {l : Launch} {e : Env} {s : State} {m : MethodId} {args : Array Value} {below : List Frame} {meth : Method} {c : Code} {G : GT} (cx : CX p s m args c cX10_serves 5 RX10 G) (hr : meth.sig.returnType = (some .int)) (hlk : meth.locks = false) (h : Hp) (o0 : Nat) (y0 : Int32) (hk_o0 : kd o0 = 9) (k0 : Hp → Option (Int32 × Hp)) (hk0 : ∀ (q : Hp), PF p l e (rmc 5 113) s m args below meth c 5 G 0 0 (QI below G args s) 0 [some (.ref (gad G o0)), none, none, none, none] [] q (k0 q)) : PF p l e (rmc 5 113) s m args below meth c 5 G 0 0 (QI below G args s) 33 [some (.ref (gad G o0)), none, none, none, none] [.int y0] h (q_X10_serves_33 k0 h o0 y0) := by
  unfold q_X10_serves_33
  refine f_istore1 (pc := 33) cx dX10_serves_33 (by decide) rfl ?_
  refine f_aload_n (pc := 34) cx dX10_serves_34 rfl rfl ?_
  refine f_iload_n (pc := 35) cx dX10_serves_35 rfl rfl ?_
  refine f_iconst (pc := 36) cx dX10_serves_36 kc_iconst_0 ?_
  refine f_bind (fun r5 hr5 => ?_)
  refine k_X10_176 (pc := 37) cx (c_X10_inList l G _ o0 y0 0 hk_o0 r5 hr5) hk_o0 ⟨by decide, by decide⟩ ⟨Nat.zero_le _, Nat.zero_le _⟩ (Nat.le_of_ble_eq_true rfl) dX10_serves_37 ?_
  refine f_istore2 (pc := 40) cx dX10_serves_40 (by decide) rfl ?_
  refine f_aload_n (pc := 41) cx dX10_serves_41 rfl rfl ?_
  refine f_iload_n (pc := 42) cx dX10_serves_42 rfl rfl ?_
  refine f_iconst (pc := 43) cx dX10_serves_43 kc_iconst_1 ?_
  refine f_bind (fun r6 hr6 => ?_)
  refine k_X10_184 (pc := 44) cx (c_X10_of l G _ o0 r5.1 1 hk_o0 r6 hr6) hk_o0 ⟨by decide, by decide⟩ ⟨Nat.zero_le _, Nat.zero_le _⟩ (Nat.le_of_ble_eq_true rfl) dX10_serves_44 ?_
  refine f_if_gt (pc := 47) (tgt := 81) cx dX10_serves_47 (by decide) (fun _ => ?_) (fun _ => ?_)
  · refine f_aload_n (pc := 81) cx dX10_serves_81 rfl rfl ?_
    refine f_iload_n (pc := 82) cx dX10_serves_82 rfl rfl ?_
    refine f_bind (fun r7 hr7 => ?_)
    refine k_X10_266 (pc := 83) cx (c_X10_keeps l G _ o0 r5.1 hk_o0 r7 hr7) hk_o0 ⟨by decide, by decide⟩ ⟨Nat.zero_le _, Nat.zero_le _⟩ (Nat.le_of_ble_eq_true rfl) dX10_serves_83 ?_
    refine f_istore3 (pc := 86) cx dX10_serves_86 (by decide) rfl ?_
    refine f_iload_n (pc := 87) cx dX10_serves_87 rfl rfl ?_
    refine f_iconst (pc := 88) cx dX10_serves_88 kc_iconst_m1 ?_
    refine f_icmp_eq (pc := 89) (tgt := 100) cx dX10_serves_89 (by decide) (fun _ => ?_) (fun _ => ?_)
    · refine f_iload_n (pc := 100) cx dX10_serves_100 rfl rfl ?_
      refine f_iconst (pc := 101) cx dX10_serves_101 kc_iconst_1 ?_
      refine f_icmp_ne (pc := 102) (tgt := 119) cx dX10_serves_102 (by decide) (fun _ => ?_) (fun _ => ?_)
      · refine f_aload_n (pc := 105) cx dX10_serves_105 rfl rfl ?_
        refine g_X10_30 (pc := 106) cx hk_o0 dX10_serves_106 ?_
        refine f_bipush (pc := 109) cx dX10_serves_109 kc_bipush_13 ?_
        refine f_ialdk (pc := 111) (j := 13) (n := 3715) cx (kf_9_20 hk_o0) (by decide) (by decide) kl_13 dX10_serves_111 ?_
        refine f_if_le (pc := 112) (tgt := 119) cx dX10_serves_112 (by decide) (fun _ => ?_) (fun _ => ?_)
        · refine f_iconst (pc := 119) cx dX10_serves_119 kc_iconst_0 ?_
          exact f_weak (LSb.s (LSb.s (LSb.s (LSb.n (LSb.n LSb.e))))) (s_X10_serves_120 cx hr hlk _ o0 y0 r5.1 0 hk_o0 k0 hk0)
        · refine f_iconst (pc := 115) cx dX10_serves_115 kc_iconst_1 ?_
          refine f_goto (pc := 116) (tgt := 120) cx dX10_serves_116 (by decide) ?_
          exact f_weak (LSb.s (LSb.s (LSb.s (LSb.n (LSb.n LSb.e))))) (s_X10_serves_120 cx hr hlk _ o0 y0 r5.1 1 hk_o0 k0 hk0)
      · refine f_iconst (pc := 119) cx dX10_serves_119 kc_iconst_0 ?_
        exact f_weak (LSb.s (LSb.s (LSb.s (LSb.n (LSb.n LSb.e))))) (s_X10_serves_120 cx hr hlk _ o0 y0 r5.1 0 hk_o0 k0 hk0)
    · refine f_aload_n (pc := 92) cx dX10_serves_92 rfl rfl ?_
      refine f_iload_n (pc := 93) cx dX10_serves_93 rfl rfl ?_
      refine f_iload_n (pc := 94) cx dX10_serves_94 rfl rfl ?_
      refine f_bind (fun r8 hr8 => ?_)
      refine k_X10_269 (pc := 95) cx (c_X10_sends l G _ o0 r5.1 r7.1 hk_o0 r8 hr8) hk_o0 ⟨by decide, by decide⟩ ⟨Nat.zero_le _, Nat.zero_le _⟩ (Nat.le_of_ble_eq_true rfl) dX10_serves_95 ?_
      refine f_iload_n (pc := 98) cx dX10_serves_98 rfl rfl ?_
      exact f_iret cx hr hlk rfl dX10_serves_99
  · refine f_aload_n (pc := 50) cx dX10_serves_50 rfl rfl ?_
    refine f_iload_n (pc := 51) cx dX10_serves_51 rfl rfl ?_
    refine f_iconst (pc := 52) cx dX10_serves_52 kc_iconst_1 ?_
    refine f_aload_n (pc := 53) cx dX10_serves_53 rfl rfl ?_
    refine f_iload_n (pc := 54) cx dX10_serves_54 rfl rfl ?_
    refine f_iconst (pc := 55) cx dX10_serves_55 kc_iconst_1 ?_
    refine f_bind (fun r9 hr9 => ?_)
    refine k_X10_184 (pc := 56) cx (c_X10_of l G _ o0 r5.1 1 hk_o0 r9 hr9) hk_o0 ⟨by decide, by decide⟩ ⟨Nat.zero_le _, Nat.zero_le _⟩ (Nat.le_of_ble_eq_true rfl) dX10_serves_56 ?_
    refine f_aload_n (pc := 59) cx dX10_serves_59 rfl rfl ?_
    refine f_bind (fun r10 hr10 => ?_)
    refine k_X10_187 (pc := 60) cx (c_X10_quantum l G _ o0 hk_o0 r10 hr10) hk_o0 ⟨by decide, by decide⟩ ⟨Nat.zero_le _, Nat.zero_le _⟩ (Nat.le_of_ble_eq_true rfl) dX10_serves_60 ?_
    refine f_iadd (pc := 63) cx dX10_serves_63 ?_
    refine f_bind (fun r11 hr11 => ?_)
    refine k_X10_165 (pc := 64) cx (c_X10_puts l G _ o0 r5.1 1 (r9.1 + r10.1) hk_o0 r11 hr11) hk_o0 ⟨by decide, by decide⟩ ⟨Nat.zero_le _, Nat.zero_le _⟩ (Nat.le_of_ble_eq_true rfl) dX10_serves_64 ?_
    refine f_aload_n (pc := 67) cx dX10_serves_67 rfl rfl ?_
    refine f_iload_n (pc := 68) cx dX10_serves_68 rfl rfl ?_
    refine f_bind (fun r12 hr12 => ?_)
    refine k_X10_263 (pc := 69) cx (c_X10_leaves l G _ o0 y0 hk_o0 r12 hr12) hk_o0 ⟨by decide, by decide⟩ ⟨Nat.zero_le _, Nat.zero_le _⟩ (Nat.le_of_ble_eq_true rfl) dX10_serves_69 ?_
    refine f_aload_n (pc := 72) cx dX10_serves_72 rfl rfl ?_
    refine f_iload_n (pc := 73) cx dX10_serves_73 rfl rfl ?_
    refine f_iconst (pc := 74) cx dX10_serves_74 kc_iconst_2 ?_
    refine f_bind (fun r13 hr13 => ?_)
    refine k_X10_190 (pc := 75) cx (c_X10_enters l G _ o0 r5.1 2 hk_o0 r13 hr13) hk_o0 ⟨by decide, by decide⟩ ⟨Nat.zero_le _, Nat.zero_le _⟩ (Nat.le_of_ble_eq_true rfl) dX10_serves_75 ?_
    refine f_goto (pc := 78) (tgt := 0) cx dX10_serves_78 (by decide) ?_
    exact f_weak (LSb.s (LSb.n (LSb.n (LSb.n (LSb.n LSb.e))))) (hk0 r13)
set_option maxRecDepth 4000 in
theorem s_X10_serves_0 {p : Program} {l : Launch} {e : Env} {s : State} {m : MethodId} {args : Array Value} {below : List Frame} {meth : Method} {c : Code} {G : GT} (cx : CX p s m args c cX10_serves 5 RX10 G) (hr : meth.sig.returnType = (some .int)) (hlk : meth.locks = false) (o0 : Nat) (hk_o0 : kd o0 = 9) : ∀ (n : Nat) (q : Hp), PF p l e (rmc 5 113) s m args below meth c 5 G 0 0 (QI below G args s) 0 [some (.ref (gad G o0)), none, none, none, none] [] q (lp (b_X10_serves_0 o0) n q) := by
  refine f_lp (lvf := fun (q : Hp) => [some (.ref (gad G o0)), none, none, none, none]) (hf := fun (q : Hp) => q) (fun k0 hk0 q => ?_)
  show PF p l e (rmc 5 113) s m args below meth c 5 G 0 0 (QI below G args s) 0 [some (.ref (gad G o0)), none, none, none, none] [] q (b_X10_serves_0 o0 k0 q)
  unfold b_X10_serves_0
  refine f_aload_n (pc := 0) cx dX10_serves_0 rfl rfl ?_
  refine g_X10_30 (pc := 1) cx hk_o0 dX10_serves_1 ?_
  refine f_bipush (pc := 4) cx dX10_serves_4 kc_bipush_12 ?_
  refine f_ialdk (pc := 6) (j := 12) (n := 3715) cx (kf_9_20 hk_o0) (by decide) (by decide) kl_12 dX10_serves_6 ?_
  refine f_aload_n (pc := 7) cx dX10_serves_7 rfl rfl ?_
  refine g_X10_30 (pc := 8) cx hk_o0 dX10_serves_8 ?_
  refine f_bipush (pc := 11) cx dX10_serves_11 kc_bipush_13 ?_
  refine f_ialdk (pc := 13) (j := 13) (n := 3715) cx (kf_9_20 hk_o0) (by decide) (by decide) kl_13 dX10_serves_13 ?_
  refine f_iadd (pc := 14) cx dX10_serves_14 ?_
  refine f_if_le (pc := 15) (tgt := 156) cx dX10_serves_15 (by decide) (fun _ => ?_) (fun _ => ?_)
  · refine f_bipush (pc := 156) cx dX10_serves_156 kc_bipush_m2 ?_
    exact f_iret cx hr hlk rfl dX10_serves_158
  · refine f_aload_n (pc := 18) cx dX10_serves_18 rfl rfl ?_
    refine g_X10_30 (pc := 19) cx hk_o0 dX10_serves_19 ?_
    refine f_bipush (pc := 22) cx dX10_serves_22 kc_bipush_12 ?_
    refine f_ialdk (pc := 24) (j := 12) (n := 3715) cx (kf_9_20 hk_o0) (by decide) (by decide) kl_12 dX10_serves_24 ?_
    refine f_if_le (pc := 25) (tgt := 32) cx dX10_serves_25 (by decide) (fun _ => ?_) (fun _ => ?_)
    · refine f_iconst (pc := 32) cx dX10_serves_32 kc_iconst_2 ?_
      exact f_weak (LSb.s (LSb.n (LSb.n (LSb.n (LSb.n LSb.e))))) (s_X10_serves_33 cx hr hlk _ o0 2 hk_o0 k0 hk0)
    · refine f_iconst (pc := 28) cx dX10_serves_28 kc_iconst_1 ?_
      refine f_goto (pc := 29) (tgt := 33) cx dX10_serves_29 (by decide) ?_
      exact f_weak (LSb.s (LSb.n (LSb.n (LSb.n (LSb.n LSb.e))))) (s_X10_serves_33 cx hr hlk _ o0 1 hk_o0 k0 hk0)
set_option maxRecDepth 4000 in
theorem s_X10_serves {p : Program} {l : Launch} {e : Env} {s : State} {m : MethodId} {args : Array Value} {below : List Frame} {meth : Method} {c : Code} {G : GT} (cx : CX p s m args c cX10_serves 5 RX10 G) (hr : meth.sig.returnType = (some .int)) (hlk : meth.locks = false) (h : Hp) (o0 : Nat) (hk_o0 : kd o0 = 9) : PF p l e (rmc 5 113) s m args below meth c 5 G 0 0 (QI below G args s) 0 [some (.ref (gad G o0)), none, none, none, none] [] h (p_X10_serves h o0) := by
  unfold p_X10_serves
  exact f_weak (LSb.s (LSb.n (LSb.n (LSb.n (LSb.n LSb.e))))) (s_X10_serves_0 cx hr hlk o0 hk_o0 FU h)
set_option maxRecDepth 4000 in
theorem c_X10_serves (l : Launch) (G : GT) (h : Hp) (o0 : Nat) (hk_o0 : kd o0 = 9) : CtI l G yX10_serves cX10_serves 5 (some .int) 5 113 [.ref (gad G o0)] h (p_X10_serves h o0) := fun a ha => Ct.of (lv := [some (.ref (gad G o0)), none, none, none, none]) (by decide) rfl (Nat.le_of_ble_eq_true rfl) rfl (fun p e s m args below meth c cx hr hlk => s_X10_serves cx hr hlk h o0 hk_o0 a ha)
def b_X10_ticks_39 (k27 : Hp × Int32 → Option Hp) (o0 : Nat) (x1 : Int32) (k39 : Hp → Option Hp) (q : Hp) : Option Hp :=
  Option.bind (p_X10_senderOf q o0 x1 5) fun r1 => Option.bind (p_X10_senderOf r1.2 o0 x1 2) fun r2 => if (r2.1 - 99) ≤ (100 * r1.1) then (k27 (r2.2, x1 + 1)) else (if 200 ≤ (r2.2 (o0 + 6) 1) then (k27 (r2.2, x1 + 1)) else (Option.bind (p_X10_senderOf r2.2 o0 x1 5) fun r3 => Option.bind (p_X10_sends0 r3.2 o0 x1 5 (r3.1 + 1)) fun r4 => nv (hp r4 o0 22 x1) fun h5 => Option.bind (p_X10_senderOf h5 o0 x1 0) fun r6 => Option.bind (p_X10_senderOf r6.2 o0 x1 1) fun r7 => Option.bind (p_X10_senderOf r7.2 o0 x1 4) fun r8 => Option.bind (p_X10_comesIn r8.2 o0 r6.1 r7.1 r8.1) fun r9 => nv (hp r9.2 o0 22 (-2)) fun h10 => k39 h10))
def b_X10_ticks_27 (o0 : Nat) (k27 : Hp × Int32 → Option Hp) (q : Hp × Int32) : Option Hp :=
  if (q.1 (o0 + 6) 3477) ≤ q.2 then (Option.bind (p_X10_serves q.1 o0) fun r11 => nv (hp r11.2 (o0 + 6) 0 ((r11.2 (o0 + 6) 0) + 1)) fun h12 => some h12) else (lp (b_X10_ticks_39 k27 o0 q.2) FU q.1)
def b_X10_ticks_2 (o0 : Nat) (k2 : Hp × Int32 → Option Hp) (q : Hp × Int32) : Option Hp :=
  if (q.1 (o0 + 6) 3477) ≤ q.2 then (lp (b_X10_ticks_27 o0) FU (q.1, 0)) else (Option.bind (p_X10_hearsAll q.1 o0 q.2) fun r13 => k2 (r13, q.2 + 1))
def p_X10_ticks (h : Hp) (o0 : Nat) : Option Hp :=
  lp (b_X10_ticks_2 o0) FU (h, 0)
set_option maxRecDepth 4000 in
theorem s_X10_ticks_39 {p : Program} {l : Launch} {e : Env} {s : State} {m : MethodId} {args : Array Value} {below : List Frame} {meth : Method} {c : Code} {G : GT} (cx : CX p s m args c cX10_ticks 2 RX10 G) (hr : meth.sig.returnType = none) (hlk : meth.locks = false) (o0 : Nat) (x1 : Int32) (hk_o0 : kd o0 = 9) (k27 : Hp × Int32 → Option Hp) (hk27 : ∀ (q : Hp × Int32), PF p l e (rmc 6 137) s m args below meth c 2 G 0 0 (QV below G args s) 27 [some (.ref (gad G o0)), some (.int q.2)] [] q.1 (k27 q)) : ∀ (n : Nat) (q : Hp), PF p l e (rmc 6 137) s m args below meth c 2 G 0 0 (QV below G args s) 39 [some (.ref (gad G o0)), some (.int x1)] [] q (lp (b_X10_ticks_39 k27 o0 x1) n q) := by
  refine f_lp (lvf := fun (q : Hp) => [some (.ref (gad G o0)), some (.int x1)]) (hf := fun (q : Hp) => q) (fun k39 hk39 q => ?_)
  show PF p l e (rmc 6 137) s m args below meth c 2 G 0 0 (QV below G args s) 39 [some (.ref (gad G o0)), some (.int x1)] [] q (b_X10_ticks_39 k27 o0 x1 k39 q)
  unfold b_X10_ticks_39
  refine f_bipush (pc := 39) cx dX10_ticks_39 kc_bipush_100 ?_
  refine f_aload_n (pc := 41) cx dX10_ticks_41 rfl rfl ?_
  refine f_iload_n (pc := 42) cx dX10_ticks_42 rfl rfl ?_
  refine f_iconst (pc := 43) cx dX10_ticks_43 kc_iconst_5 ?_
  refine f_bind (fun r1 hr1 => ?_)
  refine k_X10_272 (pc := 44) cx (c_X10_senderOf l G _ o0 x1 5 hk_o0 r1 hr1) hk_o0 ⟨by decide, by decide⟩ ⟨Nat.zero_le _, Nat.zero_le _⟩ (Nat.le_of_ble_eq_true rfl) dX10_ticks_44 ?_
  refine f_imul (pc := 47) cx dX10_ticks_47 ?_
  refine f_aload_n (pc := 48) cx dX10_ticks_48 rfl rfl ?_
  refine f_iload_n (pc := 49) cx dX10_ticks_49 rfl rfl ?_
  refine f_iconst (pc := 50) cx dX10_ticks_50 kc_iconst_2 ?_
  refine f_bind (fun r2 hr2 => ?_)
  refine k_X10_272 (pc := 51) cx (c_X10_senderOf l G _ o0 x1 2 hk_o0 r2 hr2) hk_o0 ⟨by decide, by decide⟩ ⟨Nat.zero_le _, Nat.zero_le _⟩ (Nat.le_of_ble_eq_true rfl) dX10_ticks_51 ?_
  refine f_bipush (pc := 54) cx dX10_ticks_54 kc_bipush_99 ?_
  refine f_isub (pc := 56) cx dX10_ticks_56 ?_
  refine f_icmp_ge (pc := 57) (tgt := 123) cx dX10_ticks_57 (by decide) (fun _ => ?_) (fun _ => ?_)
  · refine f_iinc1 (pc := 123) cx dX10_ticks_123 kc_iconst_1 (by decide) rfl ?_
    refine f_goto (pc := 126) (tgt := 27) cx dX10_ticks_126 (by decide) ?_
    exact f_weak (LSb.s (LSb.s LSb.e)) (hk27 (r2.2, x1 + 1))
  · refine f_aload_n (pc := 60) cx dX10_ticks_60 rfl rfl ?_
    refine g_X10_30 (pc := 61) cx hk_o0 dX10_ticks_61 ?_
    refine f_iconst (pc := 64) cx dX10_ticks_64 kc_iconst_1 ?_
    refine f_ialdk (pc := 65) (j := 1) (n := 3715) cx (kf_9_20 hk_o0) (by decide) (by decide) kl_1 dX10_ticks_65 ?_
    refine f_sipush (pc := 66) cx dX10_ticks_66 kc_sipush_200 ?_
    refine f_icmp_ge (pc := 69) (tgt := 123) cx dX10_ticks_69 (by decide) (fun _ => ?_) (fun _ => ?_)
    · refine f_iinc1 (pc := 123) cx dX10_ticks_123 kc_iconst_1 (by decide) rfl ?_
      refine f_goto (pc := 126) (tgt := 27) cx dX10_ticks_126 (by decide) ?_
      exact f_weak (LSb.s (LSb.s LSb.e)) (hk27 (r2.2, x1 + 1))
    · refine f_aload_n (pc := 72) cx dX10_ticks_72 rfl rfl ?_
      refine f_iload_n (pc := 73) cx dX10_ticks_73 rfl rfl ?_
      refine f_iconst (pc := 74) cx dX10_ticks_74 kc_iconst_5 ?_
      refine f_aload_n (pc := 75) cx dX10_ticks_75 rfl rfl ?_
      refine f_iload_n (pc := 76) cx dX10_ticks_76 rfl rfl ?_
      refine f_iconst (pc := 77) cx dX10_ticks_77 kc_iconst_5 ?_
      refine f_bind (fun r3 hr3 => ?_)
      refine k_X10_272 (pc := 78) cx (c_X10_senderOf l G _ o0 x1 5 hk_o0 r3 hr3) hk_o0 ⟨by decide, by decide⟩ ⟨Nat.zero_le _, Nat.zero_le _⟩ (Nat.le_of_ble_eq_true rfl) dX10_ticks_78 ?_
      refine f_iconst (pc := 81) cx dX10_ticks_81 kc_iconst_1 ?_
      refine f_iadd (pc := 82) cx dX10_ticks_82 ?_
      refine f_bind (fun r4 hr4 => ?_)
      refine k_X10_170 (pc := 83) cx (c_X10_sends0 l G _ o0 x1 5 (r3.1 + 1) hk_o0 r4 hr4) hk_o0 ⟨by decide, by decide⟩ ⟨Nat.zero_le _, Nat.zero_le _⟩ (Nat.le_of_ble_eq_true rfl) dX10_ticks_83 ?_
      refine f_aload_n (pc := 86) cx dX10_ticks_86 rfl rfl ?_
      refine f_iload_n (pc := 87) cx dX10_ticks_87 rfl rfl ?_
      refine u_X10_36 (pc := 88) cx hk_o0 dX10_ticks_88 ?_
      refine f_nvh (fun h5 => ?_)
      refine f_aload_n (pc := 91) cx dX10_ticks_91 rfl rfl ?_
      refine f_aload_n (pc := 92) cx dX10_ticks_92 rfl rfl ?_
      refine f_iload_n (pc := 93) cx dX10_ticks_93 rfl rfl ?_
      refine f_iconst (pc := 94) cx dX10_ticks_94 kc_iconst_0 ?_
      refine f_bind (fun r6 hr6 => ?_)
      refine k_X10_272 (pc := 95) cx (c_X10_senderOf l G _ o0 x1 0 hk_o0 r6 hr6) hk_o0 ⟨by decide, by decide⟩ ⟨Nat.zero_le _, Nat.zero_le _⟩ (Nat.le_of_ble_eq_true rfl) dX10_ticks_95 ?_
      refine f_aload_n (pc := 98) cx dX10_ticks_98 rfl rfl ?_
      refine f_iload_n (pc := 99) cx dX10_ticks_99 rfl rfl ?_
      refine f_iconst (pc := 100) cx dX10_ticks_100 kc_iconst_1 ?_
      refine f_bind (fun r7 hr7 => ?_)
      refine k_X10_272 (pc := 101) cx (c_X10_senderOf l G _ o0 x1 1 hk_o0 r7 hr7) hk_o0 ⟨by decide, by decide⟩ ⟨Nat.zero_le _, Nat.zero_le _⟩ (Nat.le_of_ble_eq_true rfl) dX10_ticks_101 ?_
      refine f_aload_n (pc := 104) cx dX10_ticks_104 rfl rfl ?_
      refine f_iload_n (pc := 105) cx dX10_ticks_105 rfl rfl ?_
      refine f_iconst (pc := 106) cx dX10_ticks_106 kc_iconst_4 ?_
      refine f_bind (fun r8 hr8 => ?_)
      refine k_X10_272 (pc := 107) cx (c_X10_senderOf l G _ o0 x1 4 hk_o0 r8 hr8) hk_o0 ⟨by decide, by decide⟩ ⟨Nat.zero_le _, Nat.zero_le _⟩ (Nat.le_of_ble_eq_true rfl) dX10_ticks_107 ?_
      refine f_bind (fun r9 hr9 => ?_)
      refine k_X10_146 (pc := 110) cx (c_X10_comesIn l G _ o0 r6.1 r7.1 r8.1 hk_o0 r9 hr9) hk_o0 ⟨by decide, by decide⟩ ⟨Nat.zero_le _, Nat.zero_le _⟩ (Nat.le_of_ble_eq_true rfl) dX10_ticks_110 ?_
      refine f_pop (pc := 113) cx dX10_ticks_113 rfl ?_
      refine f_aload_n (pc := 114) cx dX10_ticks_114 rfl rfl ?_
      refine f_bipush (pc := 115) cx dX10_ticks_115 kc_bipush_m2 ?_
      refine u_X10_36 (pc := 117) cx hk_o0 dX10_ticks_117 ?_
      refine f_nvh (fun h10 => ?_)
      refine f_goto (pc := 120) (tgt := 39) cx dX10_ticks_120 (by decide) ?_
      exact f_weak (LSb.s (LSb.s LSb.e)) (hk39 h10)
set_option maxRecDepth 4000 in
theorem s_X10_ticks_27 {p : Program} {l : Launch} {e : Env} {s : State} {m : MethodId} {args : Array Value} {below : List Frame} {meth : Method} {c : Code} {G : GT} (cx : CX p s m args c cX10_ticks 2 RX10 G) (hr : meth.sig.returnType = none) (hlk : meth.locks = false) (o0 : Nat) (hk_o0 : kd o0 = 9) : ∀ (n : Nat) (q : Hp × Int32), PF p l e (rmc 6 137) s m args below meth c 2 G 0 0 (QV below G args s) 27 [some (.ref (gad G o0)), some (.int q.2)] [] q.1 (lp (b_X10_ticks_27 o0) n q) := by
  refine f_lp (lvf := fun (q : Hp × Int32) => [some (.ref (gad G o0)), some (.int q.2)]) (hf := fun (q : Hp × Int32) => q.1) (fun k27 hk27 q => ?_)
  show PF p l e (rmc 6 137) s m args below meth c 2 G 0 0 (QV below G args s) 27 [some (.ref (gad G o0)), some (.int q.2)] [] q.1 (b_X10_ticks_27 o0 k27 q)
  unfold b_X10_ticks_27
  refine f_iload_n (pc := 27) cx dX10_ticks_27 rfl rfl ?_
  refine f_aload_n (pc := 28) cx dX10_ticks_28 rfl rfl ?_
  refine g_X10_30 (pc := 29) cx hk_o0 dX10_ticks_29 ?_
  refine f_sipush (pc := 32) cx dX10_ticks_32 kc_sipush_3477 ?_
  refine f_ialdk (pc := 35) (j := 3477) (n := 3715) cx (kf_9_20 hk_o0) (by decide) (by decide) kl_3477 dX10_ticks_35 ?_
  refine f_icmp_ge (pc := 36) (tgt := 129) cx dX10_ticks_36 (by decide) (fun _ => ?_) (fun _ => ?_)
  · refine f_aload_n (pc := 129) cx dX10_ticks_129 rfl rfl ?_
    refine f_bind (fun r11 hr11 => ?_)
    refine k_X10_150 (pc := 130) cx (c_X10_serves l G _ o0 hk_o0 r11 hr11) hk_o0 ⟨by decide, by decide⟩ ⟨Nat.zero_le _, Nat.zero_le _⟩ (Nat.le_of_ble_eq_true rfl) dX10_ticks_130 ?_
    refine f_pop (pc := 133) cx dX10_ticks_133 rfl ?_
    refine f_aload_n (pc := 134) cx dX10_ticks_134 rfl rfl ?_
    refine g_X10_30 (pc := 135) cx hk_o0 dX10_ticks_135 ?_
    refine f_iconst (pc := 138) cx dX10_ticks_138 kc_iconst_0 ?_
    refine f_dup2 (pc := 139) cx dX10_ticks_139 rfl rfl ?_
    refine f_ialdk (pc := 140) (j := 0) (n := 3715) cx (kf_9_20 hk_o0) (by decide) (by decide) kl_0 dX10_ticks_140 ?_
    refine f_iconst (pc := 141) cx dX10_ticks_141 kc_iconst_1 ?_
    refine f_iadd (pc := 142) cx dX10_ticks_142 ?_
    refine f_iastk (pc := 143) (j := 0) (n := 3715) cx (kf_9_20 hk_o0) (by decide) (by decide) kl_0 dX10_ticks_143 ?_
    refine f_nvh (fun h12 => ?_)
    exact f_vret cx hr hlk dX10_ticks_144
  · exact f_weak (LSb.s (LSb.s LSb.e)) (s_X10_ticks_39 cx hr hlk o0 q.2 hk_o0 k27 hk27 FU q.1)
set_option maxRecDepth 4000 in
theorem s_X10_ticks_2 {p : Program} {l : Launch} {e : Env} {s : State} {m : MethodId} {args : Array Value} {below : List Frame} {meth : Method} {c : Code} {G : GT} (cx : CX p s m args c cX10_ticks 2 RX10 G) (hr : meth.sig.returnType = none) (hlk : meth.locks = false) (o0 : Nat) (hk_o0 : kd o0 = 9) : ∀ (n : Nat) (q : Hp × Int32), PF p l e (rmc 6 137) s m args below meth c 2 G 0 0 (QV below G args s) 2 [some (.ref (gad G o0)), some (.int q.2)] [] q.1 (lp (b_X10_ticks_2 o0) n q) := by
  refine f_lp (lvf := fun (q : Hp × Int32) => [some (.ref (gad G o0)), some (.int q.2)]) (hf := fun (q : Hp × Int32) => q.1) (fun k2 hk2 q => ?_)
  show PF p l e (rmc 6 137) s m args below meth c 2 G 0 0 (QV below G args s) 2 [some (.ref (gad G o0)), some (.int q.2)] [] q.1 (b_X10_ticks_2 o0 k2 q)
  unfold b_X10_ticks_2
  refine f_iload_n (pc := 2) cx dX10_ticks_2 rfl rfl ?_
  refine f_aload_n (pc := 3) cx dX10_ticks_3 rfl rfl ?_
  refine g_X10_30 (pc := 4) cx hk_o0 dX10_ticks_4 ?_
  refine f_sipush (pc := 7) cx dX10_ticks_7 kc_sipush_3477 ?_
  refine f_ialdk (pc := 10) (j := 3477) (n := 3715) cx (kf_9_20 hk_o0) (by decide) (by decide) kl_3477 dX10_ticks_10 ?_
  refine f_icmp_ge (pc := 11) (tgt := 25) cx dX10_ticks_11 (by decide) (fun _ => ?_) (fun _ => ?_)
  · refine f_iconst (pc := 25) cx dX10_ticks_25 kc_iconst_0 ?_
    refine f_istore1 (pc := 26) cx dX10_ticks_26 (by decide) rfl ?_
    exact f_weak (LSb.s (LSb.s LSb.e)) (s_X10_ticks_27 cx hr hlk o0 hk_o0 FU (q.1, 0))
  · refine f_aload_n (pc := 14) cx dX10_ticks_14 rfl rfl ?_
    refine f_iload_n (pc := 15) cx dX10_ticks_15 rfl rfl ?_
    refine f_bind (fun r13 hr13 => ?_)
    refine k_X10_278 (pc := 16) cx (c_X10_hearsAll l G _ o0 q.2 hk_o0 r13 hr13) hk_o0 ⟨by decide, by decide⟩ ⟨Nat.zero_le _, Nat.zero_le _⟩ (Nat.le_of_ble_eq_true rfl) dX10_ticks_16 ?_
    refine f_iinc1 (pc := 19) cx dX10_ticks_19 kc_iconst_1 (by decide) rfl ?_
    refine f_goto (pc := 22) (tgt := 2) cx dX10_ticks_22 (by decide) ?_
    exact f_weak (LSb.s (LSb.s LSb.e)) (hk2 (r13, q.2 + 1))
set_option maxRecDepth 4000 in
theorem s_X10_ticks {p : Program} {l : Launch} {e : Env} {s : State} {m : MethodId} {args : Array Value} {below : List Frame} {meth : Method} {c : Code} {G : GT} (cx : CX p s m args c cX10_ticks 2 RX10 G) (hr : meth.sig.returnType = none) (hlk : meth.locks = false) (h : Hp) (o0 : Nat) (hk_o0 : kd o0 = 9) : PF p l e (rmc 6 137) s m args below meth c 2 G 0 0 (QV below G args s) 0 [some (.ref (gad G o0)), none] [] h (p_X10_ticks h o0) := by
  unfold p_X10_ticks
  refine f_iconst (pc := 0) cx dX10_ticks_0 kc_iconst_0 ?_
  refine f_istore1 (pc := 1) cx dX10_ticks_1 (by decide) rfl ?_
  exact f_weak (LSb.s (LSb.s LSb.e)) (s_X10_ticks_2 cx hr hlk o0 hk_o0 FU (h, 0))
set_option maxRecDepth 4000 in
theorem c_X10_ticks (l : Launch) (G : GT) (h : Hp) (o0 : Nat) (hk_o0 : kd o0 = 9) : CtV l G yX10_ticks cX10_ticks 2 none 6 137 [.ref (gad G o0)] h (p_X10_ticks h o0) := fun a ha => Ct.of (lv := [some (.ref (gad G o0)), none]) (by decide) rfl (Nat.le_of_ble_eq_true rfl) rfl (fun p e s m args below meth c cx hr hlk => s_X10_ticks cx hr hlk h o0 hk_o0 a ha)
def p_X10_go (h : Hp) (o0 : Nat) : Option (Int32 × Hp) :=
  nv (hp h o0 0 0) fun h1 => Option.bind (p_X10_serves h1 o0) fun r2 => some (r2.1, r2.2)
set_option maxRecDepth 4000 in
theorem s_X10_go {p : Program} {l : Launch} {e : Env} {s : State} {m : MethodId} {args : Array Value} {below : List Frame} {meth : Method} {c : Code} {G : GT} (cx : CX p s m args c cX10_go 1 RX10 G) (hr : meth.sig.returnType = (some .int)) (hlk : meth.locks = false) (h : Hp) (o0 : Nat) (hk_o0 : kd o0 = 9) : PF p l e (rmc 6 137) s m args below meth c 1 G 0 0 (QI below G args s) 0 [some (.ref (gad G o0))] [] h (p_X10_go h o0) := by
  unfold p_X10_go
  refine f_aload_n (pc := 0) cx dX10_go_0 rfl rfl ?_
  refine f_iconst (pc := 1) cx dX10_go_1 kc_iconst_0 ?_
  refine u_X10_45 (pc := 2) cx hk_o0 dX10_go_2 ?_
  refine f_nvh (fun h1 => ?_)
  refine f_aload_n (pc := 5) cx dX10_go_5 rfl rfl ?_
  refine f_bind (fun r2 hr2 => ?_)
  refine k_X10_150 (pc := 6) cx (c_X10_serves l G _ o0 hk_o0 r2 hr2) hk_o0 ⟨by decide, by decide⟩ ⟨Nat.zero_le _, Nat.zero_le _⟩ (Nat.le_of_ble_eq_true rfl) dX10_go_6 ?_
  exact f_iret cx hr hlk rfl dX10_go_9
set_option maxRecDepth 4000 in
theorem c_X10_go (l : Launch) (G : GT) (h : Hp) (o0 : Nat) (hk_o0 : kd o0 = 9) : CtI l G yX10_go cX10_go 1 (some .int) 6 137 [.ref (gad G o0)] h (p_X10_go h o0) := fun a ha => Ct.of (lv := [some (.ref (gad G o0))]) (by decide) rfl (Nat.le_of_ble_eq_true rfl) rfl (fun p e s m args below meth c cx hr hlk => s_X10_go cx hr hlk h o0 hk_o0 a ha)
def b_X10_ahead_26 (o0 : Nat) (x1 : Int32) (k26 : Hp × Int32 × Int32 → Option (Int32 × Hp)) (q : Hp × Int32 × Int32) : Option (Int32 × Hp) :=
  if x1 < q.2.2 then (Option.bind (p_X10_copies q.1 (o0 + 7) (o0 + 6)) fun r1 => some (q.2.1, r1)) else (if q.2.1 < 0 then (Option.bind (p_X10_copies q.1 (o0 + 7) (o0 + 6)) fun r2 => some (q.2.1, r2)) else (Option.bind (p_X10_serves q.1 o0) fun r3 => k26 (r3.2, r3.1, q.2.2 + 1)))
def p_X10_ahead (h : Hp) (o0 : Nat) (x1 : Int32) : Option (Int32 × Hp) :=
  nv (hp h o0 0 0) fun h4 => if 0 ≤ x1 then (Option.bind (p_X10_copies h4 (o0 + 6) (o0 + 7)) fun r5 => lp (b_X10_ahead_26 o0 x1) FU (r5, 0, 0)) else (some ((-1), h4))
set_option maxRecDepth 4000 in
theorem s_X10_ahead_26 {p : Program} {l : Launch} {e : Env} {s : State} {m : MethodId} {args : Array Value} {below : List Frame} {meth : Method} {c : Code} {G : GT} (cx : CX p s m args c cX10_ahead 4 RX10 G) (hr : meth.sig.returnType = (some .int)) (hlk : meth.locks = false) (o0 : Nat) (x1 : Int32) (hk_o0 : kd o0 = 9) : ∀ (n : Nat) (q : Hp × Int32 × Int32), PF p l e (rmc 6 137) s m args below meth c 4 G 0 0 (QI below G args s) 26 [some (.ref (gad G o0)), some (.int x1), some (.int q.2.1), some (.int q.2.2)] [] q.1 (lp (b_X10_ahead_26 o0 x1) n q) := by
  refine f_lp (lvf := fun (q : Hp × Int32 × Int32) => [some (.ref (gad G o0)), some (.int x1), some (.int q.2.1), some (.int q.2.2)]) (hf := fun (q : Hp × Int32 × Int32) => q.1) (fun k26 hk26 q => ?_)
  show PF p l e (rmc 6 137) s m args below meth c 4 G 0 0 (QI below G args s) 26 [some (.ref (gad G o0)), some (.int x1), some (.int q.2.1), some (.int q.2.2)] [] q.1 (b_X10_ahead_26 o0 x1 k26 q)
  unfold b_X10_ahead_26
  refine f_iload_n (pc := 26) cx dX10_ahead_26 rfl rfl ?_
  refine f_iload_n (pc := 27) cx dX10_ahead_27 rfl rfl ?_
  refine f_icmp_gt (pc := 28) (tgt := 46) cx dX10_ahead_28 (by decide) (fun _ => ?_) (fun _ => ?_)
  · refine f_aload_n (pc := 46) cx dX10_ahead_46 rfl rfl ?_
    refine g_X10_33 (pc := 47) cx hk_o0 dX10_ahead_47 ?_
    refine f_aload_n (pc := 50) cx dX10_ahead_50 rfl rfl ?_
    refine g_X10_30 (pc := 51) cx hk_o0 dX10_ahead_51 ?_
    refine f_bind (fun r1 hr1 => ?_)
    refine k_X10_287 (pc := 54) cx (c_X10_copies l G _ (o0 + 7) (o0 + 6) (kf_9_21 hk_o0) (kf_9_20 hk_o0) r1 hr1) ⟨by decide, by decide⟩ ⟨Nat.zero_le _, Nat.zero_le _⟩ (Nat.le_of_ble_eq_true rfl) dX10_ahead_54 ?_
    refine f_iload_n (pc := 57) cx dX10_ahead_57 rfl rfl ?_
    exact f_iret cx hr hlk rfl dX10_ahead_58
  · refine f_iload_n (pc := 31) cx dX10_ahead_31 rfl rfl ?_
    refine f_if_lt (pc := 32) (tgt := 46) cx dX10_ahead_32 (by decide) (fun _ => ?_) (fun _ => ?_)
    · refine f_aload_n (pc := 46) cx dX10_ahead_46 rfl rfl ?_
      refine g_X10_33 (pc := 47) cx hk_o0 dX10_ahead_47 ?_
      refine f_aload_n (pc := 50) cx dX10_ahead_50 rfl rfl ?_
      refine g_X10_30 (pc := 51) cx hk_o0 dX10_ahead_51 ?_
      refine f_bind (fun r2 hr2 => ?_)
      refine k_X10_287 (pc := 54) cx (c_X10_copies l G _ (o0 + 7) (o0 + 6) (kf_9_21 hk_o0) (kf_9_20 hk_o0) r2 hr2) ⟨by decide, by decide⟩ ⟨Nat.zero_le _, Nat.zero_le _⟩ (Nat.le_of_ble_eq_true rfl) dX10_ahead_54 ?_
      refine f_iload_n (pc := 57) cx dX10_ahead_57 rfl rfl ?_
      exact f_iret cx hr hlk rfl dX10_ahead_58
    · refine f_aload_n (pc := 35) cx dX10_ahead_35 rfl rfl ?_
      refine f_bind (fun r3 hr3 => ?_)
      refine k_X10_150 (pc := 36) cx (c_X10_serves l G _ o0 hk_o0 r3 hr3) hk_o0 ⟨by decide, by decide⟩ ⟨Nat.zero_le _, Nat.zero_le _⟩ (Nat.le_of_ble_eq_true rfl) dX10_ahead_36 ?_
      refine f_istore2 (pc := 39) cx dX10_ahead_39 (by decide) rfl ?_
      refine f_iinc3 (pc := 40) cx dX10_ahead_40 kc_iconst_1 (by decide) rfl ?_
      refine f_goto (pc := 43) (tgt := 26) cx dX10_ahead_43 (by decide) ?_
      exact f_weak (LSb.s (LSb.s (LSb.s (LSb.s LSb.e)))) (hk26 (r3.2, r3.1, q.2.2 + 1))
set_option maxRecDepth 4000 in
theorem s_X10_ahead {p : Program} {l : Launch} {e : Env} {s : State} {m : MethodId} {args : Array Value} {below : List Frame} {meth : Method} {c : Code} {G : GT} (cx : CX p s m args c cX10_ahead 4 RX10 G) (hr : meth.sig.returnType = (some .int)) (hlk : meth.locks = false) (h : Hp) (o0 : Nat) (x1 : Int32) (hk_o0 : kd o0 = 9) : PF p l e (rmc 6 137) s m args below meth c 4 G 0 0 (QI below G args s) 0 [some (.ref (gad G o0)), some (.int x1), none, none] [] h (p_X10_ahead h o0 x1) := by
  unfold p_X10_ahead
  refine f_aload_n (pc := 0) cx dX10_ahead_0 rfl rfl ?_
  refine f_iconst (pc := 1) cx dX10_ahead_1 kc_iconst_0 ?_
  refine u_X10_45 (pc := 2) cx hk_o0 dX10_ahead_2 ?_
  refine f_nvh (fun h4 => ?_)
  refine f_iload_n (pc := 5) cx dX10_ahead_5 rfl rfl ?_
  refine f_if_ge (pc := 6) (tgt := 11) cx dX10_ahead_6 (by decide) (fun _ => ?_) (fun _ => ?_)
  · refine f_aload_n (pc := 11) cx dX10_ahead_11 rfl rfl ?_
    refine g_X10_30 (pc := 12) cx hk_o0 dX10_ahead_12 ?_
    refine f_aload_n (pc := 15) cx dX10_ahead_15 rfl rfl ?_
    refine g_X10_33 (pc := 16) cx hk_o0 dX10_ahead_16 ?_
    refine f_bind (fun r5 hr5 => ?_)
    refine k_X10_287 (pc := 19) cx (c_X10_copies l G _ (o0 + 6) (o0 + 7) (kf_9_20 hk_o0) (kf_9_21 hk_o0) r5 hr5) ⟨by decide, by decide⟩ ⟨Nat.zero_le _, Nat.zero_le _⟩ (Nat.le_of_ble_eq_true rfl) dX10_ahead_19 ?_
    refine f_iconst (pc := 22) cx dX10_ahead_22 kc_iconst_0 ?_
    refine f_istore2 (pc := 23) cx dX10_ahead_23 (by decide) rfl ?_
    refine f_iconst (pc := 24) cx dX10_ahead_24 kc_iconst_0 ?_
    refine f_istore3 (pc := 25) cx dX10_ahead_25 (by decide) rfl ?_
    exact f_weak (LSb.s (LSb.s (LSb.s (LSb.s LSb.e)))) (s_X10_ahead_26 cx hr hlk o0 x1 hk_o0 FU (r5, 0, 0))
  · refine f_iconst (pc := 9) cx dX10_ahead_9 kc_iconst_m1 ?_
    exact f_iret cx hr hlk rfl dX10_ahead_10
set_option maxRecDepth 4000 in
theorem c_X10_ahead (l : Launch) (G : GT) (h : Hp) (o0 : Nat) (x1 : Int32) (hk_o0 : kd o0 = 9) : CtI l G yX10_ahead cX10_ahead 4 (some .int) 6 137 [.ref (gad G o0), .int x1] h (p_X10_ahead h o0 x1) := fun a ha => Ct.of (lv := [some (.ref (gad G o0)), some (.int x1), none, none]) (by decide) rfl (Nat.le_of_ble_eq_true rfl) rfl (fun p e s m args below meth c cx hr hlk => s_X10_ahead cx hr hlk h o0 x1 hk_o0 a ha)
def b_X10_drains_0 (o0 : Nat) (x1 : Int32) (k0 : Hp → Option Hp) (q : Hp) : Option Hp :=
  if (q (o0 + 6) 2) ≤ 0 then (some q) else (Option.bind (p_X10_serves q o0) fun r1 => nv (hp r1.2 (o0 + 6) 0 ((r1.2 (o0 + 6) 0) + x1)) fun h2 => k0 h2)
def p_X10_drains (h : Hp) (o0 : Nat) (x1 : Int32) : Option Hp :=
  lp (b_X10_drains_0 o0 x1) FU h
set_option maxRecDepth 4000 in
theorem s_X10_drains_0 {p : Program} {l : Launch} {e : Env} {s : State} {m : MethodId} {args : Array Value} {below : List Frame} {meth : Method} {c : Code} {G : GT} (cx : CX p s m args c cX10_drains 2 RX10 G) (hr : meth.sig.returnType = none) (hlk : meth.locks = false) (o0 : Nat) (x1 : Int32) (hk_o0 : kd o0 = 9) : ∀ (n : Nat) (q : Hp), PF p l e (rmc 6 137) s m args below meth c 2 G 0 0 (QV below G args s) 0 [some (.ref (gad G o0)), some (.int x1)] [] q (lp (b_X10_drains_0 o0 x1) n q) := by
  refine f_lp (lvf := fun (q : Hp) => [some (.ref (gad G o0)), some (.int x1)]) (hf := fun (q : Hp) => q) (fun k0 hk0 q => ?_)
  show PF p l e (rmc 6 137) s m args below meth c 2 G 0 0 (QV below G args s) 0 [some (.ref (gad G o0)), some (.int x1)] [] q (b_X10_drains_0 o0 x1 k0 q)
  unfold b_X10_drains_0
  refine f_aload_n (pc := 0) cx dX10_drains_0 rfl rfl ?_
  refine g_X10_30 (pc := 1) cx hk_o0 dX10_drains_1 ?_
  refine f_iconst (pc := 4) cx dX10_drains_4 kc_iconst_2 ?_
  refine f_ialdk (pc := 5) (j := 2) (n := 3715) cx (kf_9_20 hk_o0) (by decide) (by decide) kl_2 dX10_drains_5 ?_
  refine f_if_le (pc := 6) (tgt := 27) cx dX10_drains_6 (by decide) (fun _ => ?_) (fun _ => ?_)
  · exact f_vret cx hr hlk dX10_drains_27
  · refine f_aload_n (pc := 9) cx dX10_drains_9 rfl rfl ?_
    refine f_bind (fun r1 hr1 => ?_)
    refine k_X10_150 (pc := 10) cx (c_X10_serves l G _ o0 hk_o0 r1 hr1) hk_o0 ⟨by decide, by decide⟩ ⟨Nat.zero_le _, Nat.zero_le _⟩ (Nat.le_of_ble_eq_true rfl) dX10_drains_10 ?_
    refine f_pop (pc := 13) cx dX10_drains_13 rfl ?_
    refine f_aload_n (pc := 14) cx dX10_drains_14 rfl rfl ?_
    refine g_X10_30 (pc := 15) cx hk_o0 dX10_drains_15 ?_
    refine f_iconst (pc := 18) cx dX10_drains_18 kc_iconst_0 ?_
    refine f_dup2 (pc := 19) cx dX10_drains_19 rfl rfl ?_
    refine f_ialdk (pc := 20) (j := 0) (n := 3715) cx (kf_9_20 hk_o0) (by decide) (by decide) kl_0 dX10_drains_20 ?_
    refine f_iload_n (pc := 21) cx dX10_drains_21 rfl rfl ?_
    refine f_iadd (pc := 22) cx dX10_drains_22 ?_
    refine f_iastk (pc := 23) (j := 0) (n := 3715) cx (kf_9_20 hk_o0) (by decide) (by decide) kl_0 dX10_drains_23 ?_
    refine f_nvh (fun h2 => ?_)
    refine f_goto (pc := 24) (tgt := 0) cx dX10_drains_24 (by decide) ?_
    exact f_weak (LSb.s (LSb.s LSb.e)) (hk0 h2)
set_option maxRecDepth 4000 in
theorem s_X10_drains {p : Program} {l : Launch} {e : Env} {s : State} {m : MethodId} {args : Array Value} {below : List Frame} {meth : Method} {c : Code} {G : GT} (cx : CX p s m args c cX10_drains 2 RX10 G) (hr : meth.sig.returnType = none) (hlk : meth.locks = false) (h : Hp) (o0 : Nat) (x1 : Int32) (hk_o0 : kd o0 = 9) : PF p l e (rmc 6 137) s m args below meth c 2 G 0 0 (QV below G args s) 0 [some (.ref (gad G o0)), some (.int x1)] [] h (p_X10_drains h o0 x1) := by
  unfold p_X10_drains
  exact f_weak (LSb.s (LSb.s LSb.e)) (s_X10_drains_0 cx hr hlk o0 x1 hk_o0 FU h)
set_option maxRecDepth 4000 in
theorem c_X10_drains (l : Launch) (G : GT) (h : Hp) (o0 : Nat) (x1 : Int32) (hk_o0 : kd o0 = 9) : CtV l G yX10_drains cX10_drains 2 none 6 137 [.ref (gad G o0), .int x1] h (p_X10_drains h o0 x1) := fun a ha => Ct.of (lv := [some (.ref (gad G o0)), some (.int x1)]) (by decide) rfl (Nat.le_of_ble_eq_true rfl) rfl (fun p e s m args below meth c cx hr hlk => s_X10_drains cx hr hlk h o0 x1 hk_o0 a ha)
def b_X10_doesAll_95 (k2 : Hp × Int32 → Option Hp) (o0 : Nat) (x1 : Int32) (x2 : Int32) (k95 : Hp × Int32 → Option Hp) (q : Hp × Int32) : Option Hp :=
  if ib (x1 + 1) 900 then (if (q.1 (o0 + 5) (Int32.toNatClampNeg (x1 + 1))) ≤ q.2 then (k2 (q.1, x1 + 2)) else (if x2 ≤ 10 then (k2 (q.1, x1 + 2)) else (if x2 = 11 then (Option.bind (p_X10_serves q.1 o0) fun r2 => k95 (r2.2, q.2 + 1)) else (Option.bind (p_X10_ticks q.1 o0) fun r3 => k95 (r3, q.2 + 1))))) else none
def b_X10_doesAll_2 (o0 : Nat) (k2 : Hp × Int32 → Option Hp) (q : Hp × Int32) : Option Hp :=
  if (q.1 o0 8) ≤ q.2 then (some q.1) else (if ib q.2 900 then (nv (q.1 (o0 + 5) (Int32.toNatClampNeg q.2)) fun v5 => if v5 = 9 then (if 200 ≤ (q.1 (o0 + 6) 1) then (k2 (q.1, q.2 + 4)) else (if ib (q.2 + 1) 900 then (if ib (q.2 + 2) 900 then (if ib (q.2 + 3) 900 then (Option.bind (p_X10_comesIn q.1 o0 (q.1 (o0 + 5) (Int32.toNatClampNeg (q.2 + 1))) (q.1 (o0 + 5) (Int32.toNatClampNeg (q.2 + 2))) (q.1 (o0 + 5) (Int32.toNatClampNeg (q.2 + 3)))) fun r9 => k2 (r9.2, q.2 + 4)) else none) else none) else none)) else (if v5 = 10 then (if ib (q.2 + 1) 900 then (nv (hp q.1 (o0 + 6) 0 ((q.1 (o0 + 6) 0) + (q.1 (o0 + 5) (Int32.toNatClampNeg (q.2 + 1))))) fun h11 => lp (b_X10_doesAll_95 k2 o0 q.2 v5) FU (h11, 0)) else none) else (lp (b_X10_doesAll_95 k2 o0 q.2 v5) FU (q.1, 0)))) else none)
def p_X10_doesAll (h : Hp) (o0 : Nat) : Option Hp :=
  lp (b_X10_doesAll_2 o0) FU (h, 0)
set_option maxRecDepth 4000 in
theorem s_X10_doesAll_95 {p : Program} {l : Launch} {e : Env} {s : State} {m : MethodId} {args : Array Value} {below : List Frame} {meth : Method} {c : Code} {G : GT} (cx : CX p s m args c cX10_doesAll 4 RX10 G) (hr : meth.sig.returnType = none) (hlk : meth.locks = false) (o0 : Nat) (x1 : Int32) (x2 : Int32) (hk_o0 : kd o0 = 9) (k2 : Hp × Int32 → Option Hp) (hk2 : ∀ (q : Hp × Int32), PF p l e (rmc 7 158) s m args below meth c 4 G 0 0 (QV below G args s) 2 [some (.ref (gad G o0)), some (.int q.2), none, none] [] q.1 (k2 q)) : ∀ (n : Nat) (q : Hp × Int32), PF p l e (rmc 7 158) s m args below meth c 4 G 0 0 (QV below G args s) 95 [some (.ref (gad G o0)), some (.int x1), some (.int x2), some (.int q.2)] [] q.1 (lp (b_X10_doesAll_95 k2 o0 x1 x2) n q) := by
  refine f_lp (lvf := fun (q : Hp × Int32) => [some (.ref (gad G o0)), some (.int x1), some (.int x2), some (.int q.2)]) (hf := fun (q : Hp × Int32) => q.1) (fun k95 hk95 q => ?_)
  show PF p l e (rmc 7 158) s m args below meth c 4 G 0 0 (QV below G args s) 95 [some (.ref (gad G o0)), some (.int x1), some (.int x2), some (.int q.2)] [] q.1 (b_X10_doesAll_95 k2 o0 x1 x2 k95 q)
  unfold b_X10_doesAll_95
  refine f_iload_n (pc := 95) cx dX10_doesAll_95 rfl rfl ?_
  refine f_aload_n (pc := 96) cx dX10_doesAll_96 rfl rfl ?_
  refine g_X10_23 (pc := 97) cx hk_o0 dX10_doesAll_97 ?_
  refine f_iload_n (pc := 100) cx dX10_doesAll_100 rfl rfl ?_
  refine f_iconst (pc := 101) cx dX10_doesAll_101 kc_iconst_1 ?_
  refine f_iadd (pc := 102) cx dX10_doesAll_102 ?_
  refine f_need (fun c1 => ?_)
  refine f_iald (pc := 103) (n := 900) cx (kf_9_7 hk_o0) (by decide) c1 dX10_doesAll_103 ?_
  refine f_icmp_ge (pc := 104) (tgt := 137) cx dX10_doesAll_104 (by decide) (fun _ => ?_) (fun _ => ?_)
  · refine f_iinc1 (pc := 137) cx dX10_doesAll_137 kc_iconst_2 (by decide) rfl ?_
    refine f_goto (pc := 140) (tgt := 2) cx dX10_doesAll_140 (by decide) ?_
    exact f_weak (LSb.s (LSb.s (LSb.n (LSb.n LSb.e)))) (hk2 (q.1, x1 + 2))
  · refine f_iload_n (pc := 107) cx dX10_doesAll_107 rfl rfl ?_
    refine f_bipush (pc := 108) cx dX10_doesAll_108 kc_bipush_10 ?_
    refine f_icmp_le (pc := 110) (tgt := 137) cx dX10_doesAll_110 (by decide) (fun _ => ?_) (fun _ => ?_)
    · refine f_iinc1 (pc := 137) cx dX10_doesAll_137 kc_iconst_2 (by decide) rfl ?_
      refine f_goto (pc := 140) (tgt := 2) cx dX10_doesAll_140 (by decide) ?_
      exact f_weak (LSb.s (LSb.s (LSb.n (LSb.n LSb.e)))) (hk2 (q.1, x1 + 2))
    · refine f_iload_n (pc := 113) cx dX10_doesAll_113 rfl rfl ?_
      refine f_bipush (pc := 114) cx dX10_doesAll_114 kc_bipush_11 ?_
      refine f_icmp_ne (pc := 116) (tgt := 127) cx dX10_doesAll_116 (by decide) (fun _ => ?_) (fun _ => ?_)
      · refine f_aload_n (pc := 119) cx dX10_doesAll_119 rfl rfl ?_
        refine f_bind (fun r2 hr2 => ?_)
        refine k_X10_150 (pc := 120) cx (c_X10_serves l G _ o0 hk_o0 r2 hr2) hk_o0 ⟨by decide, by decide⟩ ⟨Nat.zero_le _, Nat.zero_le _⟩ (Nat.le_of_ble_eq_true rfl) dX10_doesAll_120 ?_
        refine f_pop (pc := 123) cx dX10_doesAll_123 rfl ?_
        refine f_goto (pc := 124) (tgt := 131) cx dX10_doesAll_124 (by decide) ?_
        refine f_iinc3 (pc := 131) cx dX10_doesAll_131 kc_iconst_1 (by decide) rfl ?_
        refine f_goto (pc := 134) (tgt := 95) cx dX10_doesAll_134 (by decide) ?_
        exact f_weak (LSb.s (LSb.s (LSb.s (LSb.s LSb.e)))) (hk95 (r2.2, q.2 + 1))
      · refine f_aload_n (pc := 127) cx dX10_doesAll_127 rfl rfl ?_
        refine f_bind (fun r3 hr3 => ?_)
        refine k_X10_153 (pc := 128) cx (c_X10_ticks l G _ o0 hk_o0 r3 hr3) hk_o0 ⟨by decide, by decide⟩ ⟨Nat.zero_le _, Nat.zero_le _⟩ (Nat.le_of_ble_eq_true rfl) dX10_doesAll_128 ?_
        refine f_iinc3 (pc := 131) cx dX10_doesAll_131 kc_iconst_1 (by decide) rfl ?_
        refine f_goto (pc := 134) (tgt := 95) cx dX10_doesAll_134 (by decide) ?_
        exact f_weak (LSb.s (LSb.s (LSb.s (LSb.s LSb.e)))) (hk95 (r3, q.2 + 1))
set_option maxRecDepth 4000 in
theorem s_X10_doesAll_2 {p : Program} {l : Launch} {e : Env} {s : State} {m : MethodId} {args : Array Value} {below : List Frame} {meth : Method} {c : Code} {G : GT} (cx : CX p s m args c cX10_doesAll 4 RX10 G) (hr : meth.sig.returnType = none) (hlk : meth.locks = false) (o0 : Nat) (hk_o0 : kd o0 = 9) : ∀ (n : Nat) (q : Hp × Int32), PF p l e (rmc 7 158) s m args below meth c 4 G 0 0 (QV below G args s) 2 [some (.ref (gad G o0)), some (.int q.2), none, none] [] q.1 (lp (b_X10_doesAll_2 o0) n q) := by
  refine f_lp (lvf := fun (q : Hp × Int32) => [some (.ref (gad G o0)), some (.int q.2), none, none]) (hf := fun (q : Hp × Int32) => q.1) (fun k2 hk2 q => ?_)
  show PF p l e (rmc 7 158) s m args below meth c 4 G 0 0 (QV below G args s) 2 [some (.ref (gad G o0)), some (.int q.2), none, none] [] q.1 (b_X10_doesAll_2 o0 k2 q)
  unfold b_X10_doesAll_2
  refine f_iload_n (pc := 2) cx dX10_doesAll_2 rfl rfl ?_
  refine f_aload_n (pc := 3) cx dX10_doesAll_3 rfl rfl ?_
  refine g_X10_108 (pc := 4) cx hk_o0 dX10_doesAll_4 ?_
  refine f_icmp_ge (pc := 7) (tgt := 143) cx dX10_doesAll_7 (by decide) (fun _ => ?_) (fun _ => ?_)
  · exact f_vret cx hr hlk dX10_doesAll_143
  · refine f_aload_n (pc := 10) cx dX10_doesAll_10 rfl rfl ?_
    refine g_X10_23 (pc := 11) cx hk_o0 dX10_doesAll_11 ?_
    refine f_iload_n (pc := 14) cx dX10_doesAll_14 rfl rfl ?_
    refine f_need (fun c4 => ?_)
    refine f_iald (pc := 15) (n := 900) cx (kf_9_7 hk_o0) (by decide) c4 dX10_doesAll_15 ?_
    refine f_nvi (fun v5 => ?_)
    refine f_istore2 (pc := 16) cx dX10_doesAll_16 (by decide) rfl ?_
    refine f_iload_n (pc := 17) cx dX10_doesAll_17 rfl rfl ?_
    refine f_bipush (pc := 18) cx dX10_doesAll_18 kc_bipush_9 ?_
    refine f_icmp_ne (pc := 20) (tgt := 70) cx dX10_doesAll_20 (by decide) (fun _ => ?_) (fun _ => ?_)
    · refine f_aload_n (pc := 23) cx dX10_doesAll_23 rfl rfl ?_
      refine g_X10_30 (pc := 24) cx hk_o0 dX10_doesAll_24 ?_
      refine f_iconst (pc := 27) cx dX10_doesAll_27 kc_iconst_1 ?_
      refine f_ialdk (pc := 28) (j := 1) (n := 3715) cx (kf_9_20 hk_o0) (by decide) (by decide) kl_1 dX10_doesAll_28 ?_
      refine f_sipush (pc := 29) cx dX10_doesAll_29 kc_sipush_200 ?_
      refine f_icmp_ge (pc := 32) (tgt := 64) cx dX10_doesAll_32 (by decide) (fun _ => ?_) (fun _ => ?_)
      · refine f_iinc1 (pc := 64) cx dX10_doesAll_64 kc_iconst_4 (by decide) rfl ?_
        refine f_goto (pc := 67) (tgt := 140) cx dX10_doesAll_67 (by decide) ?_
        refine f_goto (pc := 140) (tgt := 2) cx dX10_doesAll_140 (by decide) ?_
        exact f_weak (LSb.s (LSb.s (LSb.n (LSb.n LSb.e)))) (hk2 (q.1, q.2 + 4))
      · refine f_aload_n (pc := 35) cx dX10_doesAll_35 rfl rfl ?_
        refine f_aload_n (pc := 36) cx dX10_doesAll_36 rfl rfl ?_
        refine g_X10_23 (pc := 37) cx hk_o0 dX10_doesAll_37 ?_
        refine f_iload_n (pc := 40) cx dX10_doesAll_40 rfl rfl ?_
        refine f_iconst (pc := 41) cx dX10_doesAll_41 kc_iconst_1 ?_
        refine f_iadd (pc := 42) cx dX10_doesAll_42 ?_
        refine f_need (fun c6 => ?_)
        refine f_iald (pc := 43) (n := 900) cx (kf_9_7 hk_o0) (by decide) c6 dX10_doesAll_43 ?_
        refine f_aload_n (pc := 44) cx dX10_doesAll_44 rfl rfl ?_
        refine g_X10_23 (pc := 45) cx hk_o0 dX10_doesAll_45 ?_
        refine f_iload_n (pc := 48) cx dX10_doesAll_48 rfl rfl ?_
        refine f_iconst (pc := 49) cx dX10_doesAll_49 kc_iconst_2 ?_
        refine f_iadd (pc := 50) cx dX10_doesAll_50 ?_
        refine f_need (fun c7 => ?_)
        refine f_iald (pc := 51) (n := 900) cx (kf_9_7 hk_o0) (by decide) c7 dX10_doesAll_51 ?_
        refine f_aload_n (pc := 52) cx dX10_doesAll_52 rfl rfl ?_
        refine g_X10_23 (pc := 53) cx hk_o0 dX10_doesAll_53 ?_
        refine f_iload_n (pc := 56) cx dX10_doesAll_56 rfl rfl ?_
        refine f_iconst (pc := 57) cx dX10_doesAll_57 kc_iconst_3 ?_
        refine f_iadd (pc := 58) cx dX10_doesAll_58 ?_
        refine f_need (fun c8 => ?_)
        refine f_iald (pc := 59) (n := 900) cx (kf_9_7 hk_o0) (by decide) c8 dX10_doesAll_59 ?_
        refine f_bind (fun r9 hr9 => ?_)
        refine k_X10_146 (pc := 60) cx (c_X10_comesIn l G _ o0 (q.1 (o0 + 5) (Int32.toNatClampNeg (q.2 + 1))) (q.1 (o0 + 5) (Int32.toNatClampNeg (q.2 + 2))) (q.1 (o0 + 5) (Int32.toNatClampNeg (q.2 + 3))) hk_o0 r9 hr9) hk_o0 ⟨by decide, by decide⟩ ⟨Nat.zero_le _, Nat.zero_le _⟩ (Nat.le_of_ble_eq_true rfl) dX10_doesAll_60 ?_
        refine f_pop (pc := 63) cx dX10_doesAll_63 rfl ?_
        refine f_iinc1 (pc := 64) cx dX10_doesAll_64 kc_iconst_4 (by decide) rfl ?_
        refine f_goto (pc := 67) (tgt := 140) cx dX10_doesAll_67 (by decide) ?_
        refine f_goto (pc := 140) (tgt := 2) cx dX10_doesAll_140 (by decide) ?_
        exact f_weak (LSb.s (LSb.s (LSb.n (LSb.n LSb.e)))) (hk2 (r9.2, q.2 + 4))
    · refine f_iload_n (pc := 70) cx dX10_doesAll_70 rfl rfl ?_
      refine f_bipush (pc := 71) cx dX10_doesAll_71 kc_bipush_10 ?_
      refine f_icmp_ne (pc := 73) (tgt := 93) cx dX10_doesAll_73 (by decide) (fun _ => ?_) (fun _ => ?_)
      · refine f_aload_n (pc := 76) cx dX10_doesAll_76 rfl rfl ?_
        refine g_X10_30 (pc := 77) cx hk_o0 dX10_doesAll_77 ?_
        refine f_iconst (pc := 80) cx dX10_doesAll_80 kc_iconst_0 ?_
        refine f_dup2 (pc := 81) cx dX10_doesAll_81 rfl rfl ?_
        refine f_ialdk (pc := 82) (j := 0) (n := 3715) cx (kf_9_20 hk_o0) (by decide) (by decide) kl_0 dX10_doesAll_82 ?_
        refine f_aload_n (pc := 83) cx dX10_doesAll_83 rfl rfl ?_
        refine g_X10_23 (pc := 84) cx hk_o0 dX10_doesAll_84 ?_
        refine f_iload_n (pc := 87) cx dX10_doesAll_87 rfl rfl ?_
        refine f_iconst (pc := 88) cx dX10_doesAll_88 kc_iconst_1 ?_
        refine f_iadd (pc := 89) cx dX10_doesAll_89 ?_
        refine f_need (fun c10 => ?_)
        refine f_iald (pc := 90) (n := 900) cx (kf_9_7 hk_o0) (by decide) c10 dX10_doesAll_90 ?_
        refine f_iadd (pc := 91) cx dX10_doesAll_91 ?_
        refine f_iastk (pc := 92) (j := 0) (n := 3715) cx (kf_9_20 hk_o0) (by decide) (by decide) kl_0 dX10_doesAll_92 ?_
        refine f_nvh (fun h11 => ?_)
        refine f_iconst (pc := 93) cx dX10_doesAll_93 kc_iconst_0 ?_
        refine f_istore3 (pc := 94) cx dX10_doesAll_94 (by decide) rfl ?_
        exact f_weak (LSb.s (LSb.s (LSb.s (LSb.s LSb.e)))) (s_X10_doesAll_95 cx hr hlk o0 q.2 v5 hk_o0 k2 hk2 FU (h11, 0))
      · refine f_iconst (pc := 93) cx dX10_doesAll_93 kc_iconst_0 ?_
        refine f_istore3 (pc := 94) cx dX10_doesAll_94 (by decide) rfl ?_
        exact f_weak (LSb.s (LSb.s (LSb.s (LSb.s LSb.e)))) (s_X10_doesAll_95 cx hr hlk o0 q.2 v5 hk_o0 k2 hk2 FU (q.1, 0))
set_option maxRecDepth 4000 in
theorem s_X10_doesAll {p : Program} {l : Launch} {e : Env} {s : State} {m : MethodId} {args : Array Value} {below : List Frame} {meth : Method} {c : Code} {G : GT} (cx : CX p s m args c cX10_doesAll 4 RX10 G) (hr : meth.sig.returnType = none) (hlk : meth.locks = false) (h : Hp) (o0 : Nat) (hk_o0 : kd o0 = 9) : PF p l e (rmc 7 158) s m args below meth c 4 G 0 0 (QV below G args s) 0 [some (.ref (gad G o0)), none, none, none] [] h (p_X10_doesAll h o0) := by
  unfold p_X10_doesAll
  refine f_iconst (pc := 0) cx dX10_doesAll_0 kc_iconst_0 ?_
  refine f_istore1 (pc := 1) cx dX10_doesAll_1 (by decide) rfl ?_
  exact f_weak (LSb.s (LSb.s (LSb.n (LSb.n LSb.e)))) (s_X10_doesAll_2 cx hr hlk o0 hk_o0 FU (h, 0))
set_option maxRecDepth 4000 in
theorem c_X10_doesAll (l : Launch) (G : GT) (h : Hp) (o0 : Nat) (hk_o0 : kd o0 = 9) : CtV l G yX10_doesAll cX10_doesAll 4 none 7 158 [.ref (gad G o0)] h (p_X10_doesAll h o0) := fun a ha => Ct.of (lv := [some (.ref (gad G o0)), none, none, none]) (by decide) rfl (Nat.le_of_ble_eq_true rfl) rfl (fun p e s m args below meth c cx hr hlk => s_X10_doesAll cx hr hlk h o0 hk_o0 a ha)
def b_X10_runs_2 (o0 : Nat) (x1 : Int32) (k2 : Hp × Int32 → Option Hp) (q : Hp × Int32) : Option Hp :=
  if x1 ≤ q.2 then (some q.1) else (Option.bind (p_X10_ticks q.1 o0) fun r1 => k2 (r1, q.2 + 1))
def p_X10_runs (h : Hp) (o0 : Nat) (x1 : Int32) : Option Hp :=
  lp (b_X10_runs_2 o0 x1) FU (h, 0)
set_option maxRecDepth 4000 in
theorem s_X10_runs_2 {p : Program} {l : Launch} {e : Env} {s : State} {m : MethodId} {args : Array Value} {below : List Frame} {meth : Method} {c : Code} {G : GT} (cx : CX p s m args c cX10_runs 3 RX10 G) (hr : meth.sig.returnType = none) (hlk : meth.locks = false) (o0 : Nat) (x1 : Int32) (hk_o0 : kd o0 = 9) : ∀ (n : Nat) (q : Hp × Int32), PF p l e (rmc 7 158) s m args below meth c 3 G 0 0 (QV below G args s) 2 [some (.ref (gad G o0)), some (.int x1), some (.int q.2)] [] q.1 (lp (b_X10_runs_2 o0 x1) n q) := by
  refine f_lp (lvf := fun (q : Hp × Int32) => [some (.ref (gad G o0)), some (.int x1), some (.int q.2)]) (hf := fun (q : Hp × Int32) => q.1) (fun k2 hk2 q => ?_)
  show PF p l e (rmc 7 158) s m args below meth c 3 G 0 0 (QV below G args s) 2 [some (.ref (gad G o0)), some (.int x1), some (.int q.2)] [] q.1 (b_X10_runs_2 o0 x1 k2 q)
  unfold b_X10_runs_2
  refine f_iload_n (pc := 2) cx dX10_runs_2 rfl rfl ?_
  refine f_iload_n (pc := 3) cx dX10_runs_3 rfl rfl ?_
  refine f_icmp_ge (pc := 4) (tgt := 17) cx dX10_runs_4 (by decide) (fun _ => ?_) (fun _ => ?_)
  · exact f_vret cx hr hlk dX10_runs_17
  · refine f_aload_n (pc := 7) cx dX10_runs_7 rfl rfl ?_
    refine f_bind (fun r1 hr1 => ?_)
    refine k_X10_153 (pc := 8) cx (c_X10_ticks l G _ o0 hk_o0 r1 hr1) hk_o0 ⟨by decide, by decide⟩ ⟨Nat.zero_le _, Nat.zero_le _⟩ (Nat.le_of_ble_eq_true rfl) dX10_runs_8 ?_
    refine f_iinc2 (pc := 11) cx dX10_runs_11 kc_iconst_1 (by decide) rfl ?_
    refine f_goto (pc := 14) (tgt := 2) cx dX10_runs_14 (by decide) ?_
    exact f_weak (LSb.s (LSb.s (LSb.s LSb.e))) (hk2 (r1, q.2 + 1))
set_option maxRecDepth 4000 in
theorem s_X10_runs {p : Program} {l : Launch} {e : Env} {s : State} {m : MethodId} {args : Array Value} {below : List Frame} {meth : Method} {c : Code} {G : GT} (cx : CX p s m args c cX10_runs 3 RX10 G) (hr : meth.sig.returnType = none) (hlk : meth.locks = false) (h : Hp) (o0 : Nat) (x1 : Int32) (hk_o0 : kd o0 = 9) : PF p l e (rmc 7 158) s m args below meth c 3 G 0 0 (QV below G args s) 0 [some (.ref (gad G o0)), some (.int x1), none] [] h (p_X10_runs h o0 x1) := by
  unfold p_X10_runs
  refine f_iconst (pc := 0) cx dX10_runs_0 kc_iconst_0 ?_
  refine f_istore2 (pc := 1) cx dX10_runs_1 (by decide) rfl ?_
  exact f_weak (LSb.s (LSb.s (LSb.s LSb.e))) (s_X10_runs_2 cx hr hlk o0 x1 hk_o0 FU (h, 0))
set_option maxRecDepth 4000 in
theorem c_X10_runs (l : Launch) (G : GT) (h : Hp) (o0 : Nat) (x1 : Int32) (hk_o0 : kd o0 = 9) : CtV l G yX10_runs cX10_runs 3 none 7 158 [.ref (gad G o0), .int x1] h (p_X10_runs h o0 x1) := fun a ha => Ct.of (lv := [some (.ref (gad G o0)), some (.int x1), none]) (by decide) rfl (Nat.le_of_ble_eq_true rfl) rfl (fun p e s m args below meth c cx hr hlk => s_X10_runs cx hr hlk h o0 x1 hk_o0 a ha)
def b_X10_firstCut_36 (o0 : Nat) (x1 : Int32) (x2 : Int32) (k36 : Hp × Int32 × Int32 → Option (Int32 × Hp)) (q : Hp × Int32 × Int32) : Option (Int32 × Hp) :=
  if x1 < q.2.2 then (Option.bind (p_X10_copies q.1 (o0 + 7) (o0 + 6)) fun r1 => some (q.2.1, r1)) else (if q.2.1 = (-2) then (Option.bind (p_X10_ticks q.1 o0) fun r2 => Option.bind (p_X10_cuts r2 o0) fun r3 => if r3.1 ≤ x2 then (k36 (r3.2, q.2.1, q.2.2 + 1)) else (k36 (r3.2, q.2.2, q.2.2 + 1))) else (Option.bind (p_X10_copies q.1 (o0 + 7) (o0 + 6)) fun r4 => some (q.2.1, r4)))
def p_X10_firstCut (h : Hp) (o0 : Nat) (x1 : Int32) : Option (Int32 × Hp) :=
  nv (hp h o0 0 0) fun h5 => Option.bind (p_X10_isTicks h5 x1) fun r6 => if r6.1 = 0 then (some ((-1), r6.2)) else (Option.bind (p_X10_copies r6.2 (o0 + 6) (o0 + 7)) fun r7 => Option.bind (p_X10_cuts r7 o0) fun r8 => lp (b_X10_firstCut_36 o0 x1 r8.1) FU (r8.2, (-2), 1))
set_option maxRecDepth 4000 in
theorem s_X10_firstCut_36 {p : Program} {l : Launch} {e : Env} {s : State} {m : MethodId} {args : Array Value} {below : List Frame} {meth : Method} {c : Code} {G : GT} (cx : CX p s m args c cX10_firstCut 5 RX10 G) (hr : meth.sig.returnType = (some .int)) (hlk : meth.locks = false) (o0 : Nat) (x1 : Int32) (x2 : Int32) (hk_o0 : kd o0 = 9) : ∀ (n : Nat) (q : Hp × Int32 × Int32), PF p l e (rmc 7 158) s m args below meth c 5 G 0 0 (QI below G args s) 36 [some (.ref (gad G o0)), some (.int x1), some (.int x2), some (.int q.2.1), some (.int q.2.2)] [] q.1 (lp (b_X10_firstCut_36 o0 x1 x2) n q) := by
  refine f_lp (lvf := fun (q : Hp × Int32 × Int32) => [some (.ref (gad G o0)), some (.int x1), some (.int x2), some (.int q.2.1), some (.int q.2.2)]) (hf := fun (q : Hp × Int32 × Int32) => q.1) (fun k36 hk36 q => ?_)
  show PF p l e (rmc 7 158) s m args below meth c 5 G 0 0 (QI below G args s) 36 [some (.ref (gad G o0)), some (.int x1), some (.int x2), some (.int q.2.1), some (.int q.2.2)] [] q.1 (b_X10_firstCut_36 o0 x1 x2 k36 q)
  unfold b_X10_firstCut_36
  refine f_iload (pc := 36) cx dX10_firstCut_36 rfl ?_
  refine f_iload_n (pc := 38) cx dX10_firstCut_38 rfl rfl ?_
  refine f_icmp_gt (pc := 39) (tgt := 69) cx dX10_firstCut_39 (by decide) (fun _ => ?_) (fun _ => ?_)
  · refine f_aload_n (pc := 69) cx dX10_firstCut_69 rfl rfl ?_
    refine g_X10_33 (pc := 70) cx hk_o0 dX10_firstCut_70 ?_
    refine f_aload_n (pc := 73) cx dX10_firstCut_73 rfl rfl ?_
    refine g_X10_30 (pc := 74) cx hk_o0 dX10_firstCut_74 ?_
    refine f_bind (fun r1 hr1 => ?_)
    refine k_X10_287 (pc := 77) cx (c_X10_copies l G _ (o0 + 7) (o0 + 6) (kf_9_21 hk_o0) (kf_9_20 hk_o0) r1 hr1) ⟨by decide, by decide⟩ ⟨Nat.zero_le _, Nat.zero_le _⟩ (Nat.le_of_ble_eq_true rfl) dX10_firstCut_77 ?_
    refine f_iload_n (pc := 80) cx dX10_firstCut_80 rfl rfl ?_
    exact f_iret cx hr hlk rfl dX10_firstCut_81
  · refine f_iload_n (pc := 42) cx dX10_firstCut_42 rfl rfl ?_
    refine f_bipush (pc := 43) cx dX10_firstCut_43 kc_bipush_m2 ?_
    refine f_icmp_ne (pc := 45) (tgt := 69) cx dX10_firstCut_45 (by decide) (fun _ => ?_) (fun _ => ?_)
    · refine f_aload_n (pc := 48) cx dX10_firstCut_48 rfl rfl ?_
      refine f_bind (fun r2 hr2 => ?_)
      refine k_X10_153 (pc := 49) cx (c_X10_ticks l G _ o0 hk_o0 r2 hr2) hk_o0 ⟨by decide, by decide⟩ ⟨Nat.zero_le _, Nat.zero_le _⟩ (Nat.le_of_ble_eq_true rfl) dX10_firstCut_49 ?_
      refine f_aload_n (pc := 52) cx dX10_firstCut_52 rfl rfl ?_
      refine f_bind (fun r3 hr3 => ?_)
      refine k_X10_294 (pc := 53) cx (c_X10_cuts l G _ o0 hk_o0 r3 hr3) hk_o0 ⟨by decide, by decide⟩ ⟨Nat.zero_le _, Nat.zero_le _⟩ (Nat.le_of_ble_eq_true rfl) dX10_firstCut_53 ?_
      refine f_iload_n (pc := 56) cx dX10_firstCut_56 rfl rfl ?_
      refine f_icmp_le (pc := 57) (tgt := 63) cx dX10_firstCut_57 (by decide) (fun _ => ?_) (fun _ => ?_)
      · refine f_iinc4 (pc := 63) cx dX10_firstCut_63 kc_iconst_1 (by decide) rfl ?_
        refine f_goto (pc := 66) (tgt := 36) cx dX10_firstCut_66 (by decide) ?_
        exact f_weak (LSb.s (LSb.s (LSb.s (LSb.s (LSb.s LSb.e))))) (hk36 (r3.2, q.2.1, q.2.2 + 1))
      · refine f_iload (pc := 60) cx dX10_firstCut_60 rfl ?_
        refine f_istore3 (pc := 62) cx dX10_firstCut_62 (by decide) rfl ?_
        refine f_iinc4 (pc := 63) cx dX10_firstCut_63 kc_iconst_1 (by decide) rfl ?_
        refine f_goto (pc := 66) (tgt := 36) cx dX10_firstCut_66 (by decide) ?_
        exact f_weak (LSb.s (LSb.s (LSb.s (LSb.s (LSb.s LSb.e))))) (hk36 (r3.2, q.2.2, q.2.2 + 1))
    · refine f_aload_n (pc := 69) cx dX10_firstCut_69 rfl rfl ?_
      refine g_X10_33 (pc := 70) cx hk_o0 dX10_firstCut_70 ?_
      refine f_aload_n (pc := 73) cx dX10_firstCut_73 rfl rfl ?_
      refine g_X10_30 (pc := 74) cx hk_o0 dX10_firstCut_74 ?_
      refine f_bind (fun r4 hr4 => ?_)
      refine k_X10_287 (pc := 77) cx (c_X10_copies l G _ (o0 + 7) (o0 + 6) (kf_9_21 hk_o0) (kf_9_20 hk_o0) r4 hr4) ⟨by decide, by decide⟩ ⟨Nat.zero_le _, Nat.zero_le _⟩ (Nat.le_of_ble_eq_true rfl) dX10_firstCut_77 ?_
      refine f_iload_n (pc := 80) cx dX10_firstCut_80 rfl rfl ?_
      exact f_iret cx hr hlk rfl dX10_firstCut_81
set_option maxRecDepth 4000 in
theorem s_X10_firstCut {p : Program} {l : Launch} {e : Env} {s : State} {m : MethodId} {args : Array Value} {below : List Frame} {meth : Method} {c : Code} {G : GT} (cx : CX p s m args c cX10_firstCut 5 RX10 G) (hr : meth.sig.returnType = (some .int)) (hlk : meth.locks = false) (h : Hp) (o0 : Nat) (x1 : Int32) (hk_o0 : kd o0 = 9) : PF p l e (rmc 7 158) s m args below meth c 5 G 0 0 (QI below G args s) 0 [some (.ref (gad G o0)), some (.int x1), none, none, none] [] h (p_X10_firstCut h o0 x1) := by
  unfold p_X10_firstCut
  refine f_aload_n (pc := 0) cx dX10_firstCut_0 rfl rfl ?_
  refine f_iconst (pc := 1) cx dX10_firstCut_1 kc_iconst_0 ?_
  refine u_X10_45 (pc := 2) cx hk_o0 dX10_firstCut_2 ?_
  refine f_nvh (fun h5 => ?_)
  refine f_iload_n (pc := 5) cx dX10_firstCut_5 rfl rfl ?_
  refine f_bind (fun r6 hr6 => ?_)
  refine k_X10_281 (pc := 6) cx (c_X10_isTicks l G _ x1 r6 hr6) ⟨by decide, by decide⟩ ⟨Nat.zero_le _, Nat.zero_le _⟩ (Nat.le_of_ble_eq_true rfl) dX10_firstCut_6 ?_
  refine f_if_ne (pc := 9) (tgt := 14) cx dX10_firstCut_9 (by decide) (fun _ => ?_) (fun _ => ?_)
  · refine f_iconst (pc := 12) cx dX10_firstCut_12 kc_iconst_m1 ?_
    exact f_iret cx hr hlk rfl dX10_firstCut_13
  · refine f_aload_n (pc := 14) cx dX10_firstCut_14 rfl rfl ?_
    refine g_X10_30 (pc := 15) cx hk_o0 dX10_firstCut_15 ?_
    refine f_aload_n (pc := 18) cx dX10_firstCut_18 rfl rfl ?_
    refine g_X10_33 (pc := 19) cx hk_o0 dX10_firstCut_19 ?_
    refine f_bind (fun r7 hr7 => ?_)
    refine k_X10_287 (pc := 22) cx (c_X10_copies l G _ (o0 + 6) (o0 + 7) (kf_9_20 hk_o0) (kf_9_21 hk_o0) r7 hr7) ⟨by decide, by decide⟩ ⟨Nat.zero_le _, Nat.zero_le _⟩ (Nat.le_of_ble_eq_true rfl) dX10_firstCut_22 ?_
    refine f_aload_n (pc := 25) cx dX10_firstCut_25 rfl rfl ?_
    refine f_bind (fun r8 hr8 => ?_)
    refine k_X10_294 (pc := 26) cx (c_X10_cuts l G _ o0 hk_o0 r8 hr8) hk_o0 ⟨by decide, by decide⟩ ⟨Nat.zero_le _, Nat.zero_le _⟩ (Nat.le_of_ble_eq_true rfl) dX10_firstCut_26 ?_
    refine f_istore2 (pc := 29) cx dX10_firstCut_29 (by decide) rfl ?_
    refine f_bipush (pc := 30) cx dX10_firstCut_30 kc_bipush_m2 ?_
    refine f_istore3 (pc := 32) cx dX10_firstCut_32 (by decide) rfl ?_
    refine f_iconst (pc := 33) cx dX10_firstCut_33 kc_iconst_1 ?_
    refine f_istore4 (pc := 34) cx dX10_firstCut_34 (by decide) rfl ?_
    exact f_weak (LSb.s (LSb.s (LSb.s (LSb.s (LSb.s LSb.e))))) (s_X10_firstCut_36 cx hr hlk o0 x1 r8.1 hk_o0 FU (r8.2, (-2), 1))
set_option maxRecDepth 4000 in
theorem c_X10_firstCut (l : Launch) (G : GT) (h : Hp) (o0 : Nat) (x1 : Int32) (hk_o0 : kd o0 = 9) : CtI l G yX10_firstCut cX10_firstCut 5 (some .int) 7 158 [.ref (gad G o0), .int x1] h (p_X10_firstCut h o0 x1) := fun a ha => Ct.of (lv := [some (.ref (gad G o0)), some (.int x1), none, none, none]) (by decide) rfl (Nat.le_of_ble_eq_true rfl) rfl (fun p e s m args below meth c cx hr hlk => s_X10_firstCut cx hr hlk h o0 x1 hk_o0 a ha)
def p_X10_drain (h : Hp) (o0 : Nat) (x1 : Int32) (x2 : Int32) : Option (Int32 × Hp) :=
  nv (hp h o0 0 0) fun h1 => Option.bind (p_X10_isMore h1 x1) fun r2 => if r2.1 = 0 then (some ((-1), r2.2)) else (if x2 < 0 then (some ((-1), r2.2)) else (if x2 ≤ 4 then (Option.bind (p_X10_copies r2.2 (o0 + 6) (o0 + 7)) fun r3 => Option.bind (p_X10_drains r3 o0 x1) fun r4 => if 3 ≤ x2 then (if x2 = 3 then (nv (r4 (o0 + 6) 0) fun v5 => Option.bind (p_X10_copies r4 (o0 + 7) (o0 + 6)) fun r6 => some (v5, r6)) else (Option.bind (p_X10_waits r4 o0 (r4 (o0 + 7) 14) 0) fun r7 => Option.bind (p_X10_copies r7.2 (o0 + 7) (o0 + 6)) fun r8 => some (r7.1, r8))) else (if ib (14 + x2) 3715 then (if ib (14 + x2) 3715 then (nv ((r4 (o0 + 6) (Int32.toNatClampNeg (14 + x2))) - (r4 (o0 + 7) (Int32.toNatClampNeg (14 + x2)))) fun v11 => Option.bind (p_X10_copies r4 (o0 + 7) (o0 + 6)) fun r12 => some (v11, r12)) else none) else none)) else (some ((-1), r2.2))))
set_option maxRecDepth 4000 in
theorem s_X10_drain {p : Program} {l : Launch} {e : Env} {s : State} {m : MethodId} {args : Array Value} {below : List Frame} {meth : Method} {c : Code} {G : GT} (cx : CX p s m args c cX10_drain 4 RX10 G) (hr : meth.sig.returnType = (some .int)) (hlk : meth.locks = false) (h : Hp) (o0 : Nat) (x1 : Int32) (x2 : Int32) (hk_o0 : kd o0 = 9) : PF p l e (rmc 7 158) s m args below meth c 4 G 0 0 (QI below G args s) 0 [some (.ref (gad G o0)), some (.int x1), some (.int x2), none] [] h (p_X10_drain h o0 x1 x2) := by
  unfold p_X10_drain
  refine f_aload_n (pc := 0) cx dX10_drain_0 rfl rfl ?_
  refine f_iconst (pc := 1) cx dX10_drain_1 kc_iconst_0 ?_
  refine u_X10_45 (pc := 2) cx hk_o0 dX10_drain_2 ?_
  refine f_nvh (fun h1 => ?_)
  refine f_iload_n (pc := 5) cx dX10_drain_5 rfl rfl ?_
  refine f_bind (fun r2 hr2 => ?_)
  refine k_X10_328 (pc := 6) cx (c_X10_isMore l G _ x1 r2 hr2) ⟨by decide, by decide⟩ ⟨Nat.zero_le _, Nat.zero_le _⟩ (Nat.le_of_ble_eq_true rfl) dX10_drain_6 ?_
  refine f_if_eq (pc := 9) (tgt := 21) cx dX10_drain_9 (by decide) (fun _ => ?_) (fun _ => ?_)
  · refine f_iconst (pc := 21) cx dX10_drain_21 kc_iconst_m1 ?_
    exact f_iret cx hr hlk rfl dX10_drain_22
  · refine f_iload_n (pc := 12) cx dX10_drain_12 rfl rfl ?_
    refine f_if_lt (pc := 13) (tgt := 21) cx dX10_drain_13 (by decide) (fun _ => ?_) (fun _ => ?_)
    · refine f_iconst (pc := 21) cx dX10_drain_21 kc_iconst_m1 ?_
      exact f_iret cx hr hlk rfl dX10_drain_22
    · refine f_iload_n (pc := 16) cx dX10_drain_16 rfl rfl ?_
      refine f_iconst (pc := 17) cx dX10_drain_17 kc_iconst_4 ?_
      refine f_icmp_le (pc := 18) (tgt := 23) cx dX10_drain_18 (by decide) (fun _ => ?_) (fun _ => ?_)
      · refine f_aload_n (pc := 23) cx dX10_drain_23 rfl rfl ?_
        refine g_X10_30 (pc := 24) cx hk_o0 dX10_drain_24 ?_
        refine f_aload_n (pc := 27) cx dX10_drain_27 rfl rfl ?_
        refine g_X10_33 (pc := 28) cx hk_o0 dX10_drain_28 ?_
        refine f_bind (fun r3 hr3 => ?_)
        refine k_X10_287 (pc := 31) cx (c_X10_copies l G _ (o0 + 6) (o0 + 7) (kf_9_20 hk_o0) (kf_9_21 hk_o0) r3 hr3) ⟨by decide, by decide⟩ ⟨Nat.zero_le _, Nat.zero_le _⟩ (Nat.le_of_ble_eq_true rfl) dX10_drain_31 ?_
        refine f_aload_n (pc := 34) cx dX10_drain_34 rfl rfl ?_
        refine f_iload_n (pc := 35) cx dX10_drain_35 rfl rfl ?_
        refine f_bind (fun r4 hr4 => ?_)
        refine k_X10_331 (pc := 36) cx (c_X10_drains l G _ o0 x1 hk_o0 r4 hr4) hk_o0 ⟨by decide, by decide⟩ ⟨Nat.zero_le _, Nat.zero_le _⟩ (Nat.le_of_ble_eq_true rfl) dX10_drain_36 ?_
        refine f_iload_n (pc := 39) cx dX10_drain_39 rfl rfl ?_
        refine f_iconst (pc := 40) cx dX10_drain_40 kc_iconst_3 ?_
        refine f_icmp_ge (pc := 41) (tgt := 66) cx dX10_drain_41 (by decide) (fun _ => ?_) (fun _ => ?_)
        · refine f_iload_n (pc := 66) cx dX10_drain_66 rfl rfl ?_
          refine f_iconst (pc := 67) cx dX10_drain_67 kc_iconst_3 ?_
          refine f_icmp_ne (pc := 68) (tgt := 80) cx dX10_drain_68 (by decide) (fun _ => ?_) (fun _ => ?_)
          · refine f_aload_n (pc := 71) cx dX10_drain_71 rfl rfl ?_
            refine g_X10_30 (pc := 72) cx hk_o0 dX10_drain_72 ?_
            refine f_iconst (pc := 75) cx dX10_drain_75 kc_iconst_0 ?_
            refine f_ialdk (pc := 76) (j := 0) (n := 3715) cx (kf_9_20 hk_o0) (by decide) (by decide) kl_0 dX10_drain_76 ?_
            refine f_goto (pc := 77) (tgt := 92) cx dX10_drain_77 (by decide) ?_
            refine f_nvi (fun v5 => ?_)
            refine f_istore3 (pc := 92) cx dX10_drain_92 (by decide) rfl ?_
            refine f_aload_n (pc := 93) cx dX10_drain_93 rfl rfl ?_
            refine g_X10_33 (pc := 94) cx hk_o0 dX10_drain_94 ?_
            refine f_aload_n (pc := 97) cx dX10_drain_97 rfl rfl ?_
            refine g_X10_30 (pc := 98) cx hk_o0 dX10_drain_98 ?_
            refine f_bind (fun r6 hr6 => ?_)
            refine k_X10_287 (pc := 101) cx (c_X10_copies l G _ (o0 + 7) (o0 + 6) (kf_9_21 hk_o0) (kf_9_20 hk_o0) r6 hr6) ⟨by decide, by decide⟩ ⟨Nat.zero_le _, Nat.zero_le _⟩ (Nat.le_of_ble_eq_true rfl) dX10_drain_101 ?_
            refine f_iload_n (pc := 104) cx dX10_drain_104 rfl rfl ?_
            exact f_iret cx hr hlk rfl dX10_drain_105
          · refine f_aload_n (pc := 80) cx dX10_drain_80 rfl rfl ?_
            refine f_aload_n (pc := 81) cx dX10_drain_81 rfl rfl ?_
            refine g_X10_33 (pc := 82) cx hk_o0 dX10_drain_82 ?_
            refine f_bipush (pc := 85) cx dX10_drain_85 kc_bipush_14 ?_
            refine f_ialdk (pc := 87) (j := 14) (n := 3715) cx (kf_9_21 hk_o0) (by decide) (by decide) kl_14 dX10_drain_87 ?_
            refine f_iconst (pc := 88) cx dX10_drain_88 kc_iconst_0 ?_
            refine f_bind (fun r7 hr7 => ?_)
            refine k_X10_334 (pc := 89) cx (c_X10_waits l G _ o0 (r4 (o0 + 7) 14) 0 hk_o0 r7 hr7) hk_o0 ⟨by decide, by decide⟩ ⟨Nat.zero_le _, Nat.zero_le _⟩ (Nat.le_of_ble_eq_true rfl) dX10_drain_89 ?_
            refine f_istore3 (pc := 92) cx dX10_drain_92 (by decide) rfl ?_
            refine f_aload_n (pc := 93) cx dX10_drain_93 rfl rfl ?_
            refine g_X10_33 (pc := 94) cx hk_o0 dX10_drain_94 ?_
            refine f_aload_n (pc := 97) cx dX10_drain_97 rfl rfl ?_
            refine g_X10_30 (pc := 98) cx hk_o0 dX10_drain_98 ?_
            refine f_bind (fun r8 hr8 => ?_)
            refine k_X10_287 (pc := 101) cx (c_X10_copies l G _ (o0 + 7) (o0 + 6) (kf_9_21 hk_o0) (kf_9_20 hk_o0) r8 hr8) ⟨by decide, by decide⟩ ⟨Nat.zero_le _, Nat.zero_le _⟩ (Nat.le_of_ble_eq_true rfl) dX10_drain_101 ?_
            refine f_iload_n (pc := 104) cx dX10_drain_104 rfl rfl ?_
            exact f_iret cx hr hlk rfl dX10_drain_105
        · refine f_aload_n (pc := 44) cx dX10_drain_44 rfl rfl ?_
          refine g_X10_30 (pc := 45) cx hk_o0 dX10_drain_45 ?_
          refine f_bipush (pc := 48) cx dX10_drain_48 kc_bipush_14 ?_
          refine f_iload_n (pc := 50) cx dX10_drain_50 rfl rfl ?_
          refine f_iadd (pc := 51) cx dX10_drain_51 ?_
          refine f_need (fun c9 => ?_)
          refine f_iald (pc := 52) (n := 3715) cx (kf_9_20 hk_o0) (by decide) c9 dX10_drain_52 ?_
          refine f_aload_n (pc := 53) cx dX10_drain_53 rfl rfl ?_
          refine g_X10_33 (pc := 54) cx hk_o0 dX10_drain_54 ?_
          refine f_bipush (pc := 57) cx dX10_drain_57 kc_bipush_14 ?_
          refine f_iload_n (pc := 59) cx dX10_drain_59 rfl rfl ?_
          refine f_iadd (pc := 60) cx dX10_drain_60 ?_
          refine f_need (fun c10 => ?_)
          refine f_iald (pc := 61) (n := 3715) cx (kf_9_21 hk_o0) (by decide) c10 dX10_drain_61 ?_
          refine f_isub (pc := 62) cx dX10_drain_62 ?_
          refine f_goto (pc := 63) (tgt := 92) cx dX10_drain_63 (by decide) ?_
          refine f_nvi (fun v11 => ?_)
          refine f_istore3 (pc := 92) cx dX10_drain_92 (by decide) rfl ?_
          refine f_aload_n (pc := 93) cx dX10_drain_93 rfl rfl ?_
          refine g_X10_33 (pc := 94) cx hk_o0 dX10_drain_94 ?_
          refine f_aload_n (pc := 97) cx dX10_drain_97 rfl rfl ?_
          refine g_X10_30 (pc := 98) cx hk_o0 dX10_drain_98 ?_
          refine f_bind (fun r12 hr12 => ?_)
          refine k_X10_287 (pc := 101) cx (c_X10_copies l G _ (o0 + 7) (o0 + 6) (kf_9_21 hk_o0) (kf_9_20 hk_o0) r12 hr12) ⟨by decide, by decide⟩ ⟨Nat.zero_le _, Nat.zero_le _⟩ (Nat.le_of_ble_eq_true rfl) dX10_drain_101 ?_
          refine f_iload_n (pc := 104) cx dX10_drain_104 rfl rfl ?_
          exact f_iret cx hr hlk rfl dX10_drain_105
      · refine f_iconst (pc := 21) cx dX10_drain_21 kc_iconst_m1 ?_
        exact f_iret cx hr hlk rfl dX10_drain_22
set_option maxRecDepth 4000 in
theorem c_X10_drain (l : Launch) (G : GT) (h : Hp) (o0 : Nat) (x1 : Int32) (x2 : Int32) (hk_o0 : kd o0 = 9) : CtI l G yX10_drain cX10_drain 4 (some .int) 7 158 [.ref (gad G o0), .int x1, .int x2] h (p_X10_drain h o0 x1 x2) := fun a ha => Ct.of (lv := [some (.ref (gad G o0)), some (.int x1), some (.int x2), none]) (by decide) rfl (Nat.le_of_ble_eq_true rfl) rfl (fun p e s m args below meth c cx hr hlk => s_X10_drain cx hr hlk h o0 x1 x2 hk_o0 a ha)
def b_X10_leastTarget_30 (o0 : Nat) (x1 : Int32) (k30 : Hp × Int32 × Int32 → Option (Int32 × Hp)) (q : Hp × Int32 × Int32) : Option (Int32 × Hp) :=
  if 99 < q.2.2 then (some (q.2.1, q.1)) else (if q.2.1 = (-2) then (nv (hp q.1 (o0 + 6) 4 q.2.2) fun h1 => Option.bind (p_X10_drains h1 o0 x1) fun r2 => if (r2 (o0 + 6) 15) = (r2 (o0 + 7) 15) then (if (r2 (o0 + 6) 16) = (r2 (o0 + 7) 16) then (Option.bind (p_X10_copies r2 (o0 + 7) (o0 + 6)) fun r3 => k30 (r3, q.2.2, q.2.2 + 1)) else (Option.bind (p_X10_copies r2 (o0 + 7) (o0 + 6)) fun r4 => k30 (r4, q.2.1, q.2.2 + 1))) else (Option.bind (p_X10_copies r2 (o0 + 7) (o0 + 6)) fun r5 => k30 (r5, q.2.1, q.2.2 + 1))) else (some (q.2.1, q.1)))
def p_X10_leastTarget (h : Hp) (o0 : Nat) (x1 : Int32) : Option (Int32 × Hp) :=
  nv (hp h o0 0 0) fun h6 => Option.bind (p_X10_isMore h6 x1) fun r7 => if r7.1 = 0 then (some ((-1), r7.2)) else (Option.bind (p_X10_copies r7.2 (o0 + 6) (o0 + 7)) fun r8 => lp (b_X10_leastTarget_30 o0 x1) FU (r8, (-2), 1))
set_option maxRecDepth 4000 in
theorem s_X10_leastTarget_30 {p : Program} {l : Launch} {e : Env} {s : State} {m : MethodId} {args : Array Value} {below : List Frame} {meth : Method} {c : Code} {G : GT} (cx : CX p s m args c cX10_leastTarget 4 RX10 G) (hr : meth.sig.returnType = (some .int)) (hlk : meth.locks = false) (o0 : Nat) (x1 : Int32) (hk_o0 : kd o0 = 9) : ∀ (n : Nat) (q : Hp × Int32 × Int32), PF p l e (rmc 7 158) s m args below meth c 4 G 0 0 (QI below G args s) 30 [some (.ref (gad G o0)), some (.int x1), some (.int q.2.1), some (.int q.2.2)] [] q.1 (lp (b_X10_leastTarget_30 o0 x1) n q) := by
  refine f_lp (lvf := fun (q : Hp × Int32 × Int32) => [some (.ref (gad G o0)), some (.int x1), some (.int q.2.1), some (.int q.2.2)]) (hf := fun (q : Hp × Int32 × Int32) => q.1) (fun k30 hk30 q => ?_)
  show PF p l e (rmc 7 158) s m args below meth c 4 G 0 0 (QI below G args s) 30 [some (.ref (gad G o0)), some (.int x1), some (.int q.2.1), some (.int q.2.2)] [] q.1 (b_X10_leastTarget_30 o0 x1 k30 q)
  unfold b_X10_leastTarget_30
  refine f_iload_n (pc := 30) cx dX10_leastTarget_30 rfl rfl ?_
  refine f_bipush (pc := 31) cx dX10_leastTarget_31 kc_bipush_99 ?_
  refine f_icmp_gt (pc := 33) (tgt := 107) cx dX10_leastTarget_33 (by decide) (fun _ => ?_) (fun _ => ?_)
  · refine f_iload_n (pc := 107) cx dX10_leastTarget_107 rfl rfl ?_
    exact f_iret cx hr hlk rfl dX10_leastTarget_108
  · refine f_iload_n (pc := 36) cx dX10_leastTarget_36 rfl rfl ?_
    refine f_bipush (pc := 37) cx dX10_leastTarget_37 kc_bipush_m2 ?_
    refine f_icmp_ne (pc := 39) (tgt := 107) cx dX10_leastTarget_39 (by decide) (fun _ => ?_) (fun _ => ?_)
    · refine f_aload_n (pc := 42) cx dX10_leastTarget_42 rfl rfl ?_
      refine g_X10_30 (pc := 43) cx hk_o0 dX10_leastTarget_43 ?_
      refine f_iconst (pc := 46) cx dX10_leastTarget_46 kc_iconst_4 ?_
      refine f_iload_n (pc := 47) cx dX10_leastTarget_47 rfl rfl ?_
      refine f_iastk (pc := 48) (j := 4) (n := 3715) cx (kf_9_20 hk_o0) (by decide) (by decide) kl_4 dX10_leastTarget_48 ?_
      refine f_nvh (fun h1 => ?_)
      refine f_aload_n (pc := 49) cx dX10_leastTarget_49 rfl rfl ?_
      refine f_iload_n (pc := 50) cx dX10_leastTarget_50 rfl rfl ?_
      refine f_bind (fun r2 hr2 => ?_)
      refine k_X10_331 (pc := 51) cx (c_X10_drains l G _ o0 x1 hk_o0 r2 hr2) hk_o0 ⟨by decide, by decide⟩ ⟨Nat.zero_le _, Nat.zero_le _⟩ (Nat.le_of_ble_eq_true rfl) dX10_leastTarget_51 ?_
      refine f_aload_n (pc := 54) cx dX10_leastTarget_54 rfl rfl ?_
      refine g_X10_30 (pc := 55) cx hk_o0 dX10_leastTarget_55 ?_
      refine f_bipush (pc := 58) cx dX10_leastTarget_58 kc_bipush_15 ?_
      refine f_ialdk (pc := 60) (j := 15) (n := 3715) cx (kf_9_20 hk_o0) (by decide) (by decide) kl_15 dX10_leastTarget_60 ?_
      refine f_aload_n (pc := 61) cx dX10_leastTarget_61 rfl rfl ?_
      refine g_X10_33 (pc := 62) cx hk_o0 dX10_leastTarget_62 ?_
      refine f_bipush (pc := 65) cx dX10_leastTarget_65 kc_bipush_15 ?_
      refine f_ialdk (pc := 67) (j := 15) (n := 3715) cx (kf_9_21 hk_o0) (by decide) (by decide) kl_15 dX10_leastTarget_67 ?_
      refine f_icmp_ne (pc := 68) (tgt := 90) cx dX10_leastTarget_68 (by decide) (fun _ => ?_) (fun _ => ?_)
      · refine f_aload_n (pc := 71) cx dX10_leastTarget_71 rfl rfl ?_
        refine g_X10_30 (pc := 72) cx hk_o0 dX10_leastTarget_72 ?_
        refine f_bipush (pc := 75) cx dX10_leastTarget_75 kc_bipush_16 ?_
        refine f_ialdk (pc := 77) (j := 16) (n := 3715) cx (kf_9_20 hk_o0) (by decide) (by decide) kl_16 dX10_leastTarget_77 ?_
        refine f_aload_n (pc := 78) cx dX10_leastTarget_78 rfl rfl ?_
        refine g_X10_33 (pc := 79) cx hk_o0 dX10_leastTarget_79 ?_
        refine f_bipush (pc := 82) cx dX10_leastTarget_82 kc_bipush_16 ?_
        refine f_ialdk (pc := 84) (j := 16) (n := 3715) cx (kf_9_21 hk_o0) (by decide) (by decide) kl_16 dX10_leastTarget_84 ?_
        refine f_icmp_ne (pc := 85) (tgt := 90) cx dX10_leastTarget_85 (by decide) (fun _ => ?_) (fun _ => ?_)
        · refine f_iload_n (pc := 88) cx dX10_leastTarget_88 rfl rfl ?_
          refine f_istore2 (pc := 89) cx dX10_leastTarget_89 (by decide) rfl ?_
          refine f_aload_n (pc := 90) cx dX10_leastTarget_90 rfl rfl ?_
          refine g_X10_33 (pc := 91) cx hk_o0 dX10_leastTarget_91 ?_
          refine f_aload_n (pc := 94) cx dX10_leastTarget_94 rfl rfl ?_
          refine g_X10_30 (pc := 95) cx hk_o0 dX10_leastTarget_95 ?_
          refine f_bind (fun r3 hr3 => ?_)
          refine k_X10_287 (pc := 98) cx (c_X10_copies l G _ (o0 + 7) (o0 + 6) (kf_9_21 hk_o0) (kf_9_20 hk_o0) r3 hr3) ⟨by decide, by decide⟩ ⟨Nat.zero_le _, Nat.zero_le _⟩ (Nat.le_of_ble_eq_true rfl) dX10_leastTarget_98 ?_
          refine f_iinc3 (pc := 101) cx dX10_leastTarget_101 kc_iconst_1 (by decide) rfl ?_
          refine f_goto (pc := 104) (tgt := 30) cx dX10_leastTarget_104 (by decide) ?_
          exact f_weak (LSb.s (LSb.s (LSb.s (LSb.s LSb.e)))) (hk30 (r3, q.2.2, q.2.2 + 1))
        · refine f_aload_n (pc := 90) cx dX10_leastTarget_90 rfl rfl ?_
          refine g_X10_33 (pc := 91) cx hk_o0 dX10_leastTarget_91 ?_
          refine f_aload_n (pc := 94) cx dX10_leastTarget_94 rfl rfl ?_
          refine g_X10_30 (pc := 95) cx hk_o0 dX10_leastTarget_95 ?_
          refine f_bind (fun r4 hr4 => ?_)
          refine k_X10_287 (pc := 98) cx (c_X10_copies l G _ (o0 + 7) (o0 + 6) (kf_9_21 hk_o0) (kf_9_20 hk_o0) r4 hr4) ⟨by decide, by decide⟩ ⟨Nat.zero_le _, Nat.zero_le _⟩ (Nat.le_of_ble_eq_true rfl) dX10_leastTarget_98 ?_
          refine f_iinc3 (pc := 101) cx dX10_leastTarget_101 kc_iconst_1 (by decide) rfl ?_
          refine f_goto (pc := 104) (tgt := 30) cx dX10_leastTarget_104 (by decide) ?_
          exact f_weak (LSb.s (LSb.s (LSb.s (LSb.s LSb.e)))) (hk30 (r4, q.2.1, q.2.2 + 1))
      · refine f_aload_n (pc := 90) cx dX10_leastTarget_90 rfl rfl ?_
        refine g_X10_33 (pc := 91) cx hk_o0 dX10_leastTarget_91 ?_
        refine f_aload_n (pc := 94) cx dX10_leastTarget_94 rfl rfl ?_
        refine g_X10_30 (pc := 95) cx hk_o0 dX10_leastTarget_95 ?_
        refine f_bind (fun r5 hr5 => ?_)
        refine k_X10_287 (pc := 98) cx (c_X10_copies l G _ (o0 + 7) (o0 + 6) (kf_9_21 hk_o0) (kf_9_20 hk_o0) r5 hr5) ⟨by decide, by decide⟩ ⟨Nat.zero_le _, Nat.zero_le _⟩ (Nat.le_of_ble_eq_true rfl) dX10_leastTarget_98 ?_
        refine f_iinc3 (pc := 101) cx dX10_leastTarget_101 kc_iconst_1 (by decide) rfl ?_
        refine f_goto (pc := 104) (tgt := 30) cx dX10_leastTarget_104 (by decide) ?_
        exact f_weak (LSb.s (LSb.s (LSb.s (LSb.s LSb.e)))) (hk30 (r5, q.2.1, q.2.2 + 1))
    · refine f_iload_n (pc := 107) cx dX10_leastTarget_107 rfl rfl ?_
      exact f_iret cx hr hlk rfl dX10_leastTarget_108
set_option maxRecDepth 4000 in
theorem s_X10_leastTarget {p : Program} {l : Launch} {e : Env} {s : State} {m : MethodId} {args : Array Value} {below : List Frame} {meth : Method} {c : Code} {G : GT} (cx : CX p s m args c cX10_leastTarget 4 RX10 G) (hr : meth.sig.returnType = (some .int)) (hlk : meth.locks = false) (h : Hp) (o0 : Nat) (x1 : Int32) (hk_o0 : kd o0 = 9) : PF p l e (rmc 7 158) s m args below meth c 4 G 0 0 (QI below G args s) 0 [some (.ref (gad G o0)), some (.int x1), none, none] [] h (p_X10_leastTarget h o0 x1) := by
  unfold p_X10_leastTarget
  refine f_aload_n (pc := 0) cx dX10_leastTarget_0 rfl rfl ?_
  refine f_iconst (pc := 1) cx dX10_leastTarget_1 kc_iconst_0 ?_
  refine u_X10_45 (pc := 2) cx hk_o0 dX10_leastTarget_2 ?_
  refine f_nvh (fun h6 => ?_)
  refine f_iload_n (pc := 5) cx dX10_leastTarget_5 rfl rfl ?_
  refine f_bind (fun r7 hr7 => ?_)
  refine k_X10_328 (pc := 6) cx (c_X10_isMore l G _ x1 r7 hr7) ⟨by decide, by decide⟩ ⟨Nat.zero_le _, Nat.zero_le _⟩ (Nat.le_of_ble_eq_true rfl) dX10_leastTarget_6 ?_
  refine f_if_ne (pc := 9) (tgt := 14) cx dX10_leastTarget_9 (by decide) (fun _ => ?_) (fun _ => ?_)
  · refine f_iconst (pc := 12) cx dX10_leastTarget_12 kc_iconst_m1 ?_
    exact f_iret cx hr hlk rfl dX10_leastTarget_13
  · refine f_aload_n (pc := 14) cx dX10_leastTarget_14 rfl rfl ?_
    refine g_X10_30 (pc := 15) cx hk_o0 dX10_leastTarget_15 ?_
    refine f_aload_n (pc := 18) cx dX10_leastTarget_18 rfl rfl ?_
    refine g_X10_33 (pc := 19) cx hk_o0 dX10_leastTarget_19 ?_
    refine f_bind (fun r8 hr8 => ?_)
    refine k_X10_287 (pc := 22) cx (c_X10_copies l G _ (o0 + 6) (o0 + 7) (kf_9_20 hk_o0) (kf_9_21 hk_o0) r8 hr8) ⟨by decide, by decide⟩ ⟨Nat.zero_le _, Nat.zero_le _⟩ (Nat.le_of_ble_eq_true rfl) dX10_leastTarget_22 ?_
    refine f_bipush (pc := 25) cx dX10_leastTarget_25 kc_bipush_m2 ?_
    refine f_istore2 (pc := 27) cx dX10_leastTarget_27 (by decide) rfl ?_
    refine f_iconst (pc := 28) cx dX10_leastTarget_28 kc_iconst_1 ?_
    refine f_istore3 (pc := 29) cx dX10_leastTarget_29 (by decide) rfl ?_
    exact f_weak (LSb.s (LSb.s (LSb.s (LSb.s LSb.e)))) (s_X10_leastTarget_30 cx hr hlk o0 x1 hk_o0 FU (r8, (-2), 1))
set_option maxRecDepth 4000 in
theorem c_X10_leastTarget (l : Launch) (G : GT) (h : Hp) (o0 : Nat) (x1 : Int32) (hk_o0 : kd o0 = 9) : CtI l G yX10_leastTarget cX10_leastTarget 4 (some .int) 7 158 [.ref (gad G o0), .int x1] h (p_X10_leastTarget h o0 x1) := fun a ha => Ct.of (lv := [some (.ref (gad G o0)), some (.int x1), none, none]) (by decide) rfl (Nat.le_of_ble_eq_true rfl) rfl (fun p e s m args below meth c cx hr hlk => s_X10_leastTarget cx hr hlk h o0 x1 hk_o0 a ha)
def b_X10_bestQuantum_33 (o0 : Nat) (x1 : Int32) (k33 : Hp × Int32 × Int32 × Int32 → Option (Int32 × Hp)) (q : Hp × Int32 × Int32 × Int32) : Option (Int32 × Hp) :=
  if 3000 < q.2.2.2 then (some (q.2.1, q.1)) else (nv (hp q.1 (o0 + 6) 6 q.2.2.2) fun h1 => Option.bind (p_X10_drains h1 o0 x1) fun r2 => Option.bind (p_X10_waits r2 o0 (r2 (o0 + 7) 14) 1) fun r3 => Option.bind (p_X10_copies r3.2 (o0 + 7) (o0 + 6)) fun r4 => if q.2.1 = (-1) then (k33 (r4, q.2.2.2, r3.1, q.2.2.2 + 50)) else (if r3.1 < q.2.2.1 then (k33 (r4, q.2.2.2, r3.1, q.2.2.2 + 50)) else (k33 (r4, q.2.1, q.2.2.1, q.2.2.2 + 50))))
def p_X10_bestQuantum (h : Hp) (o0 : Nat) (x1 : Int32) : Option (Int32 × Hp) :=
  nv (hp h o0 0 0) fun h5 => Option.bind (p_X10_isMore h5 x1) fun r6 => if r6.1 = 0 then (some ((-1), r6.2)) else (Option.bind (p_X10_copies r6.2 (o0 + 6) (o0 + 7)) fun r7 => lp (b_X10_bestQuantum_33 o0 x1) FU (r7, (-1), 0, 50))
set_option maxRecDepth 4000 in
theorem s_X10_bestQuantum_33 {p : Program} {l : Launch} {e : Env} {s : State} {m : MethodId} {args : Array Value} {below : List Frame} {meth : Method} {c : Code} {G : GT} (cx : CX p s m args c cX10_bestQuantum 6 RX10 G) (hr : meth.sig.returnType = (some .int)) (hlk : meth.locks = false) (o0 : Nat) (x1 : Int32) (hk_o0 : kd o0 = 9) : ∀ (n : Nat) (q : Hp × Int32 × Int32 × Int32), PF p l e (rmc 7 158) s m args below meth c 6 G 0 0 (QI below G args s) 33 [some (.ref (gad G o0)), some (.int x1), some (.int q.2.1), some (.int q.2.2.1), some (.int q.2.2.2), none] [] q.1 (lp (b_X10_bestQuantum_33 o0 x1) n q) := by
  refine f_lp (lvf := fun (q : Hp × Int32 × Int32 × Int32) => [some (.ref (gad G o0)), some (.int x1), some (.int q.2.1), some (.int q.2.2.1), some (.int q.2.2.2), none]) (hf := fun (q : Hp × Int32 × Int32 × Int32) => q.1) (fun k33 hk33 q => ?_)
  show PF p l e (rmc 7 158) s m args below meth c 6 G 0 0 (QI below G args s) 33 [some (.ref (gad G o0)), some (.int x1), some (.int q.2.1), some (.int q.2.2.1), some (.int q.2.2.2), none] [] q.1 (b_X10_bestQuantum_33 o0 x1 k33 q)
  unfold b_X10_bestQuantum_33
  refine f_iload (pc := 33) cx dX10_bestQuantum_33 rfl ?_
  refine f_sipush (pc := 35) cx dX10_bestQuantum_35 kc_sipush_3000 ?_
  refine f_icmp_gt (pc := 38) (tgt := 106) cx dX10_bestQuantum_38 (by decide) (fun _ => ?_) (fun _ => ?_)
  · refine f_iload_n (pc := 106) cx dX10_bestQuantum_106 rfl rfl ?_
    exact f_iret cx hr hlk rfl dX10_bestQuantum_107
  · refine f_aload_n (pc := 41) cx dX10_bestQuantum_41 rfl rfl ?_
    refine g_X10_30 (pc := 42) cx hk_o0 dX10_bestQuantum_42 ?_
    refine f_bipush (pc := 45) cx dX10_bestQuantum_45 kc_bipush_6 ?_
    refine f_iload (pc := 47) cx dX10_bestQuantum_47 rfl ?_
    refine f_iastk (pc := 49) (j := 6) (n := 3715) cx (kf_9_20 hk_o0) (by decide) (by decide) kl_6 dX10_bestQuantum_49 ?_
    refine f_nvh (fun h1 => ?_)
    refine f_aload_n (pc := 50) cx dX10_bestQuantum_50 rfl rfl ?_
    refine f_iload_n (pc := 51) cx dX10_bestQuantum_51 rfl rfl ?_
    refine f_bind (fun r2 hr2 => ?_)
    refine k_X10_331 (pc := 52) cx (c_X10_drains l G _ o0 x1 hk_o0 r2 hr2) hk_o0 ⟨by decide, by decide⟩ ⟨Nat.zero_le _, Nat.zero_le _⟩ (Nat.le_of_ble_eq_true rfl) dX10_bestQuantum_52 ?_
    refine f_aload_n (pc := 55) cx dX10_bestQuantum_55 rfl rfl ?_
    refine f_aload_n (pc := 56) cx dX10_bestQuantum_56 rfl rfl ?_
    refine g_X10_33 (pc := 57) cx hk_o0 dX10_bestQuantum_57 ?_
    refine f_bipush (pc := 60) cx dX10_bestQuantum_60 kc_bipush_14 ?_
    refine f_ialdk (pc := 62) (j := 14) (n := 3715) cx (kf_9_21 hk_o0) (by decide) (by decide) kl_14 dX10_bestQuantum_62 ?_
    refine f_iconst (pc := 63) cx dX10_bestQuantum_63 kc_iconst_1 ?_
    refine f_bind (fun r3 hr3 => ?_)
    refine k_X10_334 (pc := 64) cx (c_X10_waits l G _ o0 (r2 (o0 + 7) 14) 1 hk_o0 r3 hr3) hk_o0 ⟨by decide, by decide⟩ ⟨Nat.zero_le _, Nat.zero_le _⟩ (Nat.le_of_ble_eq_true rfl) dX10_bestQuantum_64 ?_
    refine f_istore5 (pc := 67) cx dX10_bestQuantum_67 (by decide) rfl ?_
    refine f_aload_n (pc := 69) cx dX10_bestQuantum_69 rfl rfl ?_
    refine g_X10_33 (pc := 70) cx hk_o0 dX10_bestQuantum_70 ?_
    refine f_aload_n (pc := 73) cx dX10_bestQuantum_73 rfl rfl ?_
    refine g_X10_30 (pc := 74) cx hk_o0 dX10_bestQuantum_74 ?_
    refine f_bind (fun r4 hr4 => ?_)
    refine k_X10_287 (pc := 77) cx (c_X10_copies l G _ (o0 + 7) (o0 + 6) (kf_9_21 hk_o0) (kf_9_20 hk_o0) r4 hr4) ⟨by decide, by decide⟩ ⟨Nat.zero_le _, Nat.zero_le _⟩ (Nat.le_of_ble_eq_true rfl) dX10_bestQuantum_77 ?_
    refine f_iload_n (pc := 80) cx dX10_bestQuantum_80 rfl rfl ?_
    refine f_iconst (pc := 81) cx dX10_bestQuantum_81 kc_iconst_m1 ?_
    refine f_icmp_eq (pc := 82) (tgt := 94) cx dX10_bestQuantum_82 (by decide) (fun _ => ?_) (fun _ => ?_)
    · refine f_iload (pc := 94) cx dX10_bestQuantum_94 rfl ?_
      refine f_istore2 (pc := 96) cx dX10_bestQuantum_96 (by decide) rfl ?_
      refine f_iload (pc := 97) cx dX10_bestQuantum_97 rfl ?_
      refine f_istore3 (pc := 99) cx dX10_bestQuantum_99 (by decide) rfl ?_
      refine f_iinc4 (pc := 100) cx dX10_bestQuantum_100 kc_iconst_50 (by decide) rfl ?_
      refine f_goto (pc := 103) (tgt := 33) cx dX10_bestQuantum_103 (by decide) ?_
      exact f_weak (LSb.s (LSb.s (LSb.s (LSb.s (LSb.s (LSb.n LSb.e)))))) (hk33 (r4, q.2.2.2, r3.1, q.2.2.2 + 50))
    · refine f_iload (pc := 85) cx dX10_bestQuantum_85 rfl ?_
      refine f_iload_n (pc := 87) cx dX10_bestQuantum_87 rfl rfl ?_
      refine f_icmp_lt (pc := 88) (tgt := 94) cx dX10_bestQuantum_88 (by decide) (fun _ => ?_) (fun _ => ?_)
      · refine f_iload (pc := 94) cx dX10_bestQuantum_94 rfl ?_
        refine f_istore2 (pc := 96) cx dX10_bestQuantum_96 (by decide) rfl ?_
        refine f_iload (pc := 97) cx dX10_bestQuantum_97 rfl ?_
        refine f_istore3 (pc := 99) cx dX10_bestQuantum_99 (by decide) rfl ?_
        refine f_iinc4 (pc := 100) cx dX10_bestQuantum_100 kc_iconst_50 (by decide) rfl ?_
        refine f_goto (pc := 103) (tgt := 33) cx dX10_bestQuantum_103 (by decide) ?_
        exact f_weak (LSb.s (LSb.s (LSb.s (LSb.s (LSb.s (LSb.n LSb.e)))))) (hk33 (r4, q.2.2.2, r3.1, q.2.2.2 + 50))
      · refine f_goto (pc := 91) (tgt := 100) cx dX10_bestQuantum_91 (by decide) ?_
        refine f_iinc4 (pc := 100) cx dX10_bestQuantum_100 kc_iconst_50 (by decide) rfl ?_
        refine f_goto (pc := 103) (tgt := 33) cx dX10_bestQuantum_103 (by decide) ?_
        exact f_weak (LSb.s (LSb.s (LSb.s (LSb.s (LSb.s (LSb.n LSb.e)))))) (hk33 (r4, q.2.1, q.2.2.1, q.2.2.2 + 50))
set_option maxRecDepth 4000 in
theorem s_X10_bestQuantum {p : Program} {l : Launch} {e : Env} {s : State} {m : MethodId} {args : Array Value} {below : List Frame} {meth : Method} {c : Code} {G : GT} (cx : CX p s m args c cX10_bestQuantum 6 RX10 G) (hr : meth.sig.returnType = (some .int)) (hlk : meth.locks = false) (h : Hp) (o0 : Nat) (x1 : Int32) (hk_o0 : kd o0 = 9) : PF p l e (rmc 7 158) s m args below meth c 6 G 0 0 (QI below G args s) 0 [some (.ref (gad G o0)), some (.int x1), none, none, none, none] [] h (p_X10_bestQuantum h o0 x1) := by
  unfold p_X10_bestQuantum
  refine f_aload_n (pc := 0) cx dX10_bestQuantum_0 rfl rfl ?_
  refine f_iconst (pc := 1) cx dX10_bestQuantum_1 kc_iconst_0 ?_
  refine u_X10_45 (pc := 2) cx hk_o0 dX10_bestQuantum_2 ?_
  refine f_nvh (fun h5 => ?_)
  refine f_iload_n (pc := 5) cx dX10_bestQuantum_5 rfl rfl ?_
  refine f_bind (fun r6 hr6 => ?_)
  refine k_X10_328 (pc := 6) cx (c_X10_isMore l G _ x1 r6 hr6) ⟨by decide, by decide⟩ ⟨Nat.zero_le _, Nat.zero_le _⟩ (Nat.le_of_ble_eq_true rfl) dX10_bestQuantum_6 ?_
  refine f_if_ne (pc := 9) (tgt := 14) cx dX10_bestQuantum_9 (by decide) (fun _ => ?_) (fun _ => ?_)
  · refine f_iconst (pc := 12) cx dX10_bestQuantum_12 kc_iconst_m1 ?_
    exact f_iret cx hr hlk rfl dX10_bestQuantum_13
  · refine f_aload_n (pc := 14) cx dX10_bestQuantum_14 rfl rfl ?_
    refine g_X10_30 (pc := 15) cx hk_o0 dX10_bestQuantum_15 ?_
    refine f_aload_n (pc := 18) cx dX10_bestQuantum_18 rfl rfl ?_
    refine g_X10_33 (pc := 19) cx hk_o0 dX10_bestQuantum_19 ?_
    refine f_bind (fun r7 hr7 => ?_)
    refine k_X10_287 (pc := 22) cx (c_X10_copies l G _ (o0 + 6) (o0 + 7) (kf_9_20 hk_o0) (kf_9_21 hk_o0) r7 hr7) ⟨by decide, by decide⟩ ⟨Nat.zero_le _, Nat.zero_le _⟩ (Nat.le_of_ble_eq_true rfl) dX10_bestQuantum_22 ?_
    refine f_iconst (pc := 25) cx dX10_bestQuantum_25 kc_iconst_m1 ?_
    refine f_istore2 (pc := 26) cx dX10_bestQuantum_26 (by decide) rfl ?_
    refine f_iconst (pc := 27) cx dX10_bestQuantum_27 kc_iconst_0 ?_
    refine f_istore3 (pc := 28) cx dX10_bestQuantum_28 (by decide) rfl ?_
    refine f_bipush (pc := 29) cx dX10_bestQuantum_29 kc_bipush_50 ?_
    refine f_istore4 (pc := 31) cx dX10_bestQuantum_31 (by decide) rfl ?_
    exact f_weak (LSb.s (LSb.s (LSb.s (LSb.s (LSb.s (LSb.n LSb.e)))))) (s_X10_bestQuantum_33 cx hr hlk o0 x1 hk_o0 FU (r7, (-1), 0, 50))
set_option maxRecDepth 4000 in
theorem c_X10_bestQuantum (l : Launch) (G : GT) (h : Hp) (o0 : Nat) (x1 : Int32) (hk_o0 : kd o0 = 9) : CtI l G yX10_bestQuantum cX10_bestQuantum 6 (some .int) 7 158 [.ref (gad G o0), .int x1] h (p_X10_bestQuantum h o0 x1) := fun a ha => Ct.of (lv := [some (.ref (gad G o0)), some (.int x1), none, none, none, none]) (by decide) rfl (Nat.le_of_ble_eq_true rfl) rfl (fun p e s m args below meth c cx hr hlk => s_X10_bestQuantum cx hr hlk h o0 x1 hk_o0 a ha)
def p_X10_run (h : Hp) (o0 : Nat) (x1 : Int32) : Option (Int32 × Hp) :=
  nv (hp h o0 0 0) fun h1 => Option.bind (p_X10_isTicks h1 x1) fun r2 => if r2.1 = 0 then (some ((-1), r2.2)) else (nv (r2.2 (o0 + 6) 14) fun v3 => Option.bind (p_X10_runs r2.2 o0 x1) fun r4 => some ((r4 (o0 + 6) 14) - v3, r4))
set_option maxRecDepth 4000 in
theorem s_X10_run {p : Program} {l : Launch} {e : Env} {s : State} {m : MethodId} {args : Array Value} {below : List Frame} {meth : Method} {c : Code} {G : GT} (cx : CX p s m args c cX10_run 3 RX10 G) (hr : meth.sig.returnType = (some .int)) (hlk : meth.locks = false) (h : Hp) (o0 : Nat) (x1 : Int32) (hk_o0 : kd o0 = 9) : PF p l e (rmc 8 180) s m args below meth c 3 G 0 0 (QI below G args s) 0 [some (.ref (gad G o0)), some (.int x1), none] [] h (p_X10_run h o0 x1) := by
  unfold p_X10_run
  refine f_aload_n (pc := 0) cx dX10_run_0 rfl rfl ?_
  refine f_iconst (pc := 1) cx dX10_run_1 kc_iconst_0 ?_
  refine u_X10_45 (pc := 2) cx hk_o0 dX10_run_2 ?_
  refine f_nvh (fun h1 => ?_)
  refine f_iload_n (pc := 5) cx dX10_run_5 rfl rfl ?_
  refine f_bind (fun r2 hr2 => ?_)
  refine k_X10_281 (pc := 6) cx (c_X10_isTicks l G _ x1 r2 hr2) ⟨by decide, by decide⟩ ⟨Nat.zero_le _, Nat.zero_le _⟩ (Nat.le_of_ble_eq_true rfl) dX10_run_6 ?_
  refine f_if_ne (pc := 9) (tgt := 14) cx dX10_run_9 (by decide) (fun _ => ?_) (fun _ => ?_)
  · refine f_iconst (pc := 12) cx dX10_run_12 kc_iconst_m1 ?_
    exact f_iret cx hr hlk rfl dX10_run_13
  · refine f_aload_n (pc := 14) cx dX10_run_14 rfl rfl ?_
    refine g_X10_30 (pc := 15) cx hk_o0 dX10_run_15 ?_
    refine f_bipush (pc := 18) cx dX10_run_18 kc_bipush_14 ?_
    refine f_ialdk (pc := 20) (j := 14) (n := 3715) cx (kf_9_20 hk_o0) (by decide) (by decide) kl_14 dX10_run_20 ?_
    refine f_nvi (fun v3 => ?_)
    refine f_istore2 (pc := 21) cx dX10_run_21 (by decide) rfl ?_
    refine f_aload_n (pc := 22) cx dX10_run_22 rfl rfl ?_
    refine f_iload_n (pc := 23) cx dX10_run_23 rfl rfl ?_
    refine f_bind (fun r4 hr4 => ?_)
    refine k_X10_284 (pc := 24) cx (c_X10_runs l G _ o0 x1 hk_o0 r4 hr4) hk_o0 ⟨by decide, by decide⟩ ⟨Nat.zero_le _, Nat.zero_le _⟩ (Nat.le_of_ble_eq_true rfl) dX10_run_24 ?_
    refine f_aload_n (pc := 27) cx dX10_run_27 rfl rfl ?_
    refine g_X10_30 (pc := 28) cx hk_o0 dX10_run_28 ?_
    refine f_bipush (pc := 31) cx dX10_run_31 kc_bipush_14 ?_
    refine f_ialdk (pc := 33) (j := 14) (n := 3715) cx (kf_9_20 hk_o0) (by decide) (by decide) kl_14 dX10_run_33 ?_
    refine f_iload_n (pc := 34) cx dX10_run_34 rfl rfl ?_
    refine f_isub (pc := 35) cx dX10_run_35 ?_
    exact f_iret cx hr hlk rfl dX10_run_36
set_option maxRecDepth 4000 in
theorem c_X10_run (l : Launch) (G : GT) (h : Hp) (o0 : Nat) (x1 : Int32) (hk_o0 : kd o0 = 9) : CtI l G yX10_run cX10_run 3 (some .int) 8 180 [.ref (gad G o0), .int x1] h (p_X10_run h o0 x1) := fun a ha => Ct.of (lv := [some (.ref (gad G o0)), some (.int x1), none]) (by decide) rfl (Nat.le_of_ble_eq_true rfl) rfl (fun p e s m args below meth c cx hr hlk => s_X10_run cx hr hlk h o0 x1 hk_o0 a ha)
def p_X10_ifRun (h : Hp) (o0 : Nat) (x1 : Int32) (x2 : Int32) : Option (Int32 × Hp) :=
  nv (hp h o0 0 0) fun h1 => Option.bind (p_X10_isTicks h1 x1) fun r2 => if r2.1 = 0 then (some ((-1), r2.2)) else (if x2 < 0 then (some ((-1), r2.2)) else (if x2 ≤ 5 then (Option.bind (p_X10_copies r2.2 (o0 + 6) (o0 + 7)) fun r3 => Option.bind (p_X10_runs r3 o0 x1) fun r4 => if 4 ≤ x2 then (if x2 = 4 then (nv (r4 (o0 + 6) 0) fun v5 => Option.bind (p_X10_copies r4 (o0 + 7) (o0 + 6)) fun r6 => some (v5, r6)) else (Option.bind (p_X10_windows r4 o0) fun r7 => Option.bind (p_X10_copies r7.2 (o0 + 7) (o0 + 6)) fun r8 => some (r7.1, r8))) else (if ib (14 + x2) 3715 then (if ib (14 + x2) 3715 then (nv ((r4 (o0 + 6) (Int32.toNatClampNeg (14 + x2))) - (r4 (o0 + 7) (Int32.toNatClampNeg (14 + x2)))) fun v11 => Option.bind (p_X10_copies r4 (o0 + 7) (o0 + 6)) fun r12 => some (v11, r12)) else none) else none)) else (some ((-1), r2.2))))
set_option maxRecDepth 4000 in
theorem s_X10_ifRun {p : Program} {l : Launch} {e : Env} {s : State} {m : MethodId} {args : Array Value} {below : List Frame} {meth : Method} {c : Code} {G : GT} (cx : CX p s m args c cX10_ifRun 4 RX10 G) (hr : meth.sig.returnType = (some .int)) (hlk : meth.locks = false) (h : Hp) (o0 : Nat) (x1 : Int32) (x2 : Int32) (hk_o0 : kd o0 = 9) : PF p l e (rmc 8 180) s m args below meth c 4 G 0 0 (QI below G args s) 0 [some (.ref (gad G o0)), some (.int x1), some (.int x2), none] [] h (p_X10_ifRun h o0 x1 x2) := by
  unfold p_X10_ifRun
  refine f_aload_n (pc := 0) cx dX10_ifRun_0 rfl rfl ?_
  refine f_iconst (pc := 1) cx dX10_ifRun_1 kc_iconst_0 ?_
  refine u_X10_45 (pc := 2) cx hk_o0 dX10_ifRun_2 ?_
  refine f_nvh (fun h1 => ?_)
  refine f_iload_n (pc := 5) cx dX10_ifRun_5 rfl rfl ?_
  refine f_bind (fun r2 hr2 => ?_)
  refine k_X10_281 (pc := 6) cx (c_X10_isTicks l G _ x1 r2 hr2) ⟨by decide, by decide⟩ ⟨Nat.zero_le _, Nat.zero_le _⟩ (Nat.le_of_ble_eq_true rfl) dX10_ifRun_6 ?_
  refine f_if_eq (pc := 9) (tgt := 21) cx dX10_ifRun_9 (by decide) (fun _ => ?_) (fun _ => ?_)
  · refine f_iconst (pc := 21) cx dX10_ifRun_21 kc_iconst_m1 ?_
    exact f_iret cx hr hlk rfl dX10_ifRun_22
  · refine f_iload_n (pc := 12) cx dX10_ifRun_12 rfl rfl ?_
    refine f_if_lt (pc := 13) (tgt := 21) cx dX10_ifRun_13 (by decide) (fun _ => ?_) (fun _ => ?_)
    · refine f_iconst (pc := 21) cx dX10_ifRun_21 kc_iconst_m1 ?_
      exact f_iret cx hr hlk rfl dX10_ifRun_22
    · refine f_iload_n (pc := 16) cx dX10_ifRun_16 rfl rfl ?_
      refine f_iconst (pc := 17) cx dX10_ifRun_17 kc_iconst_5 ?_
      refine f_icmp_le (pc := 18) (tgt := 23) cx dX10_ifRun_18 (by decide) (fun _ => ?_) (fun _ => ?_)
      · refine f_aload_n (pc := 23) cx dX10_ifRun_23 rfl rfl ?_
        refine g_X10_30 (pc := 24) cx hk_o0 dX10_ifRun_24 ?_
        refine f_aload_n (pc := 27) cx dX10_ifRun_27 rfl rfl ?_
        refine g_X10_33 (pc := 28) cx hk_o0 dX10_ifRun_28 ?_
        refine f_bind (fun r3 hr3 => ?_)
        refine k_X10_287 (pc := 31) cx (c_X10_copies l G _ (o0 + 6) (o0 + 7) (kf_9_20 hk_o0) (kf_9_21 hk_o0) r3 hr3) ⟨by decide, by decide⟩ ⟨Nat.zero_le _, Nat.zero_le _⟩ (Nat.le_of_ble_eq_true rfl) dX10_ifRun_31 ?_
        refine f_aload_n (pc := 34) cx dX10_ifRun_34 rfl rfl ?_
        refine f_iload_n (pc := 35) cx dX10_ifRun_35 rfl rfl ?_
        refine f_bind (fun r4 hr4 => ?_)
        refine k_X10_284 (pc := 36) cx (c_X10_runs l G _ o0 x1 hk_o0 r4 hr4) hk_o0 ⟨by decide, by decide⟩ ⟨Nat.zero_le _, Nat.zero_le _⟩ (Nat.le_of_ble_eq_true rfl) dX10_ifRun_36 ?_
        refine f_iload_n (pc := 39) cx dX10_ifRun_39 rfl rfl ?_
        refine f_iconst (pc := 40) cx dX10_ifRun_40 kc_iconst_4 ?_
        refine f_icmp_ge (pc := 41) (tgt := 66) cx dX10_ifRun_41 (by decide) (fun _ => ?_) (fun _ => ?_)
        · refine f_iload_n (pc := 66) cx dX10_ifRun_66 rfl rfl ?_
          refine f_iconst (pc := 67) cx dX10_ifRun_67 kc_iconst_4 ?_
          refine f_icmp_ne (pc := 68) (tgt := 80) cx dX10_ifRun_68 (by decide) (fun _ => ?_) (fun _ => ?_)
          · refine f_aload_n (pc := 71) cx dX10_ifRun_71 rfl rfl ?_
            refine g_X10_30 (pc := 72) cx hk_o0 dX10_ifRun_72 ?_
            refine f_iconst (pc := 75) cx dX10_ifRun_75 kc_iconst_0 ?_
            refine f_ialdk (pc := 76) (j := 0) (n := 3715) cx (kf_9_20 hk_o0) (by decide) (by decide) kl_0 dX10_ifRun_76 ?_
            refine f_goto (pc := 77) (tgt := 84) cx dX10_ifRun_77 (by decide) ?_
            refine f_nvi (fun v5 => ?_)
            refine f_istore3 (pc := 84) cx dX10_ifRun_84 (by decide) rfl ?_
            refine f_aload_n (pc := 85) cx dX10_ifRun_85 rfl rfl ?_
            refine g_X10_33 (pc := 86) cx hk_o0 dX10_ifRun_86 ?_
            refine f_aload_n (pc := 89) cx dX10_ifRun_89 rfl rfl ?_
            refine g_X10_30 (pc := 90) cx hk_o0 dX10_ifRun_90 ?_
            refine f_bind (fun r6 hr6 => ?_)
            refine k_X10_287 (pc := 93) cx (c_X10_copies l G _ (o0 + 7) (o0 + 6) (kf_9_21 hk_o0) (kf_9_20 hk_o0) r6 hr6) ⟨by decide, by decide⟩ ⟨Nat.zero_le _, Nat.zero_le _⟩ (Nat.le_of_ble_eq_true rfl) dX10_ifRun_93 ?_
            refine f_iload_n (pc := 96) cx dX10_ifRun_96 rfl rfl ?_
            exact f_iret cx hr hlk rfl dX10_ifRun_97
          · refine f_aload_n (pc := 80) cx dX10_ifRun_80 rfl rfl ?_
            refine f_bind (fun r7 hr7 => ?_)
            refine k_X10_291 (pc := 81) cx (c_X10_windows l G _ o0 hk_o0 r7 hr7) hk_o0 ⟨by decide, by decide⟩ ⟨Nat.zero_le _, Nat.zero_le _⟩ (Nat.le_of_ble_eq_true rfl) dX10_ifRun_81 ?_
            refine f_istore3 (pc := 84) cx dX10_ifRun_84 (by decide) rfl ?_
            refine f_aload_n (pc := 85) cx dX10_ifRun_85 rfl rfl ?_
            refine g_X10_33 (pc := 86) cx hk_o0 dX10_ifRun_86 ?_
            refine f_aload_n (pc := 89) cx dX10_ifRun_89 rfl rfl ?_
            refine g_X10_30 (pc := 90) cx hk_o0 dX10_ifRun_90 ?_
            refine f_bind (fun r8 hr8 => ?_)
            refine k_X10_287 (pc := 93) cx (c_X10_copies l G _ (o0 + 7) (o0 + 6) (kf_9_21 hk_o0) (kf_9_20 hk_o0) r8 hr8) ⟨by decide, by decide⟩ ⟨Nat.zero_le _, Nat.zero_le _⟩ (Nat.le_of_ble_eq_true rfl) dX10_ifRun_93 ?_
            refine f_iload_n (pc := 96) cx dX10_ifRun_96 rfl rfl ?_
            exact f_iret cx hr hlk rfl dX10_ifRun_97
        · refine f_aload_n (pc := 44) cx dX10_ifRun_44 rfl rfl ?_
          refine g_X10_30 (pc := 45) cx hk_o0 dX10_ifRun_45 ?_
          refine f_bipush (pc := 48) cx dX10_ifRun_48 kc_bipush_14 ?_
          refine f_iload_n (pc := 50) cx dX10_ifRun_50 rfl rfl ?_
          refine f_iadd (pc := 51) cx dX10_ifRun_51 ?_
          refine f_need (fun c9 => ?_)
          refine f_iald (pc := 52) (n := 3715) cx (kf_9_20 hk_o0) (by decide) c9 dX10_ifRun_52 ?_
          refine f_aload_n (pc := 53) cx dX10_ifRun_53 rfl rfl ?_
          refine g_X10_33 (pc := 54) cx hk_o0 dX10_ifRun_54 ?_
          refine f_bipush (pc := 57) cx dX10_ifRun_57 kc_bipush_14 ?_
          refine f_iload_n (pc := 59) cx dX10_ifRun_59 rfl rfl ?_
          refine f_iadd (pc := 60) cx dX10_ifRun_60 ?_
          refine f_need (fun c10 => ?_)
          refine f_iald (pc := 61) (n := 3715) cx (kf_9_21 hk_o0) (by decide) c10 dX10_ifRun_61 ?_
          refine f_isub (pc := 62) cx dX10_ifRun_62 ?_
          refine f_goto (pc := 63) (tgt := 84) cx dX10_ifRun_63 (by decide) ?_
          refine f_nvi (fun v11 => ?_)
          refine f_istore3 (pc := 84) cx dX10_ifRun_84 (by decide) rfl ?_
          refine f_aload_n (pc := 85) cx dX10_ifRun_85 rfl rfl ?_
          refine g_X10_33 (pc := 86) cx hk_o0 dX10_ifRun_86 ?_
          refine f_aload_n (pc := 89) cx dX10_ifRun_89 rfl rfl ?_
          refine g_X10_30 (pc := 90) cx hk_o0 dX10_ifRun_90 ?_
          refine f_bind (fun r12 hr12 => ?_)
          refine k_X10_287 (pc := 93) cx (c_X10_copies l G _ (o0 + 7) (o0 + 6) (kf_9_21 hk_o0) (kf_9_20 hk_o0) r12 hr12) ⟨by decide, by decide⟩ ⟨Nat.zero_le _, Nat.zero_le _⟩ (Nat.le_of_ble_eq_true rfl) dX10_ifRun_93 ?_
          refine f_iload_n (pc := 96) cx dX10_ifRun_96 rfl rfl ?_
          exact f_iret cx hr hlk rfl dX10_ifRun_97
      · refine f_iconst (pc := 21) cx dX10_ifRun_21 kc_iconst_m1 ?_
        exact f_iret cx hr hlk rfl dX10_ifRun_22
set_option maxRecDepth 4000 in
theorem c_X10_ifRun (l : Launch) (G : GT) (h : Hp) (o0 : Nat) (x1 : Int32) (x2 : Int32) (hk_o0 : kd o0 = 9) : CtI l G yX10_ifRun cX10_ifRun 4 (some .int) 8 180 [.ref (gad G o0), .int x1, .int x2] h (p_X10_ifRun h o0 x1 x2) := fun a ha => Ct.of (lv := [some (.ref (gad G o0)), some (.int x1), some (.int x2), none]) (by decide) rfl (Nat.le_of_ble_eq_true rfl) rfl (fun p e s m args below meth c cx hr hlk => s_X10_ifRun cx hr hlk h o0 x1 x2 hk_o0 a ha)
def b_X10_leastLimit_30 (o0 : Nat) (x1 : Int32) (k30 : Hp × Int32 × Int32 → Option (Int32 × Hp)) (q : Hp × Int32 × Int32) : Option (Int32 × Hp) :=
  if 60 < q.2.2 then (some (q.2.1, q.1)) else (if q.2.1 = (-2) then (nv (hp q.1 (o0 + 6) 7 q.2.2) fun h1 => Option.bind (p_X10_runs h1 o0 x1) fun r2 => if (r2 (o0 + 6) 17) = (r2 (o0 + 7) 17) then (Option.bind (p_X10_copies r2 (o0 + 7) (o0 + 6)) fun r3 => k30 (r3, q.2.2, q.2.2 + 1)) else (Option.bind (p_X10_copies r2 (o0 + 7) (o0 + 6)) fun r4 => k30 (r4, q.2.1, q.2.2 + 1))) else (some (q.2.1, q.1)))
def p_X10_leastLimit (h : Hp) (o0 : Nat) (x1 : Int32) : Option (Int32 × Hp) :=
  nv (hp h o0 0 0) fun h5 => Option.bind (p_X10_isTicks h5 x1) fun r6 => if r6.1 = 0 then (some ((-1), r6.2)) else (Option.bind (p_X10_copies r6.2 (o0 + 6) (o0 + 7)) fun r7 => lp (b_X10_leastLimit_30 o0 x1) FU (r7, (-2), 1))
set_option maxRecDepth 4000 in
theorem s_X10_leastLimit_30 {p : Program} {l : Launch} {e : Env} {s : State} {m : MethodId} {args : Array Value} {below : List Frame} {meth : Method} {c : Code} {G : GT} (cx : CX p s m args c cX10_leastLimit 4 RX10 G) (hr : meth.sig.returnType = (some .int)) (hlk : meth.locks = false) (o0 : Nat) (x1 : Int32) (hk_o0 : kd o0 = 9) : ∀ (n : Nat) (q : Hp × Int32 × Int32), PF p l e (rmc 8 180) s m args below meth c 4 G 0 0 (QI below G args s) 30 [some (.ref (gad G o0)), some (.int x1), some (.int q.2.1), some (.int q.2.2)] [] q.1 (lp (b_X10_leastLimit_30 o0 x1) n q) := by
  refine f_lp (lvf := fun (q : Hp × Int32 × Int32) => [some (.ref (gad G o0)), some (.int x1), some (.int q.2.1), some (.int q.2.2)]) (hf := fun (q : Hp × Int32 × Int32) => q.1) (fun k30 hk30 q => ?_)
  show PF p l e (rmc 8 180) s m args below meth c 4 G 0 0 (QI below G args s) 30 [some (.ref (gad G o0)), some (.int x1), some (.int q.2.1), some (.int q.2.2)] [] q.1 (b_X10_leastLimit_30 o0 x1 k30 q)
  unfold b_X10_leastLimit_30
  refine f_iload_n (pc := 30) cx dX10_leastLimit_30 rfl rfl ?_
  refine f_bipush (pc := 31) cx dX10_leastLimit_31 kc_bipush_60 ?_
  refine f_icmp_gt (pc := 33) (tgt := 91) cx dX10_leastLimit_33 (by decide) (fun _ => ?_) (fun _ => ?_)
  · refine f_iload_n (pc := 91) cx dX10_leastLimit_91 rfl rfl ?_
    exact f_iret cx hr hlk rfl dX10_leastLimit_92
  · refine f_iload_n (pc := 36) cx dX10_leastLimit_36 rfl rfl ?_
    refine f_bipush (pc := 37) cx dX10_leastLimit_37 kc_bipush_m2 ?_
    refine f_icmp_ne (pc := 39) (tgt := 91) cx dX10_leastLimit_39 (by decide) (fun _ => ?_) (fun _ => ?_)
    · refine f_aload_n (pc := 42) cx dX10_leastLimit_42 rfl rfl ?_
      refine g_X10_30 (pc := 43) cx hk_o0 dX10_leastLimit_43 ?_
      refine f_bipush (pc := 46) cx dX10_leastLimit_46 kc_bipush_7 ?_
      refine f_iload_n (pc := 48) cx dX10_leastLimit_48 rfl rfl ?_
      refine f_iastk (pc := 49) (j := 7) (n := 3715) cx (kf_9_20 hk_o0) (by decide) (by decide) kl_7 dX10_leastLimit_49 ?_
      refine f_nvh (fun h1 => ?_)
      refine f_aload_n (pc := 50) cx dX10_leastLimit_50 rfl rfl ?_
      refine f_iload_n (pc := 51) cx dX10_leastLimit_51 rfl rfl ?_
      refine f_bind (fun r2 hr2 => ?_)
      refine k_X10_284 (pc := 52) cx (c_X10_runs l G _ o0 x1 hk_o0 r2 hr2) hk_o0 ⟨by decide, by decide⟩ ⟨Nat.zero_le _, Nat.zero_le _⟩ (Nat.le_of_ble_eq_true rfl) dX10_leastLimit_52 ?_
      refine f_aload_n (pc := 55) cx dX10_leastLimit_55 rfl rfl ?_
      refine g_X10_30 (pc := 56) cx hk_o0 dX10_leastLimit_56 ?_
      refine f_bipush (pc := 59) cx dX10_leastLimit_59 kc_bipush_17 ?_
      refine f_ialdk (pc := 61) (j := 17) (n := 3715) cx (kf_9_20 hk_o0) (by decide) (by decide) kl_17 dX10_leastLimit_61 ?_
      refine f_aload_n (pc := 62) cx dX10_leastLimit_62 rfl rfl ?_
      refine g_X10_33 (pc := 63) cx hk_o0 dX10_leastLimit_63 ?_
      refine f_bipush (pc := 66) cx dX10_leastLimit_66 kc_bipush_17 ?_
      refine f_ialdk (pc := 68) (j := 17) (n := 3715) cx (kf_9_21 hk_o0) (by decide) (by decide) kl_17 dX10_leastLimit_68 ?_
      refine f_icmp_ne (pc := 69) (tgt := 74) cx dX10_leastLimit_69 (by decide) (fun _ => ?_) (fun _ => ?_)
      · refine f_iload_n (pc := 72) cx dX10_leastLimit_72 rfl rfl ?_
        refine f_istore2 (pc := 73) cx dX10_leastLimit_73 (by decide) rfl ?_
        refine f_aload_n (pc := 74) cx dX10_leastLimit_74 rfl rfl ?_
        refine g_X10_33 (pc := 75) cx hk_o0 dX10_leastLimit_75 ?_
        refine f_aload_n (pc := 78) cx dX10_leastLimit_78 rfl rfl ?_
        refine g_X10_30 (pc := 79) cx hk_o0 dX10_leastLimit_79 ?_
        refine f_bind (fun r3 hr3 => ?_)
        refine k_X10_287 (pc := 82) cx (c_X10_copies l G _ (o0 + 7) (o0 + 6) (kf_9_21 hk_o0) (kf_9_20 hk_o0) r3 hr3) ⟨by decide, by decide⟩ ⟨Nat.zero_le _, Nat.zero_le _⟩ (Nat.le_of_ble_eq_true rfl) dX10_leastLimit_82 ?_
        refine f_iinc3 (pc := 85) cx dX10_leastLimit_85 kc_iconst_1 (by decide) rfl ?_
        refine f_goto (pc := 88) (tgt := 30) cx dX10_leastLimit_88 (by decide) ?_
        exact f_weak (LSb.s (LSb.s (LSb.s (LSb.s LSb.e)))) (hk30 (r3, q.2.2, q.2.2 + 1))
      · refine f_aload_n (pc := 74) cx dX10_leastLimit_74 rfl rfl ?_
        refine g_X10_33 (pc := 75) cx hk_o0 dX10_leastLimit_75 ?_
        refine f_aload_n (pc := 78) cx dX10_leastLimit_78 rfl rfl ?_
        refine g_X10_30 (pc := 79) cx hk_o0 dX10_leastLimit_79 ?_
        refine f_bind (fun r4 hr4 => ?_)
        refine k_X10_287 (pc := 82) cx (c_X10_copies l G _ (o0 + 7) (o0 + 6) (kf_9_21 hk_o0) (kf_9_20 hk_o0) r4 hr4) ⟨by decide, by decide⟩ ⟨Nat.zero_le _, Nat.zero_le _⟩ (Nat.le_of_ble_eq_true rfl) dX10_leastLimit_82 ?_
        refine f_iinc3 (pc := 85) cx dX10_leastLimit_85 kc_iconst_1 (by decide) rfl ?_
        refine f_goto (pc := 88) (tgt := 30) cx dX10_leastLimit_88 (by decide) ?_
        exact f_weak (LSb.s (LSb.s (LSb.s (LSb.s LSb.e)))) (hk30 (r4, q.2.1, q.2.2 + 1))
    · refine f_iload_n (pc := 91) cx dX10_leastLimit_91 rfl rfl ?_
      exact f_iret cx hr hlk rfl dX10_leastLimit_92
set_option maxRecDepth 4000 in
theorem s_X10_leastLimit {p : Program} {l : Launch} {e : Env} {s : State} {m : MethodId} {args : Array Value} {below : List Frame} {meth : Method} {c : Code} {G : GT} (cx : CX p s m args c cX10_leastLimit 4 RX10 G) (hr : meth.sig.returnType = (some .int)) (hlk : meth.locks = false) (h : Hp) (o0 : Nat) (x1 : Int32) (hk_o0 : kd o0 = 9) : PF p l e (rmc 8 180) s m args below meth c 4 G 0 0 (QI below G args s) 0 [some (.ref (gad G o0)), some (.int x1), none, none] [] h (p_X10_leastLimit h o0 x1) := by
  unfold p_X10_leastLimit
  refine f_aload_n (pc := 0) cx dX10_leastLimit_0 rfl rfl ?_
  refine f_iconst (pc := 1) cx dX10_leastLimit_1 kc_iconst_0 ?_
  refine u_X10_45 (pc := 2) cx hk_o0 dX10_leastLimit_2 ?_
  refine f_nvh (fun h5 => ?_)
  refine f_iload_n (pc := 5) cx dX10_leastLimit_5 rfl rfl ?_
  refine f_bind (fun r6 hr6 => ?_)
  refine k_X10_281 (pc := 6) cx (c_X10_isTicks l G _ x1 r6 hr6) ⟨by decide, by decide⟩ ⟨Nat.zero_le _, Nat.zero_le _⟩ (Nat.le_of_ble_eq_true rfl) dX10_leastLimit_6 ?_
  refine f_if_ne (pc := 9) (tgt := 14) cx dX10_leastLimit_9 (by decide) (fun _ => ?_) (fun _ => ?_)
  · refine f_iconst (pc := 12) cx dX10_leastLimit_12 kc_iconst_m1 ?_
    exact f_iret cx hr hlk rfl dX10_leastLimit_13
  · refine f_aload_n (pc := 14) cx dX10_leastLimit_14 rfl rfl ?_
    refine g_X10_30 (pc := 15) cx hk_o0 dX10_leastLimit_15 ?_
    refine f_aload_n (pc := 18) cx dX10_leastLimit_18 rfl rfl ?_
    refine g_X10_33 (pc := 19) cx hk_o0 dX10_leastLimit_19 ?_
    refine f_bind (fun r7 hr7 => ?_)
    refine k_X10_287 (pc := 22) cx (c_X10_copies l G _ (o0 + 6) (o0 + 7) (kf_9_20 hk_o0) (kf_9_21 hk_o0) r7 hr7) ⟨by decide, by decide⟩ ⟨Nat.zero_le _, Nat.zero_le _⟩ (Nat.le_of_ble_eq_true rfl) dX10_leastLimit_22 ?_
    refine f_bipush (pc := 25) cx dX10_leastLimit_25 kc_bipush_m2 ?_
    refine f_istore2 (pc := 27) cx dX10_leastLimit_27 (by decide) rfl ?_
    refine f_iconst (pc := 28) cx dX10_leastLimit_28 kc_iconst_1 ?_
    refine f_istore3 (pc := 29) cx dX10_leastLimit_29 (by decide) rfl ?_
    exact f_weak (LSb.s (LSb.s (LSb.s (LSb.s LSb.e)))) (s_X10_leastLimit_30 cx hr hlk o0 x1 hk_o0 FU (r7, (-2), 1))
set_option maxRecDepth 4000 in
theorem c_X10_leastLimit (l : Launch) (G : GT) (h : Hp) (o0 : Nat) (x1 : Int32) (hk_o0 : kd o0 = 9) : CtI l G yX10_leastLimit cX10_leastLimit 4 (some .int) 8 180 [.ref (gad G o0), .int x1] h (p_X10_leastLimit h o0 x1) := fun a ha => Ct.of (lv := [some (.ref (gad G o0)), some (.int x1), none, none]) (by decide) rfl (Nat.le_of_ble_eq_true rfl) rfl (fun p e s m args below meth c cx hr hlk => s_X10_leastLimit cx hr hlk h o0 x1 hk_o0 a ha)
def b_X10_bestTarget_32 (o0 : Nat) (x1 : Int32) (k32 : Hp × Int32 × Int32 × Int32 → Option (Int32 × Hp)) (q : Hp × Int32 × Int32 × Int32) : Option (Int32 × Hp) :=
  if 99 < q.2.2.2 then (some (q.2.1, q.1)) else (nv (hp q.1 (o0 + 6) 4 q.2.2.2) fun h1 => Option.bind (p_X10_runs h1 o0 x1) fun r2 => Option.bind (p_X10_bytesSent r2 o0 (r2 (o0 + 7) 14)) fun r3 => Option.bind (p_X10_copies r3.2 (o0 + 7) (o0 + 6)) fun r4 => if q.2.2.1 < r3.1 then (k32 (r4, q.2.2.2, r3.1, q.2.2.2 + 1)) else (k32 (r4, q.2.1, q.2.2.1, q.2.2.2 + 1)))
def p_X10_bestTarget (h : Hp) (o0 : Nat) (x1 : Int32) : Option (Int32 × Hp) :=
  nv (hp h o0 0 0) fun h5 => Option.bind (p_X10_isTicks h5 x1) fun r6 => if r6.1 = 0 then (some ((-1), r6.2)) else (Option.bind (p_X10_copies r6.2 (o0 + 6) (o0 + 7)) fun r7 => lp (b_X10_bestTarget_32 o0 x1) FU (r7, (-1), (-1), 1))
set_option maxRecDepth 4000 in
theorem s_X10_bestTarget_32 {p : Program} {l : Launch} {e : Env} {s : State} {m : MethodId} {args : Array Value} {below : List Frame} {meth : Method} {c : Code} {G : GT} (cx : CX p s m args c cX10_bestTarget 6 RX10 G) (hr : meth.sig.returnType = (some .int)) (hlk : meth.locks = false) (o0 : Nat) (x1 : Int32) (hk_o0 : kd o0 = 9) : ∀ (n : Nat) (q : Hp × Int32 × Int32 × Int32), PF p l e (rmc 8 180) s m args below meth c 6 G 0 0 (QI below G args s) 32 [some (.ref (gad G o0)), some (.int x1), some (.int q.2.1), some (.int q.2.2.1), some (.int q.2.2.2), none] [] q.1 (lp (b_X10_bestTarget_32 o0 x1) n q) := by
  refine f_lp (lvf := fun (q : Hp × Int32 × Int32 × Int32) => [some (.ref (gad G o0)), some (.int x1), some (.int q.2.1), some (.int q.2.2.1), some (.int q.2.2.2), none]) (hf := fun (q : Hp × Int32 × Int32 × Int32) => q.1) (fun k32 hk32 q => ?_)
  show PF p l e (rmc 8 180) s m args below meth c 6 G 0 0 (QI below G args s) 32 [some (.ref (gad G o0)), some (.int x1), some (.int q.2.1), some (.int q.2.2.1), some (.int q.2.2.2), none] [] q.1 (b_X10_bestTarget_32 o0 x1 k32 q)
  unfold b_X10_bestTarget_32
  refine f_iload (pc := 32) cx dX10_bestTarget_32 rfl ?_
  refine f_bipush (pc := 34) cx dX10_bestTarget_34 kc_bipush_99 ?_
  refine f_icmp_gt (pc := 36) (tgt := 97) cx dX10_bestTarget_36 (by decide) (fun _ => ?_) (fun _ => ?_)
  · refine f_iload_n (pc := 97) cx dX10_bestTarget_97 rfl rfl ?_
    exact f_iret cx hr hlk rfl dX10_bestTarget_98
  · refine f_aload_n (pc := 39) cx dX10_bestTarget_39 rfl rfl ?_
    refine g_X10_30 (pc := 40) cx hk_o0 dX10_bestTarget_40 ?_
    refine f_iconst (pc := 43) cx dX10_bestTarget_43 kc_iconst_4 ?_
    refine f_iload (pc := 44) cx dX10_bestTarget_44 rfl ?_
    refine f_iastk (pc := 46) (j := 4) (n := 3715) cx (kf_9_20 hk_o0) (by decide) (by decide) kl_4 dX10_bestTarget_46 ?_
    refine f_nvh (fun h1 => ?_)
    refine f_aload_n (pc := 47) cx dX10_bestTarget_47 rfl rfl ?_
    refine f_iload_n (pc := 48) cx dX10_bestTarget_48 rfl rfl ?_
    refine f_bind (fun r2 hr2 => ?_)
    refine k_X10_284 (pc := 49) cx (c_X10_runs l G _ o0 x1 hk_o0 r2 hr2) hk_o0 ⟨by decide, by decide⟩ ⟨Nat.zero_le _, Nat.zero_le _⟩ (Nat.le_of_ble_eq_true rfl) dX10_bestTarget_49 ?_
    refine f_aload_n (pc := 52) cx dX10_bestTarget_52 rfl rfl ?_
    refine f_aload_n (pc := 53) cx dX10_bestTarget_53 rfl rfl ?_
    refine g_X10_33 (pc := 54) cx hk_o0 dX10_bestTarget_54 ?_
    refine f_bipush (pc := 57) cx dX10_bestTarget_57 kc_bipush_14 ?_
    refine f_ialdk (pc := 59) (j := 14) (n := 3715) cx (kf_9_21 hk_o0) (by decide) (by decide) kl_14 dX10_bestTarget_59 ?_
    refine f_bind (fun r3 hr3 => ?_)
    refine k_X10_297 (pc := 60) cx (c_X10_bytesSent l G _ o0 (r2 (o0 + 7) 14) hk_o0 r3 hr3) hk_o0 ⟨by decide, by decide⟩ ⟨Nat.zero_le _, Nat.zero_le _⟩ (Nat.le_of_ble_eq_true rfl) dX10_bestTarget_60 ?_
    refine f_istore5 (pc := 63) cx dX10_bestTarget_63 (by decide) rfl ?_
    refine f_aload_n (pc := 65) cx dX10_bestTarget_65 rfl rfl ?_
    refine g_X10_33 (pc := 66) cx hk_o0 dX10_bestTarget_66 ?_
    refine f_aload_n (pc := 69) cx dX10_bestTarget_69 rfl rfl ?_
    refine g_X10_30 (pc := 70) cx hk_o0 dX10_bestTarget_70 ?_
    refine f_bind (fun r4 hr4 => ?_)
    refine k_X10_287 (pc := 73) cx (c_X10_copies l G _ (o0 + 7) (o0 + 6) (kf_9_21 hk_o0) (kf_9_20 hk_o0) r4 hr4) ⟨by decide, by decide⟩ ⟨Nat.zero_le _, Nat.zero_le _⟩ (Nat.le_of_ble_eq_true rfl) dX10_bestTarget_73 ?_
    refine f_iload (pc := 76) cx dX10_bestTarget_76 rfl ?_
    refine f_iload_n (pc := 78) cx dX10_bestTarget_78 rfl rfl ?_
    refine f_icmp_gt (pc := 79) (tgt := 85) cx dX10_bestTarget_79 (by decide) (fun _ => ?_) (fun _ => ?_)
    · refine f_iload (pc := 85) cx dX10_bestTarget_85 rfl ?_
      refine f_istore2 (pc := 87) cx dX10_bestTarget_87 (by decide) rfl ?_
      refine f_iload (pc := 88) cx dX10_bestTarget_88 rfl ?_
      refine f_istore3 (pc := 90) cx dX10_bestTarget_90 (by decide) rfl ?_
      refine f_iinc4 (pc := 91) cx dX10_bestTarget_91 kc_iconst_1 (by decide) rfl ?_
      refine f_goto (pc := 94) (tgt := 32) cx dX10_bestTarget_94 (by decide) ?_
      exact f_weak (LSb.s (LSb.s (LSb.s (LSb.s (LSb.s (LSb.n LSb.e)))))) (hk32 (r4, q.2.2.2, r3.1, q.2.2.2 + 1))
    · refine f_goto (pc := 82) (tgt := 91) cx dX10_bestTarget_82 (by decide) ?_
      refine f_iinc4 (pc := 91) cx dX10_bestTarget_91 kc_iconst_1 (by decide) rfl ?_
      refine f_goto (pc := 94) (tgt := 32) cx dX10_bestTarget_94 (by decide) ?_
      exact f_weak (LSb.s (LSb.s (LSb.s (LSb.s (LSb.s (LSb.n LSb.e)))))) (hk32 (r4, q.2.1, q.2.2.1, q.2.2.2 + 1))
set_option maxRecDepth 4000 in
theorem s_X10_bestTarget {p : Program} {l : Launch} {e : Env} {s : State} {m : MethodId} {args : Array Value} {below : List Frame} {meth : Method} {c : Code} {G : GT} (cx : CX p s m args c cX10_bestTarget 6 RX10 G) (hr : meth.sig.returnType = (some .int)) (hlk : meth.locks = false) (h : Hp) (o0 : Nat) (x1 : Int32) (hk_o0 : kd o0 = 9) : PF p l e (rmc 8 180) s m args below meth c 6 G 0 0 (QI below G args s) 0 [some (.ref (gad G o0)), some (.int x1), none, none, none, none] [] h (p_X10_bestTarget h o0 x1) := by
  unfold p_X10_bestTarget
  refine f_aload_n (pc := 0) cx dX10_bestTarget_0 rfl rfl ?_
  refine f_iconst (pc := 1) cx dX10_bestTarget_1 kc_iconst_0 ?_
  refine u_X10_45 (pc := 2) cx hk_o0 dX10_bestTarget_2 ?_
  refine f_nvh (fun h5 => ?_)
  refine f_iload_n (pc := 5) cx dX10_bestTarget_5 rfl rfl ?_
  refine f_bind (fun r6 hr6 => ?_)
  refine k_X10_281 (pc := 6) cx (c_X10_isTicks l G _ x1 r6 hr6) ⟨by decide, by decide⟩ ⟨Nat.zero_le _, Nat.zero_le _⟩ (Nat.le_of_ble_eq_true rfl) dX10_bestTarget_6 ?_
  refine f_if_ne (pc := 9) (tgt := 14) cx dX10_bestTarget_9 (by decide) (fun _ => ?_) (fun _ => ?_)
  · refine f_iconst (pc := 12) cx dX10_bestTarget_12 kc_iconst_m1 ?_
    exact f_iret cx hr hlk rfl dX10_bestTarget_13
  · refine f_aload_n (pc := 14) cx dX10_bestTarget_14 rfl rfl ?_
    refine g_X10_30 (pc := 15) cx hk_o0 dX10_bestTarget_15 ?_
    refine f_aload_n (pc := 18) cx dX10_bestTarget_18 rfl rfl ?_
    refine g_X10_33 (pc := 19) cx hk_o0 dX10_bestTarget_19 ?_
    refine f_bind (fun r7 hr7 => ?_)
    refine k_X10_287 (pc := 22) cx (c_X10_copies l G _ (o0 + 6) (o0 + 7) (kf_9_20 hk_o0) (kf_9_21 hk_o0) r7 hr7) ⟨by decide, by decide⟩ ⟨Nat.zero_le _, Nat.zero_le _⟩ (Nat.le_of_ble_eq_true rfl) dX10_bestTarget_22 ?_
    refine f_iconst (pc := 25) cx dX10_bestTarget_25 kc_iconst_m1 ?_
    refine f_istore2 (pc := 26) cx dX10_bestTarget_26 (by decide) rfl ?_
    refine f_iconst (pc := 27) cx dX10_bestTarget_27 kc_iconst_m1 ?_
    refine f_istore3 (pc := 28) cx dX10_bestTarget_28 (by decide) rfl ?_
    refine f_iconst (pc := 29) cx dX10_bestTarget_29 kc_iconst_1 ?_
    refine f_istore4 (pc := 30) cx dX10_bestTarget_30 (by decide) rfl ?_
    exact f_weak (LSb.s (LSb.s (LSb.s (LSb.s (LSb.s (LSb.n LSb.e)))))) (s_X10_bestTarget_32 cx hr hlk o0 x1 hk_o0 FU (r7, (-1), (-1), 1))
set_option maxRecDepth 4000 in
theorem c_X10_bestTarget (l : Launch) (G : GT) (h : Hp) (o0 : Nat) (x1 : Int32) (hk_o0 : kd o0 = 9) : CtI l G yX10_bestTarget cX10_bestTarget 6 (some .int) 8 180 [.ref (gad G o0), .int x1] h (p_X10_bestTarget h o0 x1) := fun a ha => Ct.of (lv := [some (.ref (gad G o0)), some (.int x1), none, none, none, none]) (by decide) rfl (Nat.le_of_ble_eq_true rfl) rfl (fun p e s m args below meth c cx hr hlk => s_X10_bestTarget cx hr hlk h o0 x1 hk_o0 a ha)
