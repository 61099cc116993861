theorem kc_bipush_7 : (Int8.ofInt (7)).toInt32 = 7 := by decide
theorem kl_2 : (2 : Int32).toNatClampNeg = 2 := by decide
theorem kl_3 : (3 : Int32).toNatClampNeg = 3 := by decide
theorem kl_4 : (4 : Int32).toNatClampNeg = 4 := by decide
theorem kl_5 : (5 : Int32).toNatClampNeg = 5 := by decide
theorem kl_6 : (6 : Int32).toNatClampNeg = 6 := by decide
theorem kl_7 : (7 : Int32).toNatClampNeg = 7 := by decide
theorem kc_sipush_999 : (Int16.ofInt (999)).toInt32 = 999 := by decide
theorem dX8_clear_0 : decode cX8_clear 0 = .ok (.getstatic 74, 3) := by decide +kernel
theorem dX8_clear_3 : decode cX8_clear 3 = .ok (.iconst 0, 1) := by decide +kernel
theorem dX8_clear_4 : decode cX8_clear 4 = .ok (.aload_n 0, 1) := by decide +kernel
theorem dX8_clear_5 : decode cX8_clear 5 = .ok (.getfield 9, 3) := by decide +kernel
theorem dX8_clear_8 : decode cX8_clear 8 = .ok (.iconst 0, 1) := by decide +kernel
theorem dX8_clear_9 : decode cX8_clear 9 = .ok (.bipush 8, 2) := by decide +kernel
theorem dX8_clear_11 : decode cX8_clear 11 = .ok (.invokestatic 77, 3) := by decide +kernel
theorem dX8_clear_14 : decode cX8_clear 14 = .ok (.aload_n 0, 1) := by decide +kernel
theorem dX8_clear_15 : decode cX8_clear 15 = .ok (.getfield 18, 3) := by decide +kernel
theorem dX8_clear_18 : decode cX8_clear 18 = .ok (.invokevirtual 83, 3) := by decide +kernel
theorem dX8_clear_21 : decode cX8_clear 21 = .ok (.iconst 0, 1) := by decide +kernel
theorem dX8_clear_22 : decode cX8_clear 22 = .ok (.istore_n 1, 1) := by decide +kernel
theorem dX8_clear_23 : decode cX8_clear 23 = .ok (.iload_n 1, 1) := by decide +kernel
theorem dX8_clear_24 : decode cX8_clear 24 = .ok (.bipush 16, 2) := by decide +kernel
theorem dX8_clear_26 : decode cX8_clear 26 = .ok (.if_icmp .ge 18, 3) := by decide +kernel
theorem dX8_clear_29 : decode cX8_clear 29 = .ok (.aload_n 0, 1) := by decide +kernel
theorem dX8_clear_30 : decode cX8_clear 30 = .ok (.getfield 24, 3) := by decide +kernel
theorem dX8_clear_33 : decode cX8_clear 33 = .ok (.iload_n 1, 1) := by decide +kernel
theorem dX8_clear_34 : decode cX8_clear 34 = .ok (.aaload, 1) := by decide +kernel
theorem dX8_clear_35 : decode cX8_clear 35 = .ok (.invokevirtual 86, 3) := by decide +kernel
theorem dX8_clear_38 : decode cX8_clear 38 = .ok (.iinc 1 1, 3) := by decide +kernel
theorem dX8_clear_41 : decode cX8_clear 41 = .ok (.goto (-18), 3) := by decide +kernel
theorem dX8_clear_44 : decode cX8_clear 44 = .ok (.aload_n 0, 1) := by decide +kernel
theorem dX8_clear_45 : decode cX8_clear 45 = .ok (.getfield 31, 3) := by decide +kernel
theorem dX8_clear_48 : decode cX8_clear 48 = .ok (.invokevirtual 87, 3) := by decide +kernel
theorem dX8_clear_51 : decode cX8_clear 51 = .ok (.aload_n 0, 1) := by decide +kernel
theorem dX8_clear_52 : decode cX8_clear 52 = .ok (.getfield 44, 3) := by decide +kernel
theorem dX8_clear_55 : decode cX8_clear 55 = .ok (.iconst 0, 1) := by decide +kernel
theorem dX8_clear_56 : decode cX8_clear 56 = .ok (.putfield 88, 3) := by decide +kernel
theorem dX8_clear_59 : decode cX8_clear 59 = .ok (.aload_n 0, 1) := by decide +kernel
theorem dX8_clear_60 : decode cX8_clear 60 = .ok (.iconst 0, 1) := by decide +kernel
theorem dX8_clear_61 : decode cX8_clear 61 = .ok (.putfield 48, 3) := by decide +kernel
theorem dX8_clear_64 : decode cX8_clear 64 = .ok (.aload_n 0, 1) := by decide +kernel
theorem dX8_clear_65 : decode cX8_clear 65 = .ok (.iconst 0, 1) := by decide +kernel
theorem dX8_clear_66 : decode cX8_clear 66 = .ok (.putfield 52, 3) := by decide +kernel
theorem dX8_clear_69 : decode cX8_clear 69 = .ok (.aload_n 0, 1) := by decide +kernel
theorem dX8_clear_70 : decode cX8_clear 70 = .ok (.iconst 0, 1) := by decide +kernel
theorem dX8_clear_71 : decode cX8_clear 71 = .ok (.putfield 55, 3) := by decide +kernel
theorem dX8_clear_74 : decode cX8_clear 74 = .ok (.aload_n 0, 1) := by decide +kernel
theorem dX8_clear_75 : decode cX8_clear 75 = .ok (.iconst 0, 1) := by decide +kernel
theorem dX8_clear_76 : decode cX8_clear 76 = .ok (.putfield 58, 3) := by decide +kernel
theorem dX8_clear_79 : decode cX8_clear 79 = .ok (.aload_n 0, 1) := by decide +kernel
theorem dX8_clear_80 : decode cX8_clear 80 = .ok (.iconst 0, 1) := by decide +kernel
theorem dX8_clear_81 : decode cX8_clear 81 = .ok (.putfield 61, 3) := by decide +kernel
theorem dX8_clear_84 : decode cX8_clear 84 = .ok (.return_, 1) := by decide +kernel
theorem dX8_copyFrom_0 : decode cX8_copyFrom 0 = .ok (.aload_n 1, 1) := by decide +kernel
theorem dX8_copyFrom_1 : decode cX8_copyFrom 1 = .ok (.getfield 9, 3) := by decide +kernel
theorem dX8_copyFrom_4 : decode cX8_copyFrom 4 = .ok (.iconst 0, 1) := by decide +kernel
theorem dX8_copyFrom_5 : decode cX8_copyFrom 5 = .ok (.aload_n 0, 1) := by decide +kernel
theorem dX8_copyFrom_6 : decode cX8_copyFrom 6 = .ok (.getfield 9, 3) := by decide +kernel
theorem dX8_copyFrom_9 : decode cX8_copyFrom 9 = .ok (.iconst 0, 1) := by decide +kernel
theorem dX8_copyFrom_10 : decode cX8_copyFrom 10 = .ok (.bipush 8, 2) := by decide +kernel
theorem dX8_copyFrom_12 : decode cX8_copyFrom 12 = .ok (.invokestatic 77, 3) := by decide +kernel
theorem dX8_copyFrom_15 : decode cX8_copyFrom 15 = .ok (.aload_n 0, 1) := by decide +kernel
theorem dX8_copyFrom_16 : decode cX8_copyFrom 16 = .ok (.getfield 18, 3) := by decide +kernel
theorem dX8_copyFrom_19 : decode cX8_copyFrom 19 = .ok (.aload_n 1, 1) := by decide +kernel
theorem dX8_copyFrom_20 : decode cX8_copyFrom 20 = .ok (.getfield 18, 3) := by decide +kernel
theorem dX8_copyFrom_23 : decode cX8_copyFrom 23 = .ok (.invokevirtual 91, 3) := by decide +kernel
theorem dX8_copyFrom_26 : decode cX8_copyFrom 26 = .ok (.iconst 0, 1) := by decide +kernel
theorem dX8_copyFrom_27 : decode cX8_copyFrom 27 = .ok (.istore_n 2, 1) := by decide +kernel
theorem dX8_copyFrom_28 : decode cX8_copyFrom 28 = .ok (.iload_n 2, 1) := by decide +kernel
theorem dX8_copyFrom_29 : decode cX8_copyFrom 29 = .ok (.bipush 16, 2) := by decide +kernel
theorem dX8_copyFrom_31 : decode cX8_copyFrom 31 = .ok (.if_icmp .ge 24, 3) := by decide +kernel
theorem dX8_copyFrom_34 : decode cX8_copyFrom 34 = .ok (.aload_n 0, 1) := by decide +kernel
theorem dX8_copyFrom_35 : decode cX8_copyFrom 35 = .ok (.getfield 24, 3) := by decide +kernel
theorem dX8_copyFrom_38 : decode cX8_copyFrom 38 = .ok (.iload_n 2, 1) := by decide +kernel
theorem dX8_copyFrom_39 : decode cX8_copyFrom 39 = .ok (.aaload, 1) := by decide +kernel
theorem dX8_copyFrom_40 : decode cX8_copyFrom 40 = .ok (.aload_n 1, 1) := by decide +kernel
theorem dX8_copyFrom_41 : decode cX8_copyFrom 41 = .ok (.getfield 24, 3) := by decide +kernel
theorem dX8_copyFrom_44 : decode cX8_copyFrom 44 = .ok (.iload_n 2, 1) := by decide +kernel
theorem dX8_copyFrom_45 : decode cX8_copyFrom 45 = .ok (.aaload, 1) := by decide +kernel
theorem dX8_copyFrom_46 : decode cX8_copyFrom 46 = .ok (.invokevirtual 95, 3) := by decide +kernel
theorem dX8_copyFrom_49 : decode cX8_copyFrom 49 = .ok (.iinc 2 1, 3) := by decide +kernel
theorem dX8_copyFrom_52 : decode cX8_copyFrom 52 = .ok (.goto (-24), 3) := by decide +kernel
theorem dX8_copyFrom_55 : decode cX8_copyFrom 55 = .ok (.aload_n 0, 1) := by decide +kernel
theorem dX8_copyFrom_56 : decode cX8_copyFrom 56 = .ok (.getfield 31, 3) := by decide +kernel
theorem dX8_copyFrom_59 : decode cX8_copyFrom 59 = .ok (.aload_n 1, 1) := by decide +kernel
theorem dX8_copyFrom_60 : decode cX8_copyFrom 60 = .ok (.getfield 31, 3) := by decide +kernel
theorem dX8_copyFrom_63 : decode cX8_copyFrom 63 = .ok (.invokevirtual 98, 3) := by decide +kernel
theorem dX8_copyFrom_66 : decode cX8_copyFrom 66 = .ok (.iconst 0, 1) := by decide +kernel
theorem dX8_copyFrom_67 : decode cX8_copyFrom 67 = .ok (.istore_n 2, 1) := by decide +kernel
theorem dX8_copyFrom_68 : decode cX8_copyFrom 68 = .ok (.iload_n 2, 1) := by decide +kernel
theorem dX8_copyFrom_69 : decode cX8_copyFrom 69 = .ok (.iconst 4, 1) := by decide +kernel
theorem dX8_copyFrom_70 : decode cX8_copyFrom 70 = .ok (.if_icmp .ge 24, 3) := by decide +kernel
theorem dX8_copyFrom_73 : decode cX8_copyFrom 73 = .ok (.aload_n 0, 1) := by decide +kernel
theorem dX8_copyFrom_74 : decode cX8_copyFrom 74 = .ok (.getfield 37, 3) := by decide +kernel
theorem dX8_copyFrom_77 : decode cX8_copyFrom 77 = .ok (.iload_n 2, 1) := by decide +kernel
theorem dX8_copyFrom_78 : decode cX8_copyFrom 78 = .ok (.aaload, 1) := by decide +kernel
theorem dX8_copyFrom_79 : decode cX8_copyFrom 79 = .ok (.aload_n 1, 1) := by decide +kernel
theorem dX8_copyFrom_80 : decode cX8_copyFrom 80 = .ok (.getfield 37, 3) := by decide +kernel
theorem dX8_copyFrom_83 : decode cX8_copyFrom 83 = .ok (.iload_n 2, 1) := by decide +kernel
theorem dX8_copyFrom_84 : decode cX8_copyFrom 84 = .ok (.aaload, 1) := by decide +kernel
theorem dX8_copyFrom_85 : decode cX8_copyFrom 85 = .ok (.invokevirtual 101, 3) := by decide +kernel
theorem dX8_copyFrom_88 : decode cX8_copyFrom 88 = .ok (.iinc 2 1, 3) := by decide +kernel
theorem dX8_copyFrom_91 : decode cX8_copyFrom 91 = .ok (.goto (-23), 3) := by decide +kernel
theorem dX8_copyFrom_94 : decode cX8_copyFrom 94 = .ok (.aload_n 0, 1) := by decide +kernel
theorem dX8_copyFrom_95 : decode cX8_copyFrom 95 = .ok (.aload_n 1, 1) := by decide +kernel
theorem dX8_copyFrom_96 : decode cX8_copyFrom 96 = .ok (.getfield 48, 3) := by decide +kernel
theorem dX8_copyFrom_99 : decode cX8_copyFrom 99 = .ok (.putfield 48, 3) := by decide +kernel
theorem dX8_copyFrom_102 : decode cX8_copyFrom 102 = .ok (.aload_n 0, 1) := by decide +kernel
theorem dX8_copyFrom_103 : decode cX8_copyFrom 103 = .ok (.aload_n 1, 1) := by decide +kernel
theorem dX8_copyFrom_104 : decode cX8_copyFrom 104 = .ok (.getfield 52, 3) := by decide +kernel
theorem dX8_copyFrom_107 : decode cX8_copyFrom 107 = .ok (.putfield 52, 3) := by decide +kernel
theorem dX8_copyFrom_110 : decode cX8_copyFrom 110 = .ok (.aload_n 0, 1) := by decide +kernel
theorem dX8_copyFrom_111 : decode cX8_copyFrom 111 = .ok (.aload_n 1, 1) := by decide +kernel
theorem dX8_copyFrom_112 : decode cX8_copyFrom 112 = .ok (.getfield 55, 3) := by decide +kernel
theorem dX8_copyFrom_115 : decode cX8_copyFrom 115 = .ok (.putfield 55, 3) := by decide +kernel
theorem dX8_copyFrom_118 : decode cX8_copyFrom 118 = .ok (.aload_n 0, 1) := by decide +kernel
theorem dX8_copyFrom_119 : decode cX8_copyFrom 119 = .ok (.aload_n 1, 1) := by decide +kernel
theorem dX8_copyFrom_120 : decode cX8_copyFrom 120 = .ok (.getfield 58, 3) := by decide +kernel
theorem dX8_copyFrom_123 : decode cX8_copyFrom 123 = .ok (.putfield 58, 3) := by decide +kernel
theorem dX8_copyFrom_126 : decode cX8_copyFrom 126 = .ok (.aload_n 0, 1) := by decide +kernel
theorem dX8_copyFrom_127 : decode cX8_copyFrom 127 = .ok (.aload_n 1, 1) := by decide +kernel
theorem dX8_copyFrom_128 : decode cX8_copyFrom 128 = .ok (.getfield 61, 3) := by decide +kernel
theorem dX8_copyFrom_131 : decode cX8_copyFrom 131 = .ok (.putfield 61, 3) := by decide +kernel
theorem dX8_copyFrom_134 : decode cX8_copyFrom 134 = .ok (.return_, 1) := by decide +kernel
theorem dX8_bucketCount_0 : decode cX8_bucketCount 0 = .ok (.aload_n 0, 1) := by decide +kernel
theorem dX8_bucketCount_1 : decode cX8_bucketCount 1 = .ok (.getfield 9, 3) := by decide +kernel
theorem dX8_bucketCount_4 : decode cX8_bucketCount 4 = .ok (.iconst 3, 1) := by decide +kernel
theorem dX8_bucketCount_5 : decode cX8_bucketCount 5 = .ok (.iaload, 1) := by decide +kernel
theorem dX8_bucketCount_6 : decode cX8_bucketCount 6 = .ok (.aload_n 0, 1) := by decide +kernel
theorem dX8_bucketCount_7 : decode cX8_bucketCount 7 = .ok (.getfield 9, 3) := by decide +kernel
theorem dX8_bucketCount_10 : decode cX8_bucketCount 10 = .ok (.iconst 4, 1) := by decide +kernel
theorem dX8_bucketCount_11 : decode cX8_bucketCount 11 = .ok (.iaload, 1) := by decide +kernel
theorem dX8_bucketCount_12 : decode cX8_bucketCount 12 = .ok (.imul, 1) := by decide +kernel
theorem dX8_bucketCount_13 : decode cX8_bucketCount 13 = .ok (.ireturn, 1) := by decide +kernel
theorem dX8_setOf_0 : decode cX8_setOf 0 = .ok (.iload_n 1, 1) := by decide +kernel
theorem dX8_setOf_1 : decode cX8_setOf 1 = .ok (.ldc 108, 2) := by decide +kernel
theorem dX8_setOf_3 : decode cX8_setOf 3 = .ok (.imul, 1) := by decide +kernel
theorem dX8_setOf_4 : decode cX8_setOf 4 = .ok (.ldc 109, 2) := by decide +kernel
theorem dX8_setOf_6 : decode cX8_setOf 6 = .ok (.iand, 1) := by decide +kernel
theorem dX8_setOf_7 : decode cX8_setOf 7 = .ok (.bipush 8, 2) := by decide +kernel
theorem dX8_setOf_9 : decode cX8_setOf 9 = .ok (.ishr, 1) := by decide +kernel
theorem dX8_setOf_10 : decode cX8_setOf 10 = .ok (.aload_n 0, 1) := by decide +kernel
theorem dX8_setOf_11 : decode cX8_setOf 11 = .ok (.getfield 9, 3) := by decide +kernel
theorem dX8_setOf_14 : decode cX8_setOf 14 = .ok (.iconst 3, 1) := by decide +kernel
theorem dX8_setOf_15 : decode cX8_setOf 15 = .ok (.iaload, 1) := by decide +kernel
theorem dX8_setOf_16 : decode cX8_setOf 16 = .ok (.invokestatic 110, 3) := by decide +kernel
theorem dX8_setOf_19 : decode cX8_setOf 19 = .ok (.ireturn, 1) := by decide +kernel
theorem dX8_addSender_0 : decode cX8_addSender 0 = .ok (.aload_n 0, 1) := by decide +kernel
theorem dX8_addSender_1 : decode cX8_addSender 1 = .ok (.getfield 48, 3) := by decide +kernel
theorem dX8_addSender_4 : decode cX8_addSender 4 = .ok (.iconst 4, 1) := by decide +kernel
theorem dX8_addSender_5 : decode cX8_addSender 5 = .ok (.if_icmp .ge 27, 3) := by decide +kernel
theorem dX8_addSender_8 : decode cX8_addSender 8 = .ok (.aload_n 0, 1) := by decide +kernel
theorem dX8_addSender_9 : decode cX8_addSender 9 = .ok (.getfield 37, 3) := by decide +kernel
theorem dX8_addSender_12 : decode cX8_addSender 12 = .ok (.aload_n 0, 1) := by decide +kernel
theorem dX8_addSender_13 : decode cX8_addSender 13 = .ok (.getfield 48, 3) := by decide +kernel
theorem dX8_addSender_16 : decode cX8_addSender 16 = .ok (.aaload, 1) := by decide +kernel
theorem dX8_addSender_17 : decode cX8_addSender 17 = .ok (.aload_n 1, 1) := by decide +kernel
theorem dX8_addSender_18 : decode cX8_addSender 18 = .ok (.iload_n 2, 1) := by decide +kernel
theorem dX8_addSender_19 : decode cX8_addSender 19 = .ok (.invokevirtual 129, 3) := by decide +kernel
theorem dX8_addSender_22 : decode cX8_addSender 22 = .ok (.aload_n 0, 1) := by decide +kernel
theorem dX8_addSender_23 : decode cX8_addSender 23 = .ok (.dup, 1) := by decide +kernel
theorem dX8_addSender_24 : decode cX8_addSender 24 = .ok (.getfield 48, 3) := by decide +kernel
theorem dX8_addSender_27 : decode cX8_addSender 27 = .ok (.iconst 1, 1) := by decide +kernel
theorem dX8_addSender_28 : decode cX8_addSender 28 = .ok (.iadd, 1) := by decide +kernel
theorem dX8_addSender_29 : decode cX8_addSender 29 = .ok (.putfield 48, 3) := by decide +kernel
theorem dX8_addSender_32 : decode cX8_addSender 32 = .ok (.return_, 1) := by decide +kernel
theorem dX8_link_0 : decode cX8_link 0 = .ok (.aload_n 0, 1) := by decide +kernel
theorem dX8_link_1 : decode cX8_link 1 = .ok (.getfield 18, 3) := by decide +kernel
theorem dX8_link_4 : decode cX8_link 4 = .ok (.iload_n 2, 1) := by decide +kernel
theorem dX8_link_5 : decode cX8_link 5 = .ok (.invokevirtual 162, 3) := by decide +kernel
theorem dX8_link_8 : decode cX8_link 8 = .ok (.ifCond .ne 4, 3) := by decide +kernel
theorem dX8_link_11 : decode cX8_link 11 = .ok (.return_, 1) := by decide +kernel
theorem dX8_link_12 : decode cX8_link 12 = .ok (.aload_n 0, 1) := by decide +kernel
theorem dX8_link_13 : decode cX8_link 13 = .ok (.getfield 18, 3) := by decide +kernel
theorem dX8_link_16 : decode cX8_link 16 = .ok (.aload_n 1, 1) := by decide +kernel
theorem dX8_link_17 : decode cX8_link 17 = .ok (.getfield 165, 3) := by decide +kernel
theorem dX8_link_20 : decode cX8_link 20 = .ok (.invokevirtual 162, 3) := by decide +kernel
theorem dX8_link_23 : decode cX8_link 23 = .ok (.ifCond .eq 19, 3) := by decide +kernel
theorem dX8_link_26 : decode cX8_link 26 = .ok (.aload_n 0, 1) := by decide +kernel
theorem dX8_link_27 : decode cX8_link 27 = .ok (.getfield 18, 3) := by decide +kernel
theorem dX8_link_30 : decode cX8_link 30 = .ok (.getfield 168, 3) := by decide +kernel
theorem dX8_link_33 : decode cX8_link 33 = .ok (.aload_n 1, 1) := by decide +kernel
theorem dX8_link_34 : decode cX8_link 34 = .ok (.getfield 165, 3) := by decide +kernel
theorem dX8_link_37 : decode cX8_link 37 = .ok (.iload_n 2, 1) := by decide +kernel
theorem dX8_link_38 : decode cX8_link 38 = .ok (.iastore, 1) := by decide +kernel
theorem dX8_link_39 : decode cX8_link 39 = .ok (.goto 8, 3) := by decide +kernel
theorem dX8_link_42 : decode cX8_link 42 = .ok (.aload_n 1, 1) := by decide +kernel
theorem dX8_link_43 : decode cX8_link 43 = .ok (.iload_n 2, 1) := by decide +kernel
theorem dX8_link_44 : decode cX8_link 44 = .ok (.putfield 171, 3) := by decide +kernel
theorem dX8_link_47 : decode cX8_link 47 = .ok (.aload_n 1, 1) := by decide +kernel
theorem dX8_link_48 : decode cX8_link 48 = .ok (.iload_n 2, 1) := by decide +kernel
theorem dX8_link_49 : decode cX8_link 49 = .ok (.putfield 165, 3) := by decide +kernel
theorem dX8_link_52 : decode cX8_link 52 = .ok (.aload_n 1, 1) := by decide +kernel
theorem dX8_link_53 : decode cX8_link 53 = .ok (.dup, 1) := by decide +kernel
theorem dX8_link_54 : decode cX8_link 54 = .ok (.getfield 174, 3) := by decide +kernel
theorem dX8_link_57 : decode cX8_link 57 = .ok (.iconst 1, 1) := by decide +kernel
theorem dX8_link_58 : decode cX8_link 58 = .ok (.iadd, 1) := by decide +kernel
theorem dX8_link_59 : decode cX8_link 59 = .ok (.putfield 174, 3) := by decide +kernel
theorem dX8_link_62 : decode cX8_link 62 = .ok (.aload_n 1, 1) := by decide +kernel
theorem dX8_link_63 : decode cX8_link 63 = .ok (.dup, 1) := by decide +kernel
theorem dX8_link_64 : decode cX8_link 64 = .ok (.getfield 176, 3) := by decide +kernel
theorem dX8_link_67 : decode cX8_link 67 = .ok (.aload_n 0, 1) := by decide +kernel
theorem dX8_link_68 : decode cX8_link 68 = .ok (.getfield 18, 3) := by decide +kernel
theorem dX8_link_71 : decode cX8_link 71 = .ok (.getfield 179, 3) := by decide +kernel
theorem dX8_link_74 : decode cX8_link 74 = .ok (.iload_n 2, 1) := by decide +kernel
theorem dX8_link_75 : decode cX8_link 75 = .ok (.iaload, 1) := by decide +kernel
theorem dX8_link_76 : decode cX8_link 76 = .ok (.iadd, 1) := by decide +kernel
theorem dX8_link_77 : decode cX8_link 77 = .ok (.putfield 176, 3) := by decide +kernel
theorem dX8_link_80 : decode cX8_link 80 = .ok (.aload_n 0, 1) := by decide +kernel
theorem dX8_link_81 : decode cX8_link 81 = .ok (.dup, 1) := by decide +kernel
theorem dX8_link_82 : decode cX8_link 82 = .ok (.getfield 55, 3) := by decide +kernel
theorem dX8_link_85 : decode cX8_link 85 = .ok (.iconst 1, 1) := by decide +kernel
theorem dX8_link_86 : decode cX8_link 86 = .ok (.iadd, 1) := by decide +kernel
theorem dX8_link_87 : decode cX8_link 87 = .ok (.putfield 55, 3) := by decide +kernel
theorem dX8_link_90 : decode cX8_link 90 = .ok (.aload_n 0, 1) := by decide +kernel
theorem dX8_link_91 : decode cX8_link 91 = .ok (.dup, 1) := by decide +kernel
theorem dX8_link_92 : decode cX8_link 92 = .ok (.getfield 58, 3) := by decide +kernel
theorem dX8_link_95 : decode cX8_link 95 = .ok (.aload_n 0, 1) := by decide +kernel
theorem dX8_link_96 : decode cX8_link 96 = .ok (.getfield 18, 3) := by decide +kernel
theorem dX8_link_99 : decode cX8_link 99 = .ok (.getfield 179, 3) := by decide +kernel
theorem dX8_link_102 : decode cX8_link 102 = .ok (.iload_n 2, 1) := by decide +kernel
theorem dX8_link_103 : decode cX8_link 103 = .ok (.iaload, 1) := by decide +kernel
theorem dX8_link_104 : decode cX8_link 104 = .ok (.iadd, 1) := by decide +kernel
theorem dX8_link_105 : decode cX8_link 105 = .ok (.putfield 58, 3) := by decide +kernel
theorem dX8_link_108 : decode cX8_link 108 = .ok (.return_, 1) := by decide +kernel
theorem dX8_unlink_0 : decode cX8_unlink 0 = .ok (.aload_n 1, 1) := by decide +kernel
theorem dX8_unlink_1 : decode cX8_unlink 1 = .ok (.getfield 171, 3) := by decide +kernel
theorem dX8_unlink_4 : decode cX8_unlink 4 = .ok (.istore_n 2, 1) := by decide +kernel
theorem dX8_unlink_5 : decode cX8_unlink 5 = .ok (.iload_n 2, 1) := by decide +kernel
theorem dX8_unlink_6 : decode cX8_unlink 6 = .ok (.ifCond .lt 21, 3) := by decide +kernel
theorem dX8_unlink_9 : decode cX8_unlink 9 = .ok (.iload_n 2, 1) := by decide +kernel
theorem dX8_unlink_10 : decode cX8_unlink 10 = .ok (.aload_n 0, 1) := by decide +kernel
theorem dX8_unlink_11 : decode cX8_unlink 11 = .ok (.getfield 18, 3) := by decide +kernel
theorem dX8_unlink_14 : decode cX8_unlink 14 = .ok (.getfield 136, 3) := by decide +kernel
theorem dX8_unlink_17 : decode cX8_unlink 17 = .ok (.if_icmp .ge 10, 3) := by decide +kernel
theorem dX8_unlink_20 : decode cX8_unlink 20 = .ok (.iload_n 2, 1) := by decide +kernel
theorem dX8_unlink_21 : decode cX8_unlink 21 = .ok (.sipush 200, 3) := by decide +kernel
theorem dX8_unlink_24 : decode cX8_unlink 24 = .ok (.if_icmp .lt 6, 3) := by decide +kernel
theorem dX8_unlink_27 : decode cX8_unlink 27 = .ok (.bipush (-2), 2) := by decide +kernel
theorem dX8_unlink_29 : decode cX8_unlink 29 = .ok (.ireturn, 1) := by decide +kernel
theorem dX8_unlink_30 : decode cX8_unlink 30 = .ok (.aload_n 1, 1) := by decide +kernel
theorem dX8_unlink_31 : decode cX8_unlink 31 = .ok (.aload_n 0, 1) := by decide +kernel
theorem dX8_unlink_32 : decode cX8_unlink 32 = .ok (.getfield 18, 3) := by decide +kernel
theorem dX8_unlink_35 : decode cX8_unlink 35 = .ok (.getfield 168, 3) := by decide +kernel
theorem dX8_unlink_38 : decode cX8_unlink 38 = .ok (.iload_n 2, 1) := by decide +kernel
theorem dX8_unlink_39 : decode cX8_unlink 39 = .ok (.iaload, 1) := by decide +kernel
theorem dX8_unlink_40 : decode cX8_unlink 40 = .ok (.putfield 171, 3) := by decide +kernel
theorem dX8_unlink_43 : decode cX8_unlink 43 = .ok (.aload_n 1, 1) := by decide +kernel
theorem dX8_unlink_44 : decode cX8_unlink 44 = .ok (.getfield 171, 3) := by decide +kernel
theorem dX8_unlink_47 : decode cX8_unlink 47 = .ok (.ifCond .ge 9, 3) := by decide +kernel
theorem dX8_unlink_50 : decode cX8_unlink 50 = .ok (.aload_n 1, 1) := by decide +kernel
theorem dX8_unlink_51 : decode cX8_unlink 51 = .ok (.bipush (-2), 2) := by decide +kernel
theorem dX8_unlink_53 : decode cX8_unlink 53 = .ok (.putfield 165, 3) := by decide +kernel
theorem dX8_unlink_56 : decode cX8_unlink 56 = .ok (.aload_n 1, 1) := by decide +kernel
theorem dX8_unlink_57 : decode cX8_unlink 57 = .ok (.dup, 1) := by decide +kernel
theorem dX8_unlink_58 : decode cX8_unlink 58 = .ok (.getfield 174, 3) := by decide +kernel
theorem dX8_unlink_61 : decode cX8_unlink 61 = .ok (.iconst 1, 1) := by decide +kernel
theorem dX8_unlink_62 : decode cX8_unlink 62 = .ok (.isub, 1) := by decide +kernel
theorem dX8_unlink_63 : decode cX8_unlink 63 = .ok (.putfield 174, 3) := by decide +kernel
theorem dX8_unlink_66 : decode cX8_unlink 66 = .ok (.aload_n 1, 1) := by decide +kernel
theorem dX8_unlink_67 : decode cX8_unlink 67 = .ok (.dup, 1) := by decide +kernel
theorem dX8_unlink_68 : decode cX8_unlink 68 = .ok (.getfield 176, 3) := by decide +kernel
theorem dX8_unlink_71 : decode cX8_unlink 71 = .ok (.aload_n 0, 1) := by decide +kernel
theorem dX8_unlink_72 : decode cX8_unlink 72 = .ok (.getfield 18, 3) := by decide +kernel
theorem dX8_unlink_75 : decode cX8_unlink 75 = .ok (.getfield 179, 3) := by decide +kernel
theorem dX8_unlink_78 : decode cX8_unlink 78 = .ok (.iload_n 2, 1) := by decide +kernel
theorem dX8_unlink_79 : decode cX8_unlink 79 = .ok (.iaload, 1) := by decide +kernel
theorem dX8_unlink_80 : decode cX8_unlink 80 = .ok (.isub, 1) := by decide +kernel
theorem dX8_unlink_81 : decode cX8_unlink 81 = .ok (.putfield 176, 3) := by decide +kernel
theorem dX8_unlink_84 : decode cX8_unlink 84 = .ok (.aload_n 0, 1) := by decide +kernel
theorem dX8_unlink_85 : decode cX8_unlink 85 = .ok (.dup, 1) := by decide +kernel
theorem dX8_unlink_86 : decode cX8_unlink 86 = .ok (.getfield 55, 3) := by decide +kernel
theorem dX8_unlink_89 : decode cX8_unlink 89 = .ok (.iconst 1, 1) := by decide +kernel
theorem dX8_unlink_90 : decode cX8_unlink 90 = .ok (.isub, 1) := by decide +kernel
theorem dX8_unlink_91 : decode cX8_unlink 91 = .ok (.putfield 55, 3) := by decide +kernel
theorem dX8_unlink_94 : decode cX8_unlink 94 = .ok (.aload_n 0, 1) := by decide +kernel
theorem dX8_unlink_95 : decode cX8_unlink 95 = .ok (.dup, 1) := by decide +kernel
theorem dX8_unlink_96 : decode cX8_unlink 96 = .ok (.getfield 58, 3) := by decide +kernel
theorem dX8_unlink_99 : decode cX8_unlink 99 = .ok (.aload_n 0, 1) := by decide +kernel
theorem dX8_unlink_100 : decode cX8_unlink 100 = .ok (.getfield 18, 3) := by decide +kernel
theorem dX8_unlink_103 : decode cX8_unlink 103 = .ok (.getfield 179, 3) := by decide +kernel
theorem dX8_unlink_106 : decode cX8_unlink 106 = .ok (.iload_n 2, 1) := by decide +kernel
theorem dX8_unlink_107 : decode cX8_unlink 107 = .ok (.iaload, 1) := by decide +kernel
theorem dX8_unlink_108 : decode cX8_unlink 108 = .ok (.isub, 1) := by decide +kernel
theorem dX8_unlink_109 : decode cX8_unlink 109 = .ok (.putfield 58, 3) := by decide +kernel
theorem dX8_unlink_112 : decode cX8_unlink 112 = .ok (.iload_n 2, 1) := by decide +kernel
theorem dX8_unlink_113 : decode cX8_unlink 113 = .ok (.ireturn, 1) := by decide +kernel
theorem dX8_putBack_0 : decode cX8_putBack 0 = .ok (.aload_n 1, 1) := by decide +kernel
theorem dX8_putBack_1 : decode cX8_putBack 1 = .ok (.iconst 2, 1) := by decide +kernel
theorem dX8_putBack_2 : decode cX8_putBack 2 = .ok (.putfield 123, 3) := by decide +kernel
theorem dX8_putBack_5 : decode cX8_putBack 5 = .ok (.aload_n 0, 1) := by decide +kernel
theorem dX8_putBack_6 : decode cX8_putBack 6 = .ok (.getfield 31, 3) := by decide +kernel
theorem dX8_putBack_9 : decode cX8_putBack 9 = .ok (.invokevirtual 215, 3) := by decide +kernel
theorem dX8_putBack_12 : decode cX8_putBack 12 = .ok (.return_, 1) := by decide +kernel
theorem dX8_release_0 : decode cX8_release 0 = .ok (.aload_n 1, 1) := by decide +kernel
theorem dX8_release_1 : decode cX8_release 1 = .ok (.iconst 0, 1) := by decide +kernel
theorem dX8_release_2 : decode cX8_release 2 = .ok (.putfield 123, 3) := by decide +kernel
theorem dX8_release_5 : decode cX8_release 5 = .ok (.aload_n 0, 1) := by decide +kernel
theorem dX8_release_6 : decode cX8_release 6 = .ok (.getfield 31, 3) := by decide +kernel
theorem dX8_release_9 : decode cX8_release 9 = .ok (.invokevirtual 218, 3) := by decide +kernel
theorem dX8_release_12 : decode cX8_release 12 = .ok (.aload_n 0, 1) := by decide +kernel
theorem dX8_release_13 : decode cX8_release 13 = .ok (.getfield 44, 3) := by decide +kernel
theorem dX8_release_16 : decode cX8_release 16 = .ok (.iconst 5, 1) := by decide +kernel
theorem dX8_release_17 : decode cX8_release 17 = .ok (.aload_n 1, 1) := by decide +kernel
theorem dX8_release_18 : decode cX8_release 18 = .ok (.getfield 126, 3) := by decide +kernel
theorem dX8_release_21 : decode cX8_release 21 = .ok (.invokevirtual 188, 3) := by decide +kernel
theorem dX8_release_24 : decode cX8_release 24 = .ok (.return_, 1) := by decide +kernel
theorem dX8_send_0 : decode cX8_send 0 = .ok (.aload_n 0, 1) := by decide +kernel
theorem dX8_send_1 : decode cX8_send 1 = .ok (.getfield 18, 3) := by decide +kernel
theorem dX8_send_4 : decode cX8_send 4 = .ok (.iload_n 2, 1) := by decide +kernel
theorem dX8_send_5 : decode cX8_send 5 = .ok (.iconst 1, 1) := by decide +kernel
theorem dX8_send_6 : decode cX8_send 6 = .ok (.aload_n 0, 1) := by decide +kernel
theorem dX8_send_7 : decode cX8_send 7 = .ok (.getfield 52, 3) := by decide +kernel
theorem dX8_send_10 : decode cX8_send 10 = .ok (.invokevirtual 185, 3) := by decide +kernel
theorem dX8_send_13 : decode cX8_send 13 = .ok (.aload_n 1, 1) := by decide +kernel
theorem dX8_send_14 : decode cX8_send 14 = .ok (.dup, 1) := by decide +kernel
theorem dX8_send_15 : decode cX8_send 15 = .ok (.getfield 196, 3) := by decide +kernel
theorem dX8_send_18 : decode cX8_send 18 = .ok (.aload_n 0, 1) := by decide +kernel
theorem dX8_send_19 : decode cX8_send 19 = .ok (.getfield 18, 3) := by decide +kernel
theorem dX8_send_22 : decode cX8_send 22 = .ok (.getfield 179, 3) := by decide +kernel
theorem dX8_send_25 : decode cX8_send 25 = .ok (.iload_n 2, 1) := by decide +kernel
theorem dX8_send_26 : decode cX8_send 26 = .ok (.iaload, 1) := by decide +kernel
theorem dX8_send_27 : decode cX8_send 27 = .ok (.isub, 1) := by decide +kernel
theorem dX8_send_28 : decode cX8_send 28 = .ok (.putfield 196, 3) := by decide +kernel
theorem dX8_send_31 : decode cX8_send 31 = .ok (.aload_n 0, 1) := by decide +kernel
theorem dX8_send_32 : decode cX8_send 32 = .ok (.getfield 44, 3) := by decide +kernel
theorem dX8_send_35 : decode cX8_send 35 = .ok (.iconst 0, 1) := by decide +kernel
theorem dX8_send_36 : decode cX8_send 36 = .ok (.aload_n 0, 1) := by decide +kernel
theorem dX8_send_37 : decode cX8_send 37 = .ok (.getfield 18, 3) := by decide +kernel
theorem dX8_send_40 : decode cX8_send 40 = .ok (.iload_n 2, 1) := by decide +kernel
theorem dX8_send_41 : decode cX8_send 41 = .ok (.invokevirtual 221, 3) := by decide +kernel
theorem dX8_send_44 : decode cX8_send 44 = .ok (.invokevirtual 188, 3) := by decide +kernel
theorem dX8_send_47 : decode cX8_send 47 = .ok (.aload_n 0, 1) := by decide +kernel
theorem dX8_send_48 : decode cX8_send 48 = .ok (.getfield 44, 3) := by decide +kernel
theorem dX8_send_51 : decode cX8_send 51 = .ok (.iconst 2, 1) := by decide +kernel
theorem dX8_send_52 : decode cX8_send 52 = .ok (.aload_n 1, 1) := by decide +kernel
theorem dX8_send_53 : decode cX8_send 53 = .ok (.getfield 196, 3) := by decide +kernel
theorem dX8_send_56 : decode cX8_send 56 = .ok (.invokevirtual 188, 3) := by decide +kernel
theorem dX8_send_59 : decode cX8_send 59 = .ok (.aload_n 0, 1) := by decide +kernel
theorem dX8_send_60 : decode cX8_send 60 = .ok (.dup, 1) := by decide +kernel
theorem dX8_send_61 : decode cX8_send 61 = .ok (.getfield 52, 3) := by decide +kernel
theorem dX8_send_64 : decode cX8_send 64 = .ok (.aload_n 0, 1) := by decide +kernel
theorem dX8_send_65 : decode cX8_send 65 = .ok (.getfield 18, 3) := by decide +kernel
theorem dX8_send_68 : decode cX8_send 68 = .ok (.getfield 179, 3) := by decide +kernel
theorem dX8_send_71 : decode cX8_send 71 = .ok (.iload_n 2, 1) := by decide +kernel
theorem dX8_send_72 : decode cX8_send 72 = .ok (.iaload, 1) := by decide +kernel
theorem dX8_send_73 : decode cX8_send 73 = .ok (.aload_n 0, 1) := by decide +kernel
theorem dX8_send_74 : decode cX8_send 74 = .ok (.getfield 9, 3) := by decide +kernel
theorem dX8_send_77 : decode cX8_send 77 = .ok (.bipush 7, 2) := by decide +kernel
theorem dX8_send_79 : decode cX8_send 79 = .ok (.iaload, 1) := by decide +kernel
theorem dX8_send_80 : decode cX8_send 80 = .ok (.invokestatic 224, 3) := by decide +kernel
theorem dX8_send_83 : decode cX8_send 83 = .ok (.iadd, 1) := by decide +kernel
theorem dX8_send_84 : decode cX8_send 84 = .ok (.putfield 52, 3) := by decide +kernel
theorem dX8_send_87 : decode cX8_send 87 = .ok (.return_, 1) := by decide +kernel
theorem dX8_mark_0 : decode cX8_mark 0 = .ok (.aload_n 0, 1) := by decide +kernel
theorem dX8_mark_1 : decode cX8_mark 1 = .ok (.getfield 18, 3) := by decide +kernel
theorem dX8_mark_4 : decode cX8_mark 4 = .ok (.iload_n 1, 1) := by decide +kernel
theorem dX8_mark_5 : decode cX8_mark 5 = .ok (.invokevirtual 162, 3) := by decide +kernel
theorem dX8_mark_8 : decode cX8_mark 8 = .ok (.ifCond .eq 55, 3) := by decide +kernel
theorem dX8_mark_11 : decode cX8_mark 11 = .ok (.aload_n 0, 1) := by decide +kernel
theorem dX8_mark_12 : decode cX8_mark 12 = .ok (.getfield 18, 3) := by decide +kernel
theorem dX8_mark_15 : decode cX8_mark 15 = .ok (.getfield 275, 3) := by decide +kernel
theorem dX8_mark_18 : decode cX8_mark 18 = .ok (.iload_n 1, 1) := by decide +kernel
theorem dX8_mark_19 : decode cX8_mark 19 = .ok (.iaload, 1) := by decide +kernel
theorem dX8_mark_20 : decode cX8_mark 20 = .ok (.ifCond .ne 43, 3) := by decide +kernel
theorem dX8_mark_23 : decode cX8_mark 23 = .ok (.aload_n 0, 1) := by decide +kernel
theorem dX8_mark_24 : decode cX8_mark 24 = .ok (.getfield 18, 3) := by decide +kernel
theorem dX8_mark_27 : decode cX8_mark 27 = .ok (.getfield 275, 3) := by decide +kernel
theorem dX8_mark_30 : decode cX8_mark 30 = .ok (.iload_n 1, 1) := by decide +kernel
theorem dX8_mark_31 : decode cX8_mark 31 = .ok (.iconst 1, 1) := by decide +kernel
theorem dX8_mark_32 : decode cX8_mark 32 = .ok (.iastore, 1) := by decide +kernel
theorem dX8_mark_33 : decode cX8_mark 33 = .ok (.aload_n 0, 1) := by decide +kernel
theorem dX8_mark_34 : decode cX8_mark 34 = .ok (.getfield 18, 3) := by decide +kernel
theorem dX8_mark_37 : decode cX8_mark 37 = .ok (.getfield 278, 3) := by decide +kernel
theorem dX8_mark_40 : decode cX8_mark 40 = .ok (.iconst 4, 1) := by decide +kernel
theorem dX8_mark_41 : decode cX8_mark 41 = .ok (.dup2, 1) := by decide +kernel
theorem dX8_mark_42 : decode cX8_mark 42 = .ok (.iaload, 1) := by decide +kernel
theorem dX8_mark_43 : decode cX8_mark 43 = .ok (.iconst 1, 1) := by decide +kernel
theorem dX8_mark_44 : decode cX8_mark 44 = .ok (.iadd, 1) := by decide +kernel
theorem dX8_mark_45 : decode cX8_mark 45 = .ok (.iastore, 1) := by decide +kernel
theorem dX8_mark_46 : decode cX8_mark 46 = .ok (.aload_n 0, 1) := by decide +kernel
theorem dX8_mark_47 : decode cX8_mark 47 = .ok (.getfield 44, 3) := by decide +kernel
theorem dX8_mark_50 : decode cX8_mark 50 = .ok (.iconst 3, 1) := by decide +kernel
theorem dX8_mark_51 : decode cX8_mark 51 = .ok (.aload_n 0, 1) := by decide +kernel
theorem dX8_mark_52 : decode cX8_mark 52 = .ok (.getfield 18, 3) := by decide +kernel
theorem dX8_mark_55 : decode cX8_mark 55 = .ok (.getfield 179, 3) := by decide +kernel
theorem dX8_mark_58 : decode cX8_mark 58 = .ok (.iload_n 1, 1) := by decide +kernel
theorem dX8_mark_59 : decode cX8_mark 59 = .ok (.iaload, 1) := by decide +kernel
theorem dX8_mark_60 : decode cX8_mark 60 = .ok (.invokevirtual 188, 3) := by decide +kernel
theorem dX8_mark_63 : decode cX8_mark 63 = .ok (.return_, 1) := by decide +kernel
theorem dX8_drop_0 : decode cX8_drop 0 = .ok (.aload_n 0, 1) := by decide +kernel
theorem dX8_drop_1 : decode cX8_drop 1 = .ok (.getfield 18, 3) := by decide +kernel
theorem dX8_drop_4 : decode cX8_drop 4 = .ok (.iload_n 1, 1) := by decide +kernel
theorem dX8_drop_5 : decode cX8_drop 5 = .ok (.invokevirtual 162, 3) := by decide +kernel
theorem dX8_drop_8 : decode cX8_drop 8 = .ok (.ifCond .eq 33, 3) := by decide +kernel
theorem dX8_drop_11 : decode cX8_drop 11 = .ok (.aload_n 0, 1) := by decide +kernel
theorem dX8_drop_12 : decode cX8_drop 12 = .ok (.getfield 18, 3) := by decide +kernel
theorem dX8_drop_15 : decode cX8_drop 15 = .ok (.iload_n 1, 1) := by decide +kernel
theorem dX8_drop_16 : decode cX8_drop 16 = .ok (.iconst 2, 1) := by decide +kernel
theorem dX8_drop_17 : decode cX8_drop 17 = .ok (.aload_n 0, 1) := by decide +kernel
theorem dX8_drop_18 : decode cX8_drop 18 = .ok (.getfield 52, 3) := by decide +kernel
theorem dX8_drop_21 : decode cX8_drop 21 = .ok (.invokevirtual 185, 3) := by decide +kernel
theorem dX8_drop_24 : decode cX8_drop 24 = .ok (.aload_n 0, 1) := by decide +kernel
theorem dX8_drop_25 : decode cX8_drop 25 = .ok (.getfield 44, 3) := by decide +kernel
theorem dX8_drop_28 : decode cX8_drop 28 = .ok (.iconst 1, 1) := by decide +kernel
theorem dX8_drop_29 : decode cX8_drop 29 = .ok (.aload_n 0, 1) := by decide +kernel
theorem dX8_drop_30 : decode cX8_drop 30 = .ok (.getfield 18, 3) := by decide +kernel
theorem dX8_drop_33 : decode cX8_drop 33 = .ok (.getfield 281, 3) := by decide +kernel
theorem dX8_drop_36 : decode cX8_drop 36 = .ok (.iload_n 1, 1) := by decide +kernel
theorem dX8_drop_37 : decode cX8_drop 37 = .ok (.iaload, 1) := by decide +kernel
theorem dX8_drop_38 : decode cX8_drop 38 = .ok (.invokevirtual 188, 3) := by decide +kernel
theorem dX8_drop_41 : decode cX8_drop 41 = .ok (.return_, 1) := by decide +kernel
theorem dX8_letHear_0 : decode cX8_letHear 0 = .ok (.aload_n 0, 1) := by decide +kernel
theorem dX8_letHear_1 : decode cX8_letHear 1 = .ok (.getfield 37, 3) := by decide +kernel
theorem dX8_letHear_4 : decode cX8_letHear 4 = .ok (.iload_n 1, 1) := by decide +kernel
theorem dX8_letHear_5 : decode cX8_letHear 5 = .ok (.aaload, 1) := by decide +kernel
theorem dX8_letHear_6 : decode cX8_letHear 6 = .ok (.astore_n 2, 1) := by decide +kernel
theorem dX8_letHear_7 : decode cX8_letHear 7 = .ok (.aload_n 2, 1) := by decide +kernel
theorem dX8_letHear_8 : decode cX8_letHear 8 = .ok (.getfield 293, 3) := by decide +kernel
theorem dX8_letHear_11 : decode cX8_letHear 11 = .ok (.aload_n 0, 1) := by decide +kernel
theorem dX8_letHear_12 : decode cX8_letHear 12 = .ok (.getfield 18, 3) := by decide +kernel
theorem dX8_letHear_15 : decode cX8_letHear 15 = .ok (.getfield 296, 3) := by decide +kernel
theorem dX8_letHear_18 : decode cX8_letHear 18 = .ok (.if_icmp .ge 112, 3) := by decide +kernel
theorem dX8_letHear_21 : decode cX8_letHear 21 = .ok (.aload_n 0, 1) := by decide +kernel
theorem dX8_letHear_22 : decode cX8_letHear 22 = .ok (.getfield 18, 3) := by decide +kernel
theorem dX8_letHear_25 : decode cX8_letHear 25 = .ok (.aload_n 2, 1) := by decide +kernel
theorem dX8_letHear_26 : decode cX8_letHear 26 = .ok (.getfield 293, 3) := by decide +kernel
theorem dX8_letHear_29 : decode cX8_letHear 29 = .ok (.invokevirtual 299, 3) := by decide +kernel
theorem dX8_letHear_32 : decode cX8_letHear 32 = .ok (.istore_n 3, 1) := by decide +kernel
theorem dX8_letHear_33 : decode cX8_letHear 33 = .ok (.aload_n 0, 1) := by decide +kernel
theorem dX8_letHear_34 : decode cX8_letHear 34 = .ok (.getfield 18, 3) := by decide +kernel
theorem dX8_letHear_37 : decode cX8_letHear 37 = .ok (.iload_n 3, 1) := by decide +kernel
theorem dX8_letHear_38 : decode cX8_letHear 38 = .ok (.invokevirtual 162, 3) := by decide +kernel
theorem dX8_letHear_41 : decode cX8_letHear 41 = .ok (.ifCond .eq 24, 3) := by decide +kernel
theorem dX8_letHear_44 : decode cX8_letHear 44 = .ok (.aload_n 0, 1) := by decide +kernel
theorem dX8_letHear_45 : decode cX8_letHear 45 = .ok (.getfield 18, 3) := by decide +kernel
theorem dX8_letHear_48 : decode cX8_letHear 48 = .ok (.getfield 302, 3) := by decide +kernel
theorem dX8_letHear_51 : decode cX8_letHear 51 = .ok (.iload_n 3, 1) := by decide +kernel
theorem dX8_letHear_52 : decode cX8_letHear 52 = .ok (.iaload, 1) := by decide +kernel
theorem dX8_letHear_53 : decode cX8_letHear 53 = .ok (.aload_n 2, 1) := by decide +kernel
theorem dX8_letHear_54 : decode cX8_letHear 54 = .ok (.getfield 305, 3) := by decide +kernel
theorem dX8_letHear_57 : decode cX8_letHear 57 = .ok (.iadd, 1) := by decide +kernel
theorem dX8_letHear_58 : decode cX8_letHear 58 = .ok (.aload_n 0, 1) := by decide +kernel
theorem dX8_letHear_59 : decode cX8_letHear 59 = .ok (.getfield 52, 3) := by decide +kernel
theorem dX8_letHear_62 : decode cX8_letHear 62 = .ok (.if_icmp .le 4, 3) := by decide +kernel
theorem dX8_letHear_65 : decode cX8_letHear 65 = .ok (.return_, 1) := by decide +kernel
theorem dX8_letHear_66 : decode cX8_letHear 66 = .ok (.aload_n 2, 1) := by decide +kernel
theorem dX8_letHear_67 : decode cX8_letHear 67 = .ok (.dup, 1) := by decide +kernel
theorem dX8_letHear_68 : decode cX8_letHear 68 = .ok (.getfield 293, 3) := by decide +kernel
theorem dX8_letHear_71 : decode cX8_letHear 71 = .ok (.iconst 1, 1) := by decide +kernel
theorem dX8_letHear_72 : decode cX8_letHear 72 = .ok (.iadd, 1) := by decide +kernel
theorem dX8_letHear_73 : decode cX8_letHear 73 = .ok (.putfield 293, 3) := by decide +kernel
theorem dX8_letHear_76 : decode cX8_letHear 76 = .ok (.aload_n 0, 1) := by decide +kernel
theorem dX8_letHear_77 : decode cX8_letHear 77 = .ok (.getfield 18, 3) := by decide +kernel
theorem dX8_letHear_80 : decode cX8_letHear 80 = .ok (.getfield 308, 3) := by decide +kernel
theorem dX8_letHear_83 : decode cX8_letHear 83 = .ok (.iload_n 3, 1) := by decide +kernel
theorem dX8_letHear_84 : decode cX8_letHear 84 = .ok (.iaload, 1) := by decide +kernel
theorem dX8_letHear_85 : decode cX8_letHear 85 = .ok (.iload_n 1, 1) := by decide +kernel
theorem dX8_letHear_86 : decode cX8_letHear 86 = .ok (.if_icmp .ne 41, 3) := by decide +kernel
theorem dX8_letHear_89 : decode cX8_letHear 89 = .ok (.aload_n 2, 1) := by decide +kernel
theorem dX8_letHear_90 : decode cX8_letHear 90 = .ok (.aload_n 0, 1) := by decide +kernel
theorem dX8_letHear_91 : decode cX8_letHear 91 = .ok (.getfield 18, 3) := by decide +kernel
theorem dX8_letHear_94 : decode cX8_letHear 94 = .ok (.getfield 311, 3) := by decide +kernel
theorem dX8_letHear_97 : decode cX8_letHear 97 = .ok (.iload_n 3, 1) := by decide +kernel
theorem dX8_letHear_98 : decode cX8_letHear 98 = .ok (.iaload, 1) := by decide +kernel
theorem dX8_letHear_99 : decode cX8_letHear 99 = .ok (.iconst 1, 1) := by decide +kernel
theorem dX8_letHear_100 : decode cX8_letHear 100 = .ok (.if_icmp .ne 19, 3) := by decide +kernel
theorem dX8_letHear_103 : decode cX8_letHear 103 = .ok (.aload_n 0, 1) := by decide +kernel
theorem dX8_letHear_104 : decode cX8_letHear 104 = .ok (.getfield 18, 3) := by decide +kernel
theorem dX8_letHear_107 : decode cX8_letHear 107 = .ok (.getfield 275, 3) := by decide +kernel
theorem dX8_letHear_110 : decode cX8_letHear 110 = .ok (.iload_n 3, 1) := by decide +kernel
theorem dX8_letHear_111 : decode cX8_letHear 111 = .ok (.iaload, 1) := by decide +kernel
theorem dX8_letHear_112 : decode cX8_letHear 112 = .ok (.ifCond .ne 7, 3) := by decide +kernel
theorem dX8_letHear_115 : decode cX8_letHear 115 = .ok (.iconst 1, 1) := by decide +kernel
theorem dX8_letHear_116 : decode cX8_letHear 116 = .ok (.goto 4, 3) := by decide +kernel
theorem dX8_letHear_119 : decode cX8_letHear 119 = .ok (.iconst 0, 1) := by decide +kernel
theorem dX8_letHear_120 : decode cX8_letHear 120 = .ok (.aload_n 0, 1) := by decide +kernel
theorem dX8_letHear_121 : decode cX8_letHear 121 = .ok (.getfield 52, 3) := by decide +kernel
theorem dX8_letHear_124 : decode cX8_letHear 124 = .ok (.invokevirtual 314, 3) := by decide +kernel
theorem dX8_letHear_127 : decode cX8_letHear 127 = .ok (.goto (-120), 3) := by decide +kernel
theorem dX8_letHear_130 : decode cX8_letHear 130 = .ok (.return_, 1) := by decide +kernel
theorem dX8_windows_0 : decode cX8_windows 0 = .ok (.iconst 0, 1) := by decide +kernel
theorem dX8_windows_1 : decode cX8_windows 1 = .ok (.istore_n 1, 1) := by decide +kernel
theorem dX8_windows_2 : decode cX8_windows 2 = .ok (.iconst 0, 1) := by decide +kernel
theorem dX8_windows_3 : decode cX8_windows 3 = .ok (.istore_n 2, 1) := by decide +kernel
theorem dX8_windows_4 : decode cX8_windows 4 = .ok (.iload_n 2, 1) := by decide +kernel
theorem dX8_windows_5 : decode cX8_windows 5 = .ok (.aload_n 0, 1) := by decide +kernel
theorem dX8_windows_6 : decode cX8_windows 6 = .ok (.getfield 48, 3) := by decide +kernel
theorem dX8_windows_9 : decode cX8_windows 9 = .ok (.if_icmp .ge 21, 3) := by decide +kernel
theorem dX8_windows_12 : decode cX8_windows 12 = .ok (.iload_n 1, 1) := by decide +kernel
theorem dX8_windows_13 : decode cX8_windows 13 = .ok (.aload_n 0, 1) := by decide +kernel
theorem dX8_windows_14 : decode cX8_windows 14 = .ok (.getfield 37, 3) := by decide +kernel
theorem dX8_windows_17 : decode cX8_windows 17 = .ok (.iload_n 2, 1) := by decide +kernel
theorem dX8_windows_18 : decode cX8_windows 18 = .ok (.aaload, 1) := by decide +kernel
theorem dX8_windows_19 : decode cX8_windows 19 = .ok (.getfield 333, 3) := by decide +kernel
theorem dX8_windows_22 : decode cX8_windows 22 = .ok (.iadd, 1) := by decide +kernel
theorem dX8_windows_23 : decode cX8_windows 23 = .ok (.istore_n 1, 1) := by decide +kernel
theorem dX8_windows_24 : decode cX8_windows 24 = .ok (.iinc 2 1, 3) := by decide +kernel
theorem dX8_windows_27 : decode cX8_windows 27 = .ok (.goto (-23), 3) := by decide +kernel
theorem dX8_windows_30 : decode cX8_windows 30 = .ok (.iload_n 1, 1) := by decide +kernel
theorem dX8_windows_31 : decode cX8_windows 31 = .ok (.ireturn, 1) := by decide +kernel
theorem dX8_cuts_0 : decode cX8_cuts 0 = .ok (.iconst 0, 1) := by decide +kernel
theorem dX8_cuts_1 : decode cX8_cuts 1 = .ok (.istore_n 1, 1) := by decide +kernel
theorem dX8_cuts_2 : decode cX8_cuts 2 = .ok (.iconst 0, 1) := by decide +kernel
theorem dX8_cuts_3 : decode cX8_cuts 3 = .ok (.istore_n 2, 1) := by decide +kernel
theorem dX8_cuts_4 : decode cX8_cuts 4 = .ok (.iload_n 2, 1) := by decide +kernel
theorem dX8_cuts_5 : decode cX8_cuts 5 = .ok (.aload_n 0, 1) := by decide +kernel
theorem dX8_cuts_6 : decode cX8_cuts 6 = .ok (.getfield 48, 3) := by decide +kernel
theorem dX8_cuts_9 : decode cX8_cuts 9 = .ok (.if_icmp .ge 21, 3) := by decide +kernel
theorem dX8_cuts_12 : decode cX8_cuts 12 = .ok (.iload_n 1, 1) := by decide +kernel
theorem dX8_cuts_13 : decode cX8_cuts 13 = .ok (.aload_n 0, 1) := by decide +kernel
theorem dX8_cuts_14 : decode cX8_cuts 14 = .ok (.getfield 37, 3) := by decide +kernel
theorem dX8_cuts_17 : decode cX8_cuts 17 = .ok (.iload_n 2, 1) := by decide +kernel
theorem dX8_cuts_18 : decode cX8_cuts 18 = .ok (.aaload, 1) := by decide +kernel
theorem dX8_cuts_19 : decode cX8_cuts 19 = .ok (.getfield 336, 3) := by decide +kernel
theorem dX8_cuts_22 : decode cX8_cuts 22 = .ok (.iadd, 1) := by decide +kernel
theorem dX8_cuts_23 : decode cX8_cuts 23 = .ok (.istore_n 1, 1) := by decide +kernel
theorem dX8_cuts_24 : decode cX8_cuts 24 = .ok (.iinc 2 1, 3) := by decide +kernel
theorem dX8_cuts_27 : decode cX8_cuts 27 = .ok (.goto (-23), 3) := by decide +kernel
theorem dX8_cuts_30 : decode cX8_cuts 30 = .ok (.iload_n 1, 1) := by decide +kernel
theorem dX8_cuts_31 : decode cX8_cuts 31 = .ok (.ireturn, 1) := by decide +kernel
theorem dX8_hasBucket_0 : decode cX8_hasBucket 0 = .ok (.iload_n 1, 1) := by decide +kernel
theorem dX8_hasBucket_1 : decode cX8_hasBucket 1 = .ok (.ifCond .lt 21, 3) := by decide +kernel
theorem dX8_hasBucket_4 : decode cX8_hasBucket 4 = .ok (.iload_n 1, 1) := by decide +kernel
theorem dX8_hasBucket_5 : decode cX8_hasBucket 5 = .ok (.aload_n 0, 1) := by decide +kernel
theorem dX8_hasBucket_6 : decode cX8_hasBucket 6 = .ok (.invokevirtual 104, 3) := by decide +kernel
theorem dX8_hasBucket_9 : decode cX8_hasBucket 9 = .ok (.if_icmp .ge 13, 3) := by decide +kernel
theorem dX8_hasBucket_12 : decode cX8_hasBucket 12 = .ok (.iload_n 1, 1) := by decide +kernel
theorem dX8_hasBucket_13 : decode cX8_hasBucket 13 = .ok (.bipush 16, 2) := by decide +kernel
theorem dX8_hasBucket_15 : decode cX8_hasBucket 15 = .ok (.if_icmp .ge 7, 3) := by decide +kernel
theorem dX8_hasBucket_18 : decode cX8_hasBucket 18 = .ok (.iconst 1, 1) := by decide +kernel
theorem dX8_hasBucket_19 : decode cX8_hasBucket 19 = .ok (.goto 4, 3) := by decide +kernel
theorem dX8_hasBucket_22 : decode cX8_hasBucket 22 = .ok (.iconst 0, 1) := by decide +kernel
theorem dX8_hasBucket_23 : decode cX8_hasBucket 23 = .ok (.ireturn, 1) := by decide +kernel
theorem dX8_placeFor_0 : decode cX8_placeFor 0 = .ok (.aload_n 0, 1) := by decide +kernel
theorem dX8_placeFor_1 : decode cX8_placeFor 1 = .ok (.iload_n 1, 1) := by decide +kernel
theorem dX8_placeFor_2 : decode cX8_placeFor 2 = .ok (.invokevirtual 114, 3) := by decide +kernel
theorem dX8_placeFor_5 : decode cX8_placeFor 5 = .ok (.aload_n 0, 1) := by decide +kernel
theorem dX8_placeFor_6 : decode cX8_placeFor 6 = .ok (.getfield 9, 3) := by decide +kernel
theorem dX8_placeFor_9 : decode cX8_placeFor 9 = .ok (.iconst 4, 1) := by decide +kernel
theorem dX8_placeFor_10 : decode cX8_placeFor 10 = .ok (.iaload, 1) := by decide +kernel
theorem dX8_placeFor_11 : decode cX8_placeFor 11 = .ok (.imul, 1) := by decide +kernel
theorem dX8_placeFor_12 : decode cX8_placeFor 12 = .ok (.istore_n 2, 1) := by decide +kernel
theorem dX8_placeFor_13 : decode cX8_placeFor 13 = .ok (.iload_n 2, 1) := by decide +kernel
theorem dX8_placeFor_14 : decode cX8_placeFor 14 = .ok (.aload_n 0, 1) := by decide +kernel
theorem dX8_placeFor_15 : decode cX8_placeFor 15 = .ok (.getfield 9, 3) := by decide +kernel
theorem dX8_placeFor_18 : decode cX8_placeFor 18 = .ok (.iconst 4, 1) := by decide +kernel
theorem dX8_placeFor_19 : decode cX8_placeFor 19 = .ok (.iaload, 1) := by decide +kernel
theorem dX8_placeFor_20 : decode cX8_placeFor 20 = .ok (.iadd, 1) := by decide +kernel
theorem dX8_placeFor_21 : decode cX8_placeFor 21 = .ok (.bipush 16, 2) := by decide +kernel
theorem dX8_placeFor_23 : decode cX8_placeFor 23 = .ok (.invokestatic 118, 3) := by decide +kernel
theorem dX8_placeFor_26 : decode cX8_placeFor 26 = .ok (.istore_n 3, 1) := by decide +kernel
theorem dX8_placeFor_27 : decode cX8_placeFor 27 = .ok (.iload_n 2, 1) := by decide +kernel
theorem dX8_placeFor_28 : decode cX8_placeFor 28 = .ok (.istore 4, 2) := by decide +kernel
theorem dX8_placeFor_30 : decode cX8_placeFor 30 = .ok (.iload 4, 2) := by decide +kernel
theorem dX8_placeFor_32 : decode cX8_placeFor 32 = .ok (.iload_n 3, 1) := by decide +kernel
theorem dX8_placeFor_33 : decode cX8_placeFor 33 = .ok (.if_icmp .ge 39, 3) := by decide +kernel
theorem dX8_placeFor_36 : decode cX8_placeFor 36 = .ok (.aload_n 0, 1) := by decide +kernel
theorem dX8_placeFor_37 : decode cX8_placeFor 37 = .ok (.getfield 24, 3) := by decide +kernel
theorem dX8_placeFor_40 : decode cX8_placeFor 40 = .ok (.iload 4, 2) := by decide +kernel
theorem dX8_placeFor_42 : decode cX8_placeFor 42 = .ok (.aaload, 1) := by decide +kernel
theorem dX8_placeFor_43 : decode cX8_placeFor 43 = .ok (.getfield 123, 3) := by decide +kernel
theorem dX8_placeFor_46 : decode cX8_placeFor 46 = .ok (.ifCond .eq 20, 3) := by decide +kernel
theorem dX8_placeFor_49 : decode cX8_placeFor 49 = .ok (.aload_n 0, 1) := by decide +kernel
theorem dX8_placeFor_50 : decode cX8_placeFor 50 = .ok (.getfield 24, 3) := by decide +kernel
theorem dX8_placeFor_53 : decode cX8_placeFor 53 = .ok (.iload 4, 2) := by decide +kernel
theorem dX8_placeFor_55 : decode cX8_placeFor 55 = .ok (.aaload, 1) := by decide +kernel
theorem dX8_placeFor_56 : decode cX8_placeFor 56 = .ok (.getfield 126, 3) := by decide +kernel
theorem dX8_placeFor_59 : decode cX8_placeFor 59 = .ok (.iload_n 1, 1) := by decide +kernel
theorem dX8_placeFor_60 : decode cX8_placeFor 60 = .ok (.if_icmp .ne 6, 3) := by decide +kernel
theorem dX8_placeFor_63 : decode cX8_placeFor 63 = .ok (.iload 4, 2) := by decide +kernel
theorem dX8_placeFor_65 : decode cX8_placeFor 65 = .ok (.ireturn, 1) := by decide +kernel
theorem dX8_placeFor_66 : decode cX8_placeFor 66 = .ok (.iinc 4 1, 3) := by decide +kernel
theorem dX8_placeFor_69 : decode cX8_placeFor 69 = .ok (.goto (-39), 3) := by decide +kernel
theorem dX8_placeFor_72 : decode cX8_placeFor 72 = .ok (.iload_n 2, 1) := by decide +kernel
theorem dX8_placeFor_73 : decode cX8_placeFor 73 = .ok (.istore 4, 2) := by decide +kernel
theorem dX8_placeFor_75 : decode cX8_placeFor 75 = .ok (.iload 4, 2) := by decide +kernel
theorem dX8_placeFor_77 : decode cX8_placeFor 77 = .ok (.iload_n 3, 1) := by decide +kernel
theorem dX8_placeFor_78 : decode cX8_placeFor 78 = .ok (.if_icmp .ge 25, 3) := by decide +kernel
theorem dX8_placeFor_81 : decode cX8_placeFor 81 = .ok (.aload_n 0, 1) := by decide +kernel
theorem dX8_placeFor_82 : decode cX8_placeFor 82 = .ok (.getfield 24, 3) := by decide +kernel
theorem dX8_placeFor_85 : decode cX8_placeFor 85 = .ok (.iload 4, 2) := by decide +kernel
theorem dX8_placeFor_87 : decode cX8_placeFor 87 = .ok (.aaload, 1) := by decide +kernel
theorem dX8_placeFor_88 : decode cX8_placeFor 88 = .ok (.getfield 123, 3) := by decide +kernel
theorem dX8_placeFor_91 : decode cX8_placeFor 91 = .ok (.ifCond .ne 6, 3) := by decide +kernel
theorem dX8_placeFor_94 : decode cX8_placeFor 94 = .ok (.iload 4, 2) := by decide +kernel
theorem dX8_placeFor_96 : decode cX8_placeFor 96 = .ok (.ireturn, 1) := by decide +kernel
theorem dX8_placeFor_97 : decode cX8_placeFor 97 = .ok (.iinc 4 1, 3) := by decide +kernel
theorem dX8_placeFor_100 : decode cX8_placeFor 100 = .ok (.goto (-25), 3) := by decide +kernel
theorem dX8_placeFor_103 : decode cX8_placeFor 103 = .ok (.iload_n 2, 1) := by decide +kernel
theorem dX8_placeFor_104 : decode cX8_placeFor 104 = .ok (.iload_n 1, 1) := by decide +kernel
theorem dX8_placeFor_105 : decode cX8_placeFor 105 = .ok (.aload_n 0, 1) := by decide +kernel
theorem dX8_placeFor_106 : decode cX8_placeFor 106 = .ok (.getfield 9, 3) := by decide +kernel
theorem dX8_placeFor_109 : decode cX8_placeFor 109 = .ok (.iconst 4, 1) := by decide +kernel
theorem dX8_placeFor_110 : decode cX8_placeFor 110 = .ok (.iaload, 1) := by decide +kernel
theorem dX8_placeFor_111 : decode cX8_placeFor 111 = .ok (.invokestatic 110, 3) := by decide +kernel
theorem dX8_placeFor_114 : decode cX8_placeFor 114 = .ok (.iadd, 1) := by decide +kernel
theorem dX8_placeFor_115 : decode cX8_placeFor 115 = .ok (.ireturn, 1) := by decide +kernel
theorem dX8_pushOut_0 : decode cX8_pushOut 0 = .ok (.iconst 0, 1) := by decide +kernel
theorem dX8_pushOut_1 : decode cX8_pushOut 1 = .ok (.istore_n 1, 1) := by decide +kernel
theorem dX8_pushOut_2 : decode cX8_pushOut 2 = .ok (.aload_n 0, 1) := by decide +kernel
theorem dX8_pushOut_3 : decode cX8_pushOut 3 = .ok (.invokevirtual 104, 3) := by decide +kernel
theorem dX8_pushOut_6 : decode cX8_pushOut 6 = .ok (.bipush 16, 2) := by decide +kernel
theorem dX8_pushOut_8 : decode cX8_pushOut 8 = .ok (.invokestatic 118, 3) := by decide +kernel
theorem dX8_pushOut_11 : decode cX8_pushOut 11 = .ok (.istore_n 2, 1) := by decide +kernel
theorem dX8_pushOut_12 : decode cX8_pushOut 12 = .ok (.iconst 1, 1) := by decide +kernel
theorem dX8_pushOut_13 : decode cX8_pushOut 13 = .ok (.istore_n 3, 1) := by decide +kernel
theorem dX8_pushOut_14 : decode cX8_pushOut 14 = .ok (.iload_n 3, 1) := by decide +kernel
theorem dX8_pushOut_15 : decode cX8_pushOut 15 = .ok (.iload_n 2, 1) := by decide +kernel
theorem dX8_pushOut_16 : decode cX8_pushOut 16 = .ok (.if_icmp .ge 32, 3) := by decide +kernel
theorem dX8_pushOut_19 : decode cX8_pushOut 19 = .ok (.aload_n 0, 1) := by decide +kernel
theorem dX8_pushOut_20 : decode cX8_pushOut 20 = .ok (.getfield 24, 3) := by decide +kernel
theorem dX8_pushOut_23 : decode cX8_pushOut 23 = .ok (.iload_n 3, 1) := by decide +kernel
theorem dX8_pushOut_24 : decode cX8_pushOut 24 = .ok (.aaload, 1) := by decide +kernel
theorem dX8_pushOut_25 : decode cX8_pushOut 25 = .ok (.getfield 176, 3) := by decide +kernel
theorem dX8_pushOut_28 : decode cX8_pushOut 28 = .ok (.aload_n 0, 1) := by decide +kernel
theorem dX8_pushOut_29 : decode cX8_pushOut 29 = .ok (.getfield 24, 3) := by decide +kernel
theorem dX8_pushOut_32 : decode cX8_pushOut 32 = .ok (.iload_n 1, 1) := by decide +kernel
theorem dX8_pushOut_33 : decode cX8_pushOut 33 = .ok (.aaload, 1) := by decide +kernel
theorem dX8_pushOut_34 : decode cX8_pushOut 34 = .ok (.getfield 176, 3) := by decide +kernel
theorem dX8_pushOut_37 : decode cX8_pushOut 37 = .ok (.if_icmp .le 5, 3) := by decide +kernel
theorem dX8_pushOut_40 : decode cX8_pushOut 40 = .ok (.iload_n 3, 1) := by decide +kernel
theorem dX8_pushOut_41 : decode cX8_pushOut 41 = .ok (.istore_n 1, 1) := by decide +kernel
theorem dX8_pushOut_42 : decode cX8_pushOut 42 = .ok (.iinc 3 1, 3) := by decide +kernel
theorem dX8_pushOut_45 : decode cX8_pushOut 45 = .ok (.goto (-31), 3) := by decide +kernel
theorem dX8_pushOut_48 : decode cX8_pushOut 48 = .ok (.aload_n 0, 1) := by decide +kernel
theorem dX8_pushOut_49 : decode cX8_pushOut 49 = .ok (.getfield 18, 3) := by decide +kernel
theorem dX8_pushOut_52 : decode cX8_pushOut 52 = .ok (.aload_n 0, 1) := by decide +kernel
theorem dX8_pushOut_53 : decode cX8_pushOut 53 = .ok (.aload_n 0, 1) := by decide +kernel
theorem dX8_pushOut_54 : decode cX8_pushOut 54 = .ok (.getfield 24, 3) := by decide +kernel
theorem dX8_pushOut_57 : decode cX8_pushOut 57 = .ok (.iload_n 1, 1) := by decide +kernel
theorem dX8_pushOut_58 : decode cX8_pushOut 58 = .ok (.aaload, 1) := by decide +kernel
theorem dX8_pushOut_59 : decode cX8_pushOut 59 = .ok (.invokevirtual 181, 3) := by decide +kernel
theorem dX8_pushOut_62 : decode cX8_pushOut 62 = .ok (.iconst 3, 1) := by decide +kernel
theorem dX8_pushOut_63 : decode cX8_pushOut 63 = .ok (.aload_n 0, 1) := by decide +kernel
theorem dX8_pushOut_64 : decode cX8_pushOut 64 = .ok (.getfield 52, 3) := by decide +kernel
theorem dX8_pushOut_67 : decode cX8_pushOut 67 = .ok (.invokevirtual 185, 3) := by decide +kernel
theorem dX8_pushOut_70 : decode cX8_pushOut 70 = .ok (.aload_n 0, 1) := by decide +kernel
theorem dX8_pushOut_71 : decode cX8_pushOut 71 = .ok (.getfield 44, 3) := by decide +kernel
theorem dX8_pushOut_74 : decode cX8_pushOut 74 = .ok (.iconst 4, 1) := by decide +kernel
theorem dX8_pushOut_75 : decode cX8_pushOut 75 = .ok (.iload_n 1, 1) := by decide +kernel
theorem dX8_pushOut_76 : decode cX8_pushOut 76 = .ok (.invokevirtual 188, 3) := by decide +kernel
theorem dX8_pushOut_79 : decode cX8_pushOut 79 = .ok (.return_, 1) := by decide +kernel
theorem dX8_take_0 : decode cX8_take 0 = .ok (.aload_n 0, 1) := by decide +kernel
theorem dX8_take_1 : decode cX8_take 1 = .ok (.aload_n 1, 1) := by decide +kernel
theorem dX8_take_2 : decode cX8_take 2 = .ok (.invokevirtual 181, 3) := by decide +kernel
theorem dX8_take_5 : decode cX8_take 5 = .ok (.istore_n 2, 1) := by decide +kernel
theorem dX8_take_6 : decode cX8_take 6 = .ok (.aload_n 0, 1) := by decide +kernel
theorem dX8_take_7 : decode cX8_take 7 = .ok (.iconst 0, 1) := by decide +kernel
theorem dX8_take_8 : decode cX8_take 8 = .ok (.putfield 64, 3) := by decide +kernel
theorem dX8_take_11 : decode cX8_take 11 = .ok (.aload_n 0, 1) := by decide +kernel
theorem dX8_take_12 : decode cX8_take 12 = .ok (.getfield 18, 3) := by decide +kernel
theorem dX8_take_15 : decode cX8_take 15 = .ok (.iload_n 2, 1) := by decide +kernel
theorem dX8_take_16 : decode cX8_take 16 = .ok (.invokevirtual 162, 3) := by decide +kernel
theorem dX8_take_19 : decode cX8_take 19 = .ok (.ifCond .ne 11, 3) := by decide +kernel
theorem dX8_take_22 : decode cX8_take 22 = .ok (.aload_n 1, 1) := by decide +kernel
theorem dX8_take_23 : decode cX8_take 23 = .ok (.bipush (-2), 2) := by decide +kernel
theorem dX8_take_25 : decode cX8_take 25 = .ok (.putfield 240, 3) := by decide +kernel
theorem dX8_take_28 : decode cX8_take 28 = .ok (.iload_n 2, 1) := by decide +kernel
theorem dX8_take_29 : decode cX8_take 29 = .ok (.ireturn, 1) := by decide +kernel
theorem dX8_take_30 : decode cX8_take 30 = .ok (.aload_n 0, 1) := by decide +kernel
theorem dX8_take_31 : decode cX8_take 31 = .ok (.getfield 52, 3) := by decide +kernel
theorem dX8_take_34 : decode cX8_take 34 = .ok (.aload_n 0, 1) := by decide +kernel
theorem dX8_take_35 : decode cX8_take 35 = .ok (.getfield 18, 3) := by decide +kernel
theorem dX8_take_38 : decode cX8_take 38 = .ok (.getfield 243, 3) := by decide +kernel
theorem dX8_take_41 : decode cX8_take 41 = .ok (.iload_n 2, 1) := by decide +kernel
theorem dX8_take_42 : decode cX8_take 42 = .ok (.iaload, 1) := by decide +kernel
theorem dX8_take_43 : decode cX8_take 43 = .ok (.isub, 1) := by decide +kernel
theorem dX8_take_44 : decode cX8_take 44 = .ok (.istore_n 3, 1) := by decide +kernel
theorem dX8_take_45 : decode cX8_take 45 = .ok (.iload_n 3, 1) := by decide +kernel
theorem dX8_take_46 : decode cX8_take 46 = .ok (.aload_n 0, 1) := by decide +kernel
theorem dX8_take_47 : decode cX8_take 47 = .ok (.getfield 9, 3) := by decide +kernel
theorem dX8_take_50 : decode cX8_take 50 = .ok (.iconst 0, 1) := by decide +kernel
theorem dX8_take_51 : decode cX8_take 51 = .ok (.iaload, 1) := by decide +kernel
theorem dX8_take_52 : decode cX8_take 52 = .ok (.if_icmp .lt 15, 3) := by decide +kernel
theorem dX8_take_55 : decode cX8_take 55 = .ok (.aload_n 0, 1) := by decide +kernel
theorem dX8_take_56 : decode cX8_take 56 = .ok (.aload_n 0, 1) := by decide +kernel
theorem dX8_take_57 : decode cX8_take 57 = .ok (.getfield 69, 3) := by decide +kernel
theorem dX8_take_60 : decode cX8_take 60 = .ok (.iload_n 3, 1) := by decide +kernel
theorem dX8_take_61 : decode cX8_take 61 = .ok (.invokestatic 118, 3) := by decide +kernel
theorem dX8_take_64 : decode cX8_take 64 = .ok (.putfield 69, 3) := by decide +kernel
theorem dX8_take_67 : decode cX8_take 67 = .ok (.iload_n 3, 1) := by decide +kernel
theorem dX8_take_68 : decode cX8_take 68 = .ok (.aload_n 0, 1) := by decide +kernel
theorem dX8_take_69 : decode cX8_take 69 = .ok (.getfield 9, 3) := by decide +kernel
theorem dX8_take_72 : decode cX8_take 72 = .ok (.iconst 0, 1) := by decide +kernel
theorem dX8_take_73 : decode cX8_take 73 = .ok (.iaload, 1) := by decide +kernel
theorem dX8_take_74 : decode cX8_take 74 = .ok (.if_icmp .lt 17, 3) := by decide +kernel
theorem dX8_take_77 : decode cX8_take 77 = .ok (.aload_n 1, 1) := by decide +kernel
theorem dX8_take_78 : decode cX8_take 78 = .ok (.getfield 176, 3) := by decide +kernel
theorem dX8_take_81 : decode cX8_take 81 = .ok (.aload_n 0, 1) := by decide +kernel
theorem dX8_take_82 : decode cX8_take 82 = .ok (.getfield 9, 3) := by decide +kernel
theorem dX8_take_85 : decode cX8_take 85 = .ok (.bipush 6, 2) := by decide +kernel
theorem dX8_take_87 : decode cX8_take 87 = .ok (.iaload, 1) := by decide +kernel
theorem dX8_take_88 : decode cX8_take 88 = .ok (.if_icmp .ge 12, 3) := by decide +kernel
theorem dX8_take_91 : decode cX8_take 91 = .ok (.aload_n 1, 1) := by decide +kernel
theorem dX8_take_92 : decode cX8_take 92 = .ok (.bipush (-2), 2) := by decide +kernel
theorem dX8_take_94 : decode cX8_take 94 = .ok (.putfield 240, 3) := by decide +kernel
theorem dX8_take_97 : decode cX8_take 97 = .ok (.goto 50, 3) := by decide +kernel
theorem dX8_take_100 : decode cX8_take 100 = .ok (.aload_n 1, 1) := by decide +kernel
theorem dX8_take_101 : decode cX8_take 101 = .ok (.getfield 240, 3) := by decide +kernel
theorem dX8_take_104 : decode cX8_take 104 = .ok (.bipush (-2), 2) := by decide +kernel
theorem dX8_take_106 : decode cX8_take 106 = .ok (.if_icmp .ne 21, 3) := by decide +kernel
theorem dX8_take_109 : decode cX8_take 109 = .ok (.aload_n 1, 1) := by decide +kernel
theorem dX8_take_110 : decode cX8_take 110 = .ok (.aload_n 0, 1) := by decide +kernel
theorem dX8_take_111 : decode cX8_take 111 = .ok (.getfield 52, 3) := by decide +kernel
theorem dX8_take_114 : decode cX8_take 114 = .ok (.aload_n 0, 1) := by decide +kernel
theorem dX8_take_115 : decode cX8_take 115 = .ok (.getfield 9, 3) := by decide +kernel
theorem dX8_take_118 : decode cX8_take 118 = .ok (.iconst 1, 1) := by decide +kernel
theorem dX8_take_119 : decode cX8_take 119 = .ok (.iaload, 1) := by decide +kernel
theorem dX8_take_120 : decode cX8_take 120 = .ok (.iadd, 1) := by decide +kernel
theorem dX8_take_121 : decode cX8_take 121 = .ok (.putfield 240, 3) := by decide +kernel
theorem dX8_take_124 : decode cX8_take 124 = .ok (.goto 23, 3) := by decide +kernel
theorem dX8_take_127 : decode cX8_take 127 = .ok (.aload_n 0, 1) := by decide +kernel
theorem dX8_take_128 : decode cX8_take 128 = .ok (.aload_n 0, 1) := by decide +kernel
theorem dX8_take_129 : decode cX8_take 129 = .ok (.getfield 52, 3) := by decide +kernel
theorem dX8_take_132 : decode cX8_take 132 = .ok (.aload_n 1, 1) := by decide +kernel
theorem dX8_take_133 : decode cX8_take 133 = .ok (.getfield 240, 3) := by decide +kernel
theorem dX8_take_136 : decode cX8_take 136 = .ok (.if_icmp .lt 7, 3) := by decide +kernel
theorem dX8_take_139 : decode cX8_take 139 = .ok (.iconst 1, 1) := by decide +kernel
theorem dX8_take_140 : decode cX8_take 140 = .ok (.goto 4, 3) := by decide +kernel
theorem dX8_take_143 : decode cX8_take 143 = .ok (.iconst 0, 1) := by decide +kernel
theorem dX8_take_144 : decode cX8_take 144 = .ok (.putfield 64, 3) := by decide +kernel
theorem dX8_take_147 : decode cX8_take 147 = .ok (.iload_n 2, 1) := by decide +kernel
theorem dX8_take_148 : decode cX8_take 148 = .ok (.ireturn, 1) := by decide +kernel
theorem dX8_arrive_0 : decode cX8_arrive 0 = .ok (.aload_n 0, 1) := by decide +kernel
theorem dX8_arrive_1 : decode cX8_arrive 1 = .ok (.iload_n 1, 1) := by decide +kernel
theorem dX8_arrive_2 : decode cX8_arrive 2 = .ok (.invokevirtual 133, 3) := by decide +kernel
theorem dX8_arrive_5 : decode cX8_arrive 5 = .ok (.istore 5, 2) := by decide +kernel
theorem dX8_arrive_7 : decode cX8_arrive 7 = .ok (.aload_n 0, 1) := by decide +kernel
theorem dX8_arrive_8 : decode cX8_arrive 8 = .ok (.getfield 18, 3) := by decide +kernel
theorem dX8_arrive_11 : decode cX8_arrive 11 = .ok (.getfield 136, 3) := by decide +kernel
theorem dX8_arrive_14 : decode cX8_arrive 14 = .ok (.sipush 200, 3) := by decide +kernel
theorem dX8_arrive_17 : decode cX8_arrive 17 = .ok (.if_icmp .ge 12, 3) := by decide +kernel
theorem dX8_arrive_20 : decode cX8_arrive 20 = .ok (.aload_n 0, 1) := by decide +kernel
theorem dX8_arrive_21 : decode cX8_arrive 21 = .ok (.iload 5, 2) := by decide +kernel
theorem dX8_arrive_23 : decode cX8_arrive 23 = .ok (.invokevirtual 137, 3) := by decide +kernel
theorem dX8_arrive_26 : decode cX8_arrive 26 = .ok (.ifCond .ne 6, 3) := by decide +kernel
theorem dX8_arrive_29 : decode cX8_arrive 29 = .ok (.bipush (-2), 2) := by decide +kernel
theorem dX8_arrive_31 : decode cX8_arrive 31 = .ok (.ireturn, 1) := by decide +kernel
theorem dX8_arrive_32 : decode cX8_arrive 32 = .ok (.aload_n 0, 1) := by decide +kernel
theorem dX8_arrive_33 : decode cX8_arrive 33 = .ok (.getfield 24, 3) := by decide +kernel
theorem dX8_arrive_36 : decode cX8_arrive 36 = .ok (.iload 5, 2) := by decide +kernel
theorem dX8_arrive_38 : decode cX8_arrive 38 = .ok (.aaload, 1) := by decide +kernel
theorem dX8_arrive_39 : decode cX8_arrive 39 = .ok (.astore 6, 2) := by decide +kernel
theorem dX8_arrive_41 : decode cX8_arrive 41 = .ok (.aload 6, 2) := by decide +kernel
theorem dX8_arrive_43 : decode cX8_arrive 43 = .ok (.getfield 123, 3) := by decide +kernel
theorem dX8_arrive_46 : decode cX8_arrive 46 = .ok (.ifCond .ne 37, 3) := by decide +kernel
theorem dX8_arrive_49 : decode cX8_arrive 49 = .ok (.aload 6, 2) := by decide +kernel
theorem dX8_arrive_51 : decode cX8_arrive 51 = .ok (.iload_n 1, 1) := by decide +kernel
theorem dX8_arrive_52 : decode cX8_arrive 52 = .ok (.aload_n 0, 1) := by decide +kernel
theorem dX8_arrive_53 : decode cX8_arrive 53 = .ok (.getfield 9, 3) := by decide +kernel
theorem dX8_arrive_56 : decode cX8_arrive 56 = .ok (.iconst 2, 1) := by decide +kernel
theorem dX8_arrive_57 : decode cX8_arrive 57 = .ok (.iaload, 1) := by decide +kernel
theorem dX8_arrive_58 : decode cX8_arrive 58 = .ok (.aload_n 0, 1) := by decide +kernel
theorem dX8_arrive_59 : decode cX8_arrive 59 = .ok (.getfield 18, 3) := by decide +kernel
theorem dX8_arrive_62 : decode cX8_arrive 62 = .ok (.getfield 136, 3) := by decide +kernel
theorem dX8_arrive_65 : decode cX8_arrive 65 = .ok (.invokevirtual 141, 3) := by decide +kernel
theorem dX8_arrive_68 : decode cX8_arrive 68 = .ok (.aload 6, 2) := by decide +kernel
theorem dX8_arrive_70 : decode cX8_arrive 70 = .ok (.iconst 1, 1) := by decide +kernel
theorem dX8_arrive_71 : decode cX8_arrive 71 = .ok (.putfield 123, 3) := by decide +kernel
theorem dX8_arrive_74 : decode cX8_arrive 74 = .ok (.aload_n 0, 1) := by decide +kernel
theorem dX8_arrive_75 : decode cX8_arrive 75 = .ok (.getfield 31, 3) := by decide +kernel
theorem dX8_arrive_78 : decode cX8_arrive 78 = .ok (.iload 5, 2) := by decide +kernel
theorem dX8_arrive_80 : decode cX8_arrive 80 = .ok (.invokevirtual 144, 3) := by decide +kernel
theorem dX8_arrive_83 : decode cX8_arrive 83 = .ok (.aload_n 0, 1) := by decide +kernel
theorem dX8_arrive_84 : decode cX8_arrive 84 = .ok (.getfield 18, 3) := by decide +kernel
theorem dX8_arrive_87 : decode cX8_arrive 87 = .ok (.iload_n 1, 1) := by decide +kernel
theorem dX8_arrive_88 : decode cX8_arrive 88 = .ok (.iload_n 2, 1) := by decide +kernel
theorem dX8_arrive_89 : decode cX8_arrive 89 = .ok (.iload_n 3, 1) := by decide +kernel
theorem dX8_arrive_90 : decode cX8_arrive 90 = .ok (.aload_n 0, 1) := by decide +kernel
theorem dX8_arrive_91 : decode cX8_arrive 91 = .ok (.getfield 52, 3) := by decide +kernel
theorem dX8_arrive_94 : decode cX8_arrive 94 = .ok (.iload 4, 2) := by decide +kernel
theorem dX8_arrive_96 : decode cX8_arrive 96 = .ok (.iload 5, 2) := by decide +kernel
theorem dX8_arrive_98 : decode cX8_arrive 98 = .ok (.aload 6, 2) := by decide +kernel
theorem dX8_arrive_100 : decode cX8_arrive 100 = .ok (.getfield 126, 3) := by decide +kernel
theorem dX8_arrive_103 : decode cX8_arrive 103 = .ok (.invokevirtual 148, 3) := by decide +kernel
theorem dX8_arrive_106 : decode cX8_arrive 106 = .ok (.istore 7, 2) := by decide +kernel
theorem dX8_arrive_108 : decode cX8_arrive 108 = .ok (.aload_n 0, 1) := by decide +kernel
theorem dX8_arrive_109 : decode cX8_arrive 109 = .ok (.aload 6, 2) := by decide +kernel
theorem dX8_arrive_111 : decode cX8_arrive 111 = .ok (.iload 7, 2) := by decide +kernel
theorem dX8_arrive_113 : decode cX8_arrive 113 = .ok (.invokevirtual 152, 3) := by decide +kernel
theorem dX8_arrive_116 : decode cX8_arrive 116 = .ok (.aload_n 0, 1) := by decide +kernel
theorem dX8_arrive_117 : decode cX8_arrive 117 = .ok (.aload_n 0, 1) := by decide +kernel
theorem dX8_arrive_118 : decode cX8_arrive 118 = .ok (.getfield 61, 3) := by decide +kernel
theorem dX8_arrive_121 : decode cX8_arrive 121 = .ok (.aload_n 0, 1) := by decide +kernel
theorem dX8_arrive_122 : decode cX8_arrive 122 = .ok (.getfield 55, 3) := by decide +kernel
theorem dX8_arrive_125 : decode cX8_arrive 125 = .ok (.invokestatic 156, 3) := by decide +kernel
theorem dX8_arrive_128 : decode cX8_arrive 128 = .ok (.putfield 61, 3) := by decide +kernel
theorem dX8_arrive_131 : decode cX8_arrive 131 = .ok (.aload_n 0, 1) := by decide +kernel
theorem dX8_arrive_132 : decode cX8_arrive 132 = .ok (.getfield 55, 3) := by decide +kernel
theorem dX8_arrive_135 : decode cX8_arrive 135 = .ok (.aload_n 0, 1) := by decide +kernel
theorem dX8_arrive_136 : decode cX8_arrive 136 = .ok (.getfield 9, 3) := by decide +kernel
theorem dX8_arrive_139 : decode cX8_arrive 139 = .ok (.iconst 5, 1) := by decide +kernel
theorem dX8_arrive_140 : decode cX8_arrive 140 = .ok (.iaload, 1) := by decide +kernel
theorem dX8_arrive_141 : decode cX8_arrive 141 = .ok (.if_icmp .le 7, 3) := by decide +kernel
theorem dX8_arrive_144 : decode cX8_arrive 144 = .ok (.aload_n 0, 1) := by decide +kernel
theorem dX8_arrive_145 : decode cX8_arrive 145 = .ok (.invokevirtual 159, 3) := by decide +kernel
theorem dX8_arrive_148 : decode cX8_arrive 148 = .ok (.iload 7, 2) := by decide +kernel
theorem dX8_arrive_150 : decode cX8_arrive 150 = .ok (.ireturn, 1) := by decide +kernel
theorem dX8_dropMore_0 : decode cX8_dropMore 0 = .ok (.iload_n 2, 1) := by decide +kernel
theorem dX8_dropMore_1 : decode cX8_dropMore 1 = .ok (.istore_n 3, 1) := by decide +kernel
theorem dX8_dropMore_2 : decode cX8_dropMore 2 = .ok (.iconst 0, 1) := by decide +kernel
theorem dX8_dropMore_3 : decode cX8_dropMore 3 = .ok (.istore 4, 2) := by decide +kernel
theorem dX8_dropMore_5 : decode cX8_dropMore 5 = .ok (.iload 4, 2) := by decide +kernel
theorem dX8_dropMore_7 : decode cX8_dropMore 7 = .ok (.sipush 200, 3) := by decide +kernel
theorem dX8_dropMore_10 : decode cX8_dropMore 10 = .ok (.if_icmp .ge 153, 3) := by decide +kernel
theorem dX8_dropMore_13 : decode cX8_dropMore 13 = .ok (.aload_n 1, 1) := by decide +kernel
theorem dX8_dropMore_14 : decode cX8_dropMore 14 = .ok (.getfield 230, 3) := by decide +kernel
theorem dX8_dropMore_17 : decode cX8_dropMore 17 = .ok (.ifCond .eq 146, 3) := by decide +kernel
theorem dX8_dropMore_20 : decode cX8_dropMore 20 = .ok (.aload_n 0, 1) := by decide +kernel
theorem dX8_dropMore_21 : decode cX8_dropMore 21 = .ok (.getfield 52, 3) := by decide +kernel
theorem dX8_dropMore_24 : decode cX8_dropMore 24 = .ok (.aload_n 1, 1) := by decide +kernel
theorem dX8_dropMore_25 : decode cX8_dropMore 25 = .ok (.getfield 246, 3) := by decide +kernel
theorem dX8_dropMore_28 : decode cX8_dropMore 28 = .ok (.if_icmp .lt 14, 3) := by decide +kernel
theorem dX8_dropMore_31 : decode cX8_dropMore 31 = .ok (.aload_n 0, 1) := by decide +kernel
theorem dX8_dropMore_32 : decode cX8_dropMore 32 = .ok (.getfield 18, 3) := by decide +kernel
theorem dX8_dropMore_35 : decode cX8_dropMore 35 = .ok (.iload_n 3, 1) := by decide +kernel
theorem dX8_dropMore_36 : decode cX8_dropMore 36 = .ok (.invokevirtual 162, 3) := by decide +kernel
theorem dX8_dropMore_39 : decode cX8_dropMore 39 = .ok (.ifCond .ne 5, 3) := by decide +kernel
theorem dX8_dropMore_42 : decode cX8_dropMore 42 = .ok (.iload_n 3, 1) := by decide +kernel
theorem dX8_dropMore_43 : decode cX8_dropMore 43 = .ok (.ireturn, 1) := by decide +kernel
theorem dX8_dropMore_44 : decode cX8_dropMore 44 = .ok (.aload_n 1, 1) := by decide +kernel
theorem dX8_dropMore_45 : decode cX8_dropMore 45 = .ok (.aload_n 1, 1) := by decide +kernel
theorem dX8_dropMore_46 : decode cX8_dropMore 46 = .ok (.getfield 249, 3) := by decide +kernel
theorem dX8_dropMore_49 : decode cX8_dropMore 49 = .ok (.iconst 1, 1) := by decide +kernel
theorem dX8_dropMore_50 : decode cX8_dropMore 50 = .ok (.iadd, 1) := by decide +kernel
theorem dX8_dropMore_51 : decode cX8_dropMore 51 = .ok (.sipush 999, 3) := by decide +kernel
theorem dX8_dropMore_54 : decode cX8_dropMore 54 = .ok (.invokestatic 118, 3) := by decide +kernel
theorem dX8_dropMore_57 : decode cX8_dropMore 57 = .ok (.putfield 249, 3) := by decide +kernel
theorem dX8_dropMore_60 : decode cX8_dropMore 60 = .ok (.aload_n 1, 1) := by decide +kernel
theorem dX8_dropMore_61 : decode cX8_dropMore 61 = .ok (.aload_n 1, 1) := by decide +kernel
theorem dX8_dropMore_62 : decode cX8_dropMore 62 = .ok (.getfield 254, 3) := by decide +kernel
theorem dX8_dropMore_65 : decode cX8_dropMore 65 = .ok (.aload_n 1, 1) := by decide +kernel
theorem dX8_dropMore_66 : decode cX8_dropMore 66 = .ok (.getfield 249, 3) := by decide +kernel
theorem dX8_dropMore_69 : decode cX8_dropMore 69 = .ok (.invokestatic 257, 3) := by decide +kernel
theorem dX8_dropMore_72 : decode cX8_dropMore 72 = .ok (.putfield 254, 3) := by decide +kernel
theorem dX8_dropMore_75 : decode cX8_dropMore 75 = .ok (.aload_n 0, 1) := by decide +kernel
theorem dX8_dropMore_76 : decode cX8_dropMore 76 = .ok (.getfield 18, 3) := by decide +kernel
theorem dX8_dropMore_79 : decode cX8_dropMore 79 = .ok (.getfield 260, 3) := by decide +kernel
theorem dX8_dropMore_82 : decode cX8_dropMore 82 = .ok (.iload_n 3, 1) := by decide +kernel
theorem dX8_dropMore_83 : decode cX8_dropMore 83 = .ok (.iaload, 1) := by decide +kernel
theorem dX8_dropMore_84 : decode cX8_dropMore 84 = .ok (.iconst 1, 1) := by decide +kernel
theorem dX8_dropMore_85 : decode cX8_dropMore 85 = .ok (.if_icmp .ne 28, 3) := by decide +kernel
theorem dX8_dropMore_88 : decode cX8_dropMore 88 = .ok (.aload_n 0, 1) := by decide +kernel
theorem dX8_dropMore_89 : decode cX8_dropMore 89 = .ok (.iload_n 3, 1) := by decide +kernel
theorem dX8_dropMore_90 : decode cX8_dropMore 90 = .ok (.invokevirtual 263, 3) := by decide +kernel
theorem dX8_dropMore_93 : decode cX8_dropMore 93 = .ok (.aload_n 1, 1) := by decide +kernel
theorem dX8_dropMore_94 : decode cX8_dropMore 94 = .ok (.aload_n 1, 1) := by decide +kernel
theorem dX8_dropMore_95 : decode cX8_dropMore 95 = .ok (.aload_n 1, 1) := by decide +kernel
theorem dX8_dropMore_96 : decode cX8_dropMore 96 = .ok (.getfield 246, 3) := by decide +kernel
theorem dX8_dropMore_99 : decode cX8_dropMore 99 = .ok (.aload_n 0, 1) := by decide +kernel
theorem dX8_dropMore_100 : decode cX8_dropMore 100 = .ok (.getfield 9, 3) := by decide +kernel
theorem dX8_dropMore_103 : decode cX8_dropMore 103 = .ok (.iconst 1, 1) := by decide +kernel
theorem dX8_dropMore_104 : decode cX8_dropMore 104 = .ok (.iaload, 1) := by decide +kernel
theorem dX8_dropMore_105 : decode cX8_dropMore 105 = .ok (.invokevirtual 266, 3) := by decide +kernel
theorem dX8_dropMore_108 : decode cX8_dropMore 108 = .ok (.putfield 246, 3) := by decide +kernel
theorem dX8_dropMore_111 : decode cX8_dropMore 111 = .ok (.iload_n 3, 1) := by decide +kernel
theorem dX8_dropMore_112 : decode cX8_dropMore 112 = .ok (.ireturn, 1) := by decide +kernel
theorem dX8_dropMore_113 : decode cX8_dropMore 113 = .ok (.aload_n 0, 1) := by decide +kernel
theorem dX8_dropMore_114 : decode cX8_dropMore 114 = .ok (.iload_n 3, 1) := by decide +kernel
theorem dX8_dropMore_115 : decode cX8_dropMore 115 = .ok (.invokevirtual 269, 3) := by decide +kernel
theorem dX8_dropMore_118 : decode cX8_dropMore 118 = .ok (.aload_n 0, 1) := by decide +kernel
theorem dX8_dropMore_119 : decode cX8_dropMore 119 = .ok (.aload_n 1, 1) := by decide +kernel
theorem dX8_dropMore_120 : decode cX8_dropMore 120 = .ok (.invokevirtual 227, 3) := by decide +kernel
theorem dX8_dropMore_123 : decode cX8_dropMore 123 = .ok (.istore_n 3, 1) := by decide +kernel
theorem dX8_dropMore_124 : decode cX8_dropMore 124 = .ok (.aload_n 0, 1) := by decide +kernel
theorem dX8_dropMore_125 : decode cX8_dropMore 125 = .ok (.getfield 64, 3) := by decide +kernel
theorem dX8_dropMore_128 : decode cX8_dropMore 128 = .ok (.ifCond .eq 24, 3) := by decide +kernel
theorem dX8_dropMore_131 : decode cX8_dropMore 131 = .ok (.aload_n 1, 1) := by decide +kernel
theorem dX8_dropMore_132 : decode cX8_dropMore 132 = .ok (.aload_n 1, 1) := by decide +kernel
theorem dX8_dropMore_133 : decode cX8_dropMore 133 = .ok (.aload_n 1, 1) := by decide +kernel
theorem dX8_dropMore_134 : decode cX8_dropMore 134 = .ok (.getfield 246, 3) := by decide +kernel
theorem dX8_dropMore_137 : decode cX8_dropMore 137 = .ok (.aload_n 0, 1) := by decide +kernel
theorem dX8_dropMore_138 : decode cX8_dropMore 138 = .ok (.getfield 9, 3) := by decide +kernel
theorem dX8_dropMore_141 : decode cX8_dropMore 141 = .ok (.iconst 1, 1) := by decide +kernel
theorem dX8_dropMore_142 : decode cX8_dropMore 142 = .ok (.iaload, 1) := by decide +kernel
theorem dX8_dropMore_143 : decode cX8_dropMore 143 = .ok (.invokevirtual 266, 3) := by decide +kernel
theorem dX8_dropMore_146 : decode cX8_dropMore 146 = .ok (.putfield 246, 3) := by decide +kernel
theorem dX8_dropMore_149 : decode cX8_dropMore 149 = .ok (.goto 8, 3) := by decide +kernel
theorem dX8_dropMore_152 : decode cX8_dropMore 152 = .ok (.aload_n 1, 1) := by decide +kernel
theorem dX8_dropMore_153 : decode cX8_dropMore 153 = .ok (.iconst 0, 1) := by decide +kernel
theorem dX8_dropMore_154 : decode cX8_dropMore 154 = .ok (.putfield 230, 3) := by decide +kernel
theorem dX8_dropMore_157 : decode cX8_dropMore 157 = .ok (.iinc 4 1, 3) := by decide +kernel
theorem dX8_dropMore_160 : decode cX8_dropMore 160 = .ok (.goto (-155), 3) := by decide +kernel
theorem dX8_dropMore_163 : decode cX8_dropMore 163 = .ok (.iload_n 3, 1) := by decide +kernel
theorem dX8_dropMore_164 : decode cX8_dropMore 164 = .ok (.ireturn, 1) := by decide +kernel
theorem dX8_dropFirst_0 : decode cX8_dropFirst 0 = .ok (.iload_n 2, 1) := by decide +kernel
theorem dX8_dropFirst_1 : decode cX8_dropFirst 1 = .ok (.istore_n 3, 1) := by decide +kernel
theorem dX8_dropFirst_2 : decode cX8_dropFirst 2 = .ok (.aload_n 0, 1) := by decide +kernel
theorem dX8_dropFirst_3 : decode cX8_dropFirst 3 = .ok (.getfield 18, 3) := by decide +kernel
theorem dX8_dropFirst_6 : decode cX8_dropFirst 6 = .ok (.iload_n 3, 1) := by decide +kernel
theorem dX8_dropFirst_7 : decode cX8_dropFirst 7 = .ok (.invokevirtual 162, 3) := by decide +kernel
theorem dX8_dropFirst_10 : decode cX8_dropFirst 10 = .ok (.ifCond .eq 24, 3) := by decide +kernel
theorem dX8_dropFirst_13 : decode cX8_dropFirst 13 = .ok (.aload_n 0, 1) := by decide +kernel
theorem dX8_dropFirst_14 : decode cX8_dropFirst 14 = .ok (.getfield 18, 3) := by decide +kernel
theorem dX8_dropFirst_17 : decode cX8_dropFirst 17 = .ok (.getfield 260, 3) := by decide +kernel
theorem dX8_dropFirst_20 : decode cX8_dropFirst 20 = .ok (.iload_n 3, 1) := by decide +kernel
theorem dX8_dropFirst_21 : decode cX8_dropFirst 21 = .ok (.iaload, 1) := by decide +kernel
theorem dX8_dropFirst_22 : decode cX8_dropFirst 22 = .ok (.iconst 1, 1) := by decide +kernel
theorem dX8_dropFirst_23 : decode cX8_dropFirst 23 = .ok (.if_icmp .ne 11, 3) := by decide +kernel
theorem dX8_dropFirst_26 : decode cX8_dropFirst 26 = .ok (.aload_n 0, 1) := by decide +kernel
theorem dX8_dropFirst_27 : decode cX8_dropFirst 27 = .ok (.iload_n 3, 1) := by decide +kernel
theorem dX8_dropFirst_28 : decode cX8_dropFirst 28 = .ok (.invokevirtual 263, 3) := by decide +kernel
theorem dX8_dropFirst_31 : decode cX8_dropFirst 31 = .ok (.goto 14, 3) := by decide +kernel
theorem dX8_dropFirst_34 : decode cX8_dropFirst 34 = .ok (.aload_n 0, 1) := by decide +kernel
theorem dX8_dropFirst_35 : decode cX8_dropFirst 35 = .ok (.iload_n 3, 1) := by decide +kernel
theorem dX8_dropFirst_36 : decode cX8_dropFirst 36 = .ok (.invokevirtual 269, 3) := by decide +kernel
theorem dX8_dropFirst_39 : decode cX8_dropFirst 39 = .ok (.aload_n 0, 1) := by decide +kernel
theorem dX8_dropFirst_40 : decode cX8_dropFirst 40 = .ok (.aload_n 1, 1) := by decide +kernel
theorem dX8_dropFirst_41 : decode cX8_dropFirst 41 = .ok (.invokevirtual 227, 3) := by decide +kernel
theorem dX8_dropFirst_44 : decode cX8_dropFirst 44 = .ok (.istore_n 3, 1) := by decide +kernel
theorem dX8_dropFirst_45 : decode cX8_dropFirst 45 = .ok (.aload_n 1, 1) := by decide +kernel
theorem dX8_dropFirst_46 : decode cX8_dropFirst 46 = .ok (.iconst 1, 1) := by decide +kernel
theorem dX8_dropFirst_47 : decode cX8_dropFirst 47 = .ok (.putfield 230, 3) := by decide +kernel
theorem dX8_dropFirst_50 : decode cX8_dropFirst 50 = .ok (.aload_n 1, 1) := by decide +kernel
theorem dX8_dropFirst_51 : decode cX8_dropFirst 51 = .ok (.getfield 249, 3) := by decide +kernel
theorem dX8_dropFirst_54 : decode cX8_dropFirst 54 = .ok (.aload_n 1, 1) := by decide +kernel
theorem dX8_dropFirst_55 : decode cX8_dropFirst 55 = .ok (.getfield 272, 3) := by decide +kernel
theorem dX8_dropFirst_58 : decode cX8_dropFirst 58 = .ok (.isub, 1) := by decide +kernel
theorem dX8_dropFirst_59 : decode cX8_dropFirst 59 = .ok (.istore 4, 2) := by decide +kernel
theorem dX8_dropFirst_61 : decode cX8_dropFirst 61 = .ok (.iload 4, 2) := by decide +kernel
theorem dX8_dropFirst_63 : decode cX8_dropFirst 63 = .ok (.iconst 1, 1) := by decide +kernel
theorem dX8_dropFirst_64 : decode cX8_dropFirst 64 = .ok (.if_icmp .le 46, 3) := by decide +kernel
theorem dX8_dropFirst_67 : decode cX8_dropFirst 67 = .ok (.aload_n 0, 1) := by decide +kernel
theorem dX8_dropFirst_68 : decode cX8_dropFirst 68 = .ok (.getfield 52, 3) := by decide +kernel
theorem dX8_dropFirst_71 : decode cX8_dropFirst 71 = .ok (.aload_n 1, 1) := by decide +kernel
theorem dX8_dropFirst_72 : decode cX8_dropFirst 72 = .ok (.getfield 246, 3) := by decide +kernel
theorem dX8_dropFirst_75 : decode cX8_dropFirst 75 = .ok (.isub, 1) := by decide +kernel
theorem dX8_dropFirst_76 : decode cX8_dropFirst 76 = .ok (.bipush 16, 2) := by decide +kernel
theorem dX8_dropFirst_78 : decode cX8_dropFirst 78 = .ok (.aload_n 0, 1) := by decide +kernel
theorem dX8_dropFirst_79 : decode cX8_dropFirst 79 = .ok (.getfield 9, 3) := by decide +kernel
theorem dX8_dropFirst_82 : decode cX8_dropFirst 82 = .ok (.iconst 1, 1) := by decide +kernel
theorem dX8_dropFirst_83 : decode cX8_dropFirst 83 = .ok (.iaload, 1) := by decide +kernel
theorem dX8_dropFirst_84 : decode cX8_dropFirst 84 = .ok (.imul, 1) := by decide +kernel
theorem dX8_dropFirst_85 : decode cX8_dropFirst 85 = .ok (.if_icmp .ge 25, 3) := by decide +kernel
theorem dX8_dropFirst_88 : decode cX8_dropFirst 88 = .ok (.aload_n 1, 1) := by decide +kernel
theorem dX8_dropFirst_89 : decode cX8_dropFirst 89 = .ok (.iload 4, 2) := by decide +kernel
theorem dX8_dropFirst_91 : decode cX8_dropFirst 91 = .ok (.putfield 249, 3) := by decide +kernel
theorem dX8_dropFirst_94 : decode cX8_dropFirst 94 = .ok (.aload_n 1, 1) := by decide +kernel
theorem dX8_dropFirst_95 : decode cX8_dropFirst 95 = .ok (.aload_n 1, 1) := by decide +kernel
theorem dX8_dropFirst_96 : decode cX8_dropFirst 96 = .ok (.getfield 254, 3) := by decide +kernel
theorem dX8_dropFirst_99 : decode cX8_dropFirst 99 = .ok (.iload 4, 2) := by decide +kernel
theorem dX8_dropFirst_101 : decode cX8_dropFirst 101 = .ok (.invokestatic 257, 3) := by decide +kernel
theorem dX8_dropFirst_104 : decode cX8_dropFirst 104 = .ok (.putfield 254, 3) := by decide +kernel
theorem dX8_dropFirst_107 : decode cX8_dropFirst 107 = .ok (.goto 14, 3) := by decide +kernel
theorem dX8_dropFirst_110 : decode cX8_dropFirst 110 = .ok (.aload_n 1, 1) := by decide +kernel
theorem dX8_dropFirst_111 : decode cX8_dropFirst 111 = .ok (.iconst 1, 1) := by decide +kernel
theorem dX8_dropFirst_112 : decode cX8_dropFirst 112 = .ok (.putfield 249, 3) := by decide +kernel
theorem dX8_dropFirst_115 : decode cX8_dropFirst 115 = .ok (.aload_n 1, 1) := by decide +kernel
theorem dX8_dropFirst_116 : decode cX8_dropFirst 116 = .ok (.ldc 109, 2) := by decide +kernel
theorem dX8_dropFirst_118 : decode cX8_dropFirst 118 = .ok (.putfield 254, 3) := by decide +kernel
theorem dX8_dropFirst_121 : decode cX8_dropFirst 121 = .ok (.aload_n 1, 1) := by decide +kernel
theorem dX8_dropFirst_122 : decode cX8_dropFirst 122 = .ok (.aload_n 1, 1) := by decide +kernel
theorem dX8_dropFirst_123 : decode cX8_dropFirst 123 = .ok (.getfield 249, 3) := by decide +kernel
theorem dX8_dropFirst_126 : decode cX8_dropFirst 126 = .ok (.putfield 272, 3) := by decide +kernel
theorem dX8_dropFirst_129 : decode cX8_dropFirst 129 = .ok (.aload_n 1, 1) := by decide +kernel
theorem dX8_dropFirst_130 : decode cX8_dropFirst 130 = .ok (.aload_n 1, 1) := by decide +kernel
theorem dX8_dropFirst_131 : decode cX8_dropFirst 131 = .ok (.aload_n 0, 1) := by decide +kernel
theorem dX8_dropFirst_132 : decode cX8_dropFirst 132 = .ok (.getfield 52, 3) := by decide +kernel
theorem dX8_dropFirst_135 : decode cX8_dropFirst 135 = .ok (.aload_n 0, 1) := by decide +kernel
theorem dX8_dropFirst_136 : decode cX8_dropFirst 136 = .ok (.getfield 9, 3) := by decide +kernel
theorem dX8_dropFirst_139 : decode cX8_dropFirst 139 = .ok (.iconst 1, 1) := by decide +kernel
theorem dX8_dropFirst_140 : decode cX8_dropFirst 140 = .ok (.iaload, 1) := by decide +kernel
theorem dX8_dropFirst_141 : decode cX8_dropFirst 141 = .ok (.invokevirtual 266, 3) := by decide +kernel
theorem dX8_dropFirst_144 : decode cX8_dropFirst 144 = .ok (.putfield 246, 3) := by decide +kernel
theorem dX8_dropFirst_147 : decode cX8_dropFirst 147 = .ok (.iload_n 3, 1) := by decide +kernel
theorem dX8_dropFirst_148 : decode cX8_dropFirst 148 = .ok (.ireturn, 1) := by decide +kernel
theorem dX8_leastTaken_0 : decode cX8_leastTaken 0 = .ok (.aload_n 0, 1) := by decide +kernel
theorem dX8_leastTaken_1 : decode cX8_leastTaken 1 = .ok (.iload_n 1, 1) := by decide +kernel
theorem dX8_leastTaken_2 : decode cX8_leastTaken 2 = .ok (.invokevirtual 137, 3) := by decide +kernel
theorem dX8_leastTaken_5 : decode cX8_leastTaken 5 = .ok (.ifCond .ne 5, 3) := by decide +kernel
theorem dX8_leastTaken_8 : decode cX8_leastTaken 8 = .ok (.iconst (-1), 1) := by decide +kernel
theorem dX8_leastTaken_9 : decode cX8_leastTaken 9 = .ok (.ireturn, 1) := by decide +kernel
theorem dX8_leastTaken_10 : decode cX8_leastTaken 10 = .ok (.ldc 68, 2) := by decide +kernel
theorem dX8_leastTaken_12 : decode cX8_leastTaken 12 = .ok (.istore_n 2, 1) := by decide +kernel
theorem dX8_leastTaken_13 : decode cX8_leastTaken 13 = .ok (.aload_n 0, 1) := by decide +kernel
theorem dX8_leastTaken_14 : decode cX8_leastTaken 14 = .ok (.getfield 24, 3) := by decide +kernel
theorem dX8_leastTaken_17 : decode cX8_leastTaken 17 = .ok (.iload_n 1, 1) := by decide +kernel
theorem dX8_leastTaken_18 : decode cX8_leastTaken 18 = .ok (.aaload, 1) := by decide +kernel
theorem dX8_leastTaken_19 : decode cX8_leastTaken 19 = .ok (.getfield 339, 3) := by decide +kernel
theorem dX8_leastTaken_22 : decode cX8_leastTaken 22 = .ok (.iconst 0, 1) := by decide +kernel
theorem dX8_leastTaken_23 : decode cX8_leastTaken 23 = .ok (.invokestatic 156, 3) := by decide +kernel
theorem dX8_leastTaken_26 : decode cX8_leastTaken 26 = .ok (.istore_n 3, 1) := by decide +kernel
theorem dX8_leastTaken_27 : decode cX8_leastTaken 27 = .ok (.iload_n 3, 1) := by decide +kernel
theorem dX8_leastTaken_28 : decode cX8_leastTaken 28 = .ok (.aload_n 0, 1) := by decide +kernel
theorem dX8_leastTaken_29 : decode cX8_leastTaken 29 = .ok (.getfield 18, 3) := by decide +kernel
theorem dX8_leastTaken_32 : decode cX8_leastTaken 32 = .ok (.getfield 136, 3) := by decide +kernel
theorem dX8_leastTaken_35 : decode cX8_leastTaken 35 = .ok (.if_icmp .ge 96, 3) := by decide +kernel
theorem dX8_leastTaken_38 : decode cX8_leastTaken 38 = .ok (.aload_n 0, 1) := by decide +kernel
theorem dX8_leastTaken_39 : decode cX8_leastTaken 39 = .ok (.getfield 18, 3) := by decide +kernel
theorem dX8_leastTaken_42 : decode cX8_leastTaken 42 = .ok (.getfield 311, 3) := by decide +kernel
theorem dX8_leastTaken_45 : decode cX8_leastTaken 45 = .ok (.iload_n 3, 1) := by decide +kernel
theorem dX8_leastTaken_46 : decode cX8_leastTaken 46 = .ok (.iaload, 1) := by decide +kernel
theorem dX8_leastTaken_47 : decode cX8_leastTaken 47 = .ok (.iconst 1, 1) := by decide +kernel
theorem dX8_leastTaken_48 : decode cX8_leastTaken 48 = .ok (.if_icmp .eq 16, 3) := by decide +kernel
theorem dX8_leastTaken_51 : decode cX8_leastTaken 51 = .ok (.aload_n 0, 1) := by decide +kernel
theorem dX8_leastTaken_52 : decode cX8_leastTaken 52 = .ok (.getfield 18, 3) := by decide +kernel
theorem dX8_leastTaken_55 : decode cX8_leastTaken 55 = .ok (.getfield 311, 3) := by decide +kernel
theorem dX8_leastTaken_58 : decode cX8_leastTaken 58 = .ok (.iload_n 3, 1) := by decide +kernel
theorem dX8_leastTaken_59 : decode cX8_leastTaken 59 = .ok (.iaload, 1) := by decide +kernel
theorem dX8_leastTaken_60 : decode cX8_leastTaken 60 = .ok (.iconst 2, 1) := by decide +kernel
theorem dX8_leastTaken_61 : decode cX8_leastTaken 61 = .ok (.if_icmp .ne 7, 3) := by decide +kernel
theorem dX8_leastTaken_64 : decode cX8_leastTaken 64 = .ok (.iconst 1, 1) := by decide +kernel
theorem dX8_leastTaken_65 : decode cX8_leastTaken 65 = .ok (.goto 4, 3) := by decide +kernel
theorem dX8_leastTaken_68 : decode cX8_leastTaken 68 = .ok (.iconst 0, 1) := by decide +kernel
theorem dX8_leastTaken_69 : decode cX8_leastTaken 69 = .ok (.istore 4, 2) := by decide +kernel
theorem dX8_leastTaken_71 : decode cX8_leastTaken 71 = .ok (.aload_n 0, 1) := by decide +kernel
theorem dX8_leastTaken_72 : decode cX8_leastTaken 72 = .ok (.getfield 18, 3) := by decide +kernel
theorem dX8_leastTaken_75 : decode cX8_leastTaken 75 = .ok (.getfield 342, 3) := by decide +kernel
theorem dX8_leastTaken_78 : decode cX8_leastTaken 78 = .ok (.iload_n 3, 1) := by decide +kernel
theorem dX8_leastTaken_79 : decode cX8_leastTaken 79 = .ok (.iaload, 1) := by decide +kernel
theorem dX8_leastTaken_80 : decode cX8_leastTaken 80 = .ok (.iload_n 1, 1) := by decide +kernel
theorem dX8_leastTaken_81 : decode cX8_leastTaken 81 = .ok (.if_icmp .ne 44, 3) := by decide +kernel
theorem dX8_leastTaken_84 : decode cX8_leastTaken 84 = .ok (.iload 4, 2) := by decide +kernel
theorem dX8_leastTaken_86 : decode cX8_leastTaken 86 = .ok (.ifCond .eq 39, 3) := by decide +kernel
theorem dX8_leastTaken_89 : decode cX8_leastTaken 89 = .ok (.aload_n 0, 1) := by decide +kernel
theorem dX8_leastTaken_90 : decode cX8_leastTaken 90 = .ok (.getfield 52, 3) := by decide +kernel
theorem dX8_leastTaken_93 : decode cX8_leastTaken 93 = .ok (.aload_n 0, 1) := by decide +kernel
theorem dX8_leastTaken_94 : decode cX8_leastTaken 94 = .ok (.getfield 18, 3) := by decide +kernel
theorem dX8_leastTaken_97 : decode cX8_leastTaken 97 = .ok (.getfield 302, 3) := by decide +kernel
theorem dX8_leastTaken_100 : decode cX8_leastTaken 100 = .ok (.iload_n 3, 1) := by decide +kernel
theorem dX8_leastTaken_101 : decode cX8_leastTaken 101 = .ok (.iaload, 1) := by decide +kernel
theorem dX8_leastTaken_102 : decode cX8_leastTaken 102 = .ok (.isub, 1) := by decide +kernel
theorem dX8_leastTaken_103 : decode cX8_leastTaken 103 = .ok (.aload_n 0, 1) := by decide +kernel
theorem dX8_leastTaken_104 : decode cX8_leastTaken 104 = .ok (.getfield 9, 3) := by decide +kernel
theorem dX8_leastTaken_107 : decode cX8_leastTaken 107 = .ok (.iconst 1, 1) := by decide +kernel
theorem dX8_leastTaken_108 : decode cX8_leastTaken 108 = .ok (.iaload, 1) := by decide +kernel
theorem dX8_leastTaken_109 : decode cX8_leastTaken 109 = .ok (.if_icmp .ge 16, 3) := by decide +kernel
theorem dX8_leastTaken_112 : decode cX8_leastTaken 112 = .ok (.iload_n 2, 1) := by decide +kernel
theorem dX8_leastTaken_113 : decode cX8_leastTaken 113 = .ok (.aload_n 0, 1) := by decide +kernel
theorem dX8_leastTaken_114 : decode cX8_leastTaken 114 = .ok (.getfield 18, 3) := by decide +kernel
theorem dX8_leastTaken_117 : decode cX8_leastTaken 117 = .ok (.iload_n 3, 1) := by decide +kernel
theorem dX8_leastTaken_118 : decode cX8_leastTaken 118 = .ok (.invokevirtual 221, 3) := by decide +kernel
theorem dX8_leastTaken_121 : decode cX8_leastTaken 121 = .ok (.invokestatic 118, 3) := by decide +kernel
theorem dX8_leastTaken_124 : decode cX8_leastTaken 124 = .ok (.istore_n 2, 1) := by decide +kernel
theorem dX8_leastTaken_125 : decode cX8_leastTaken 125 = .ok (.iinc 3 1, 3) := by decide +kernel
theorem dX8_leastTaken_128 : decode cX8_leastTaken 128 = .ok (.goto (-101), 3) := by decide +kernel
theorem dX8_leastTaken_131 : decode cX8_leastTaken 131 = .ok (.iload_n 2, 1) := by decide +kernel
theorem dX8_leastTaken_132 : decode cX8_leastTaken 132 = .ok (.ldc 68, 2) := by decide +kernel
theorem dX8_leastTaken_134 : decode cX8_leastTaken 134 = .ok (.if_icmp .ne 8, 3) := by decide +kernel
theorem dX8_leastTaken_137 : decode cX8_leastTaken 137 = .ok (.bipush (-2), 2) := by decide +kernel
theorem dX8_leastTaken_139 : decode cX8_leastTaken 139 = .ok (.goto 4, 3) := by decide +kernel
theorem dX8_leastTaken_142 : decode cX8_leastTaken 142 = .ok (.iload_n 2, 1) := by decide +kernel
theorem dX8_leastTaken_143 : decode cX8_leastTaken 143 = .ok (.ireturn, 1) := by decide +kernel
theorem dX8_keep_0 : decode cX8_keep 0 = .ok (.aload_n 0, 1) := by decide +kernel
theorem dX8_keep_1 : decode cX8_keep 1 = .ok (.aload_n 1, 1) := by decide +kernel
theorem dX8_keep_2 : decode cX8_keep 2 = .ok (.invokevirtual 227, 3) := by decide +kernel
theorem dX8_keep_5 : decode cX8_keep 5 = .ok (.istore_n 2, 1) := by decide +kernel
theorem dX8_keep_6 : decode cX8_keep 6 = .ok (.aload_n 1, 1) := by decide +kernel
theorem dX8_keep_7 : decode cX8_keep 7 = .ok (.getfield 230, 3) := by decide +kernel
theorem dX8_keep_10 : decode cX8_keep 10 = .ok (.ifCond .eq 24, 3) := by decide +kernel
theorem dX8_keep_13 : decode cX8_keep 13 = .ok (.aload_n 0, 1) := by decide +kernel
theorem dX8_keep_14 : decode cX8_keep 14 = .ok (.getfield 64, 3) := by decide +kernel
theorem dX8_keep_17 : decode cX8_keep 17 = .ok (.ifCond .eq 10, 3) := by decide +kernel
theorem dX8_keep_20 : decode cX8_keep 20 = .ok (.aload_n 0, 1) := by decide +kernel
theorem dX8_keep_21 : decode cX8_keep 21 = .ok (.aload_n 1, 1) := by decide +kernel
theorem dX8_keep_22 : decode cX8_keep 22 = .ok (.iload_n 2, 1) := by decide +kernel
theorem dX8_keep_23 : decode cX8_keep 23 = .ok (.invokevirtual 233, 3) := by decide +kernel
theorem dX8_keep_26 : decode cX8_keep 26 = .ok (.ireturn, 1) := by decide +kernel
theorem dX8_keep_27 : decode cX8_keep 27 = .ok (.aload_n 1, 1) := by decide +kernel
theorem dX8_keep_28 : decode cX8_keep 28 = .ok (.iconst 0, 1) := by decide +kernel
theorem dX8_keep_29 : decode cX8_keep 29 = .ok (.putfield 230, 3) := by decide +kernel
theorem dX8_keep_32 : decode cX8_keep 32 = .ok (.iload_n 2, 1) := by decide +kernel
theorem dX8_keep_33 : decode cX8_keep 33 = .ok (.ireturn, 1) := by decide +kernel
theorem dX8_keep_34 : decode cX8_keep 34 = .ok (.aload_n 0, 1) := by decide +kernel
theorem dX8_keep_35 : decode cX8_keep 35 = .ok (.getfield 64, 3) := by decide +kernel
theorem dX8_keep_38 : decode cX8_keep 38 = .ok (.ifCond .eq 12, 3) := by decide +kernel
theorem dX8_keep_41 : decode cX8_keep 41 = .ok (.aload_n 0, 1) := by decide +kernel
theorem dX8_keep_42 : decode cX8_keep 42 = .ok (.aload_n 1, 1) := by decide +kernel
theorem dX8_keep_43 : decode cX8_keep 43 = .ok (.iload_n 2, 1) := by decide +kernel
theorem dX8_keep_44 : decode cX8_keep 44 = .ok (.invokevirtual 237, 3) := by decide +kernel
theorem dX8_keep_47 : decode cX8_keep 47 = .ok (.goto 4, 3) := by decide +kernel
theorem dX8_keep_50 : decode cX8_keep 50 = .ok (.iload_n 2, 1) := by decide +kernel
theorem dX8_keep_51 : decode cX8_keep 51 = .ok (.ireturn, 1) := by decide +kernel
theorem dX8_letSend_0 : decode cX8_letSend 0 = .ok (.aload_n 0, 1) := by decide +kernel
theorem dX8_letSend_1 : decode cX8_letSend 1 = .ok (.getfield 37, 3) := by decide +kernel
theorem dX8_letSend_4 : decode cX8_letSend 4 = .ok (.iload_n 1, 1) := by decide +kernel
theorem dX8_letSend_5 : decode cX8_letSend 5 = .ok (.aaload, 1) := by decide +kernel
theorem dX8_letSend_6 : decode cX8_letSend 6 = .ok (.astore_n 2, 1) := by decide +kernel
theorem dX8_letSend_7 : decode cX8_letSend 7 = .ok (.iconst 0, 1) := by decide +kernel
theorem dX8_letSend_8 : decode cX8_letSend 8 = .ok (.istore_n 3, 1) := by decide +kernel
theorem dX8_letSend_9 : decode cX8_letSend 9 = .ok (.iload_n 3, 1) := by decide +kernel
theorem dX8_letSend_10 : decode cX8_letSend 10 = .ok (.sipush 200, 3) := by decide +kernel
theorem dX8_letSend_13 : decode cX8_letSend 13 = .ok (.if_icmp .ge 47, 3) := by decide +kernel
theorem dX8_letSend_16 : decode cX8_letSend 16 = .ok (.aload_n 2, 1) := by decide +kernel
theorem dX8_letSend_17 : decode cX8_letSend 17 = .ok (.invokevirtual 318, 3) := by decide +kernel
theorem dX8_letSend_20 : decode cX8_letSend 20 = .ok (.ifCond .eq 40, 3) := by decide +kernel
theorem dX8_letSend_23 : decode cX8_letSend 23 = .ok (.aload_n 0, 1) := by decide +kernel
theorem dX8_letSend_24 : decode cX8_letSend 24 = .ok (.aload_n 2, 1) := by decide +kernel
theorem dX8_letSend_25 : decode cX8_letSend 25 = .ok (.getfield 321, 3) := by decide +kernel
theorem dX8_letSend_28 : decode cX8_letSend 28 = .ok (.aload_n 2, 1) := by decide +kernel
theorem dX8_letSend_29 : decode cX8_letSend 29 = .ok (.getfield 323, 3) := by decide +kernel
theorem dX8_letSend_32 : decode cX8_letSend 32 = .ok (.aload_n 2, 1) := by decide +kernel
theorem dX8_letSend_33 : decode cX8_letSend 33 = .ok (.getfield 324, 3) := by decide +kernel
theorem dX8_letSend_36 : decode cX8_letSend 36 = .ok (.iload_n 1, 1) := by decide +kernel
theorem dX8_letSend_37 : decode cX8_letSend 37 = .ok (.invokevirtual 326, 3) := by decide +kernel
theorem dX8_letSend_40 : decode cX8_letSend 40 = .ok (.ifCond .ge 4, 3) := by decide +kernel
theorem dX8_letSend_43 : decode cX8_letSend 43 = .ok (.return_, 1) := by decide +kernel
theorem dX8_letSend_44 : decode cX8_letSend 44 = .ok (.aload_n 2, 1) := by decide +kernel
theorem dX8_letSend_45 : decode cX8_letSend 45 = .ok (.dup, 1) := by decide +kernel
theorem dX8_letSend_46 : decode cX8_letSend 46 = .ok (.getfield 330, 3) := by decide +kernel
theorem dX8_letSend_49 : decode cX8_letSend 49 = .ok (.iconst 1, 1) := by decide +kernel
theorem dX8_letSend_50 : decode cX8_letSend 50 = .ok (.iadd, 1) := by decide +kernel
theorem dX8_letSend_51 : decode cX8_letSend 51 = .ok (.putfield 330, 3) := by decide +kernel
theorem dX8_letSend_54 : decode cX8_letSend 54 = .ok (.iinc 3 1, 3) := by decide +kernel
theorem dX8_letSend_57 : decode cX8_letSend 57 = .ok (.goto (-48), 3) := by decide +kernel
theorem dX8_letSend_60 : decode cX8_letSend 60 = .ok (.return_, 1) := by decide +kernel
theorem dX8_serve_0 : decode cX8_serve 0 = .ok (.iconst 0, 1) := by decide +kernel
theorem dX8_serve_1 : decode cX8_serve 1 = .ok (.istore_n 1, 1) := by decide +kernel
theorem dX8_serve_2 : decode cX8_serve 2 = .ok (.iload_n 1, 1) := by decide +kernel
theorem dX8_serve_3 : decode cX8_serve 3 = .ok (.ldc 192, 2) := by decide +kernel
theorem dX8_serve_5 : decode cX8_serve 5 = .ok (.if_icmp .ge 126, 3) := by decide +kernel
theorem dX8_serve_8 : decode cX8_serve 8 = .ok (.aload_n 0, 1) := by decide +kernel
theorem dX8_serve_9 : decode cX8_serve 9 = .ok (.getfield 31, 3) := by decide +kernel
theorem dX8_serve_12 : decode cX8_serve 12 = .ok (.iconst 0, 1) := by decide +kernel
theorem dX8_serve_13 : decode cX8_serve 13 = .ok (.invokevirtual 193, 3) := by decide +kernel
theorem dX8_serve_16 : decode cX8_serve 16 = .ok (.istore_n 2, 1) := by decide +kernel
theorem dX8_serve_17 : decode cX8_serve 17 = .ok (.aload_n 0, 1) := by decide +kernel
theorem dX8_serve_18 : decode cX8_serve 18 = .ok (.iload_n 2, 1) := by decide +kernel
theorem dX8_serve_19 : decode cX8_serve 19 = .ok (.invokevirtual 137, 3) := by decide +kernel
theorem dX8_serve_22 : decode cX8_serve 22 = .ok (.ifCond .ne 6, 3) := by decide +kernel
theorem dX8_serve_25 : decode cX8_serve 25 = .ok (.bipush (-2), 2) := by decide +kernel
theorem dX8_serve_27 : decode cX8_serve 27 = .ok (.ireturn, 1) := by decide +kernel
theorem dX8_serve_28 : decode cX8_serve 28 = .ok (.aload_n 0, 1) := by decide +kernel
theorem dX8_serve_29 : decode cX8_serve 29 = .ok (.getfield 24, 3) := by decide +kernel
theorem dX8_serve_32 : decode cX8_serve 32 = .ok (.iload_n 2, 1) := by decide +kernel
theorem dX8_serve_33 : decode cX8_serve 33 = .ok (.aaload, 1) := by decide +kernel
theorem dX8_serve_34 : decode cX8_serve 34 = .ok (.astore_n 3, 1) := by decide +kernel
theorem dX8_serve_35 : decode cX8_serve 35 = .ok (.aload_n 3, 1) := by decide +kernel
theorem dX8_serve_36 : decode cX8_serve 36 = .ok (.getfield 196, 3) := by decide +kernel
theorem dX8_serve_39 : decode cX8_serve 39 = .ok (.ifCond .gt 26, 3) := by decide +kernel
theorem dX8_serve_42 : decode cX8_serve 42 = .ok (.aload_n 3, 1) := by decide +kernel
theorem dX8_serve_43 : decode cX8_serve 43 = .ok (.dup, 1) := by decide +kernel
theorem dX8_serve_44 : decode cX8_serve 44 = .ok (.getfield 196, 3) := by decide +kernel
theorem dX8_serve_47 : decode cX8_serve 47 = .ok (.aload_n 0, 1) := by decide +kernel
theorem dX8_serve_48 : decode cX8_serve 48 = .ok (.getfield 9, 3) := by decide +kernel
theorem dX8_serve_51 : decode cX8_serve 51 = .ok (.iconst 2, 1) := by decide +kernel
theorem dX8_serve_52 : decode cX8_serve 52 = .ok (.iaload, 1) := by decide +kernel
theorem dX8_serve_53 : decode cX8_serve 53 = .ok (.iadd, 1) := by decide +kernel
theorem dX8_serve_54 : decode cX8_serve 54 = .ok (.putfield 196, 3) := by decide +kernel
theorem dX8_serve_57 : decode cX8_serve 57 = .ok (.aload_n 0, 1) := by decide +kernel
theorem dX8_serve_58 : decode cX8_serve 58 = .ok (.aload_n 3, 1) := by decide +kernel
theorem dX8_serve_59 : decode cX8_serve 59 = .ok (.invokevirtual 199, 3) := by decide +kernel
theorem dX8_serve_62 : decode cX8_serve 62 = .ok (.goto 63, 3) := by decide +kernel
theorem dX8_serve_65 : decode cX8_serve 65 = .ok (.aload_n 0, 1) := by decide +kernel
theorem dX8_serve_66 : decode cX8_serve 66 = .ok (.aload_n 3, 1) := by decide +kernel
theorem dX8_serve_67 : decode cX8_serve 67 = .ok (.invokevirtual 202, 3) := by decide +kernel
theorem dX8_serve_70 : decode cX8_serve 70 = .ok (.istore 4, 2) := by decide +kernel
theorem dX8_serve_72 : decode cX8_serve 72 = .ok (.aload_n 0, 1) := by decide +kernel
theorem dX8_serve_73 : decode cX8_serve 73 = .ok (.getfield 18, 3) := by decide +kernel
theorem dX8_serve_76 : decode cX8_serve 76 = .ok (.iload 4, 2) := by decide +kernel
theorem dX8_serve_78 : decode cX8_serve 78 = .ok (.invokevirtual 162, 3) := by decide +kernel
theorem dX8_serve_81 : decode cX8_serve 81 = .ok (.ifCond .eq 13, 3) := by decide +kernel
theorem dX8_serve_84 : decode cX8_serve 84 = .ok (.aload_n 0, 1) := by decide +kernel
theorem dX8_serve_85 : decode cX8_serve 85 = .ok (.aload_n 3, 1) := by decide +kernel
theorem dX8_serve_86 : decode cX8_serve 86 = .ok (.iload 4, 2) := by decide +kernel
theorem dX8_serve_88 : decode cX8_serve 88 = .ok (.invokevirtual 205, 3) := by decide +kernel
theorem dX8_serve_91 : decode cX8_serve 91 = .ok (.iload 4, 2) := by decide +kernel
theorem dX8_serve_93 : decode cX8_serve 93 = .ok (.ireturn, 1) := by decide +kernel
theorem dX8_serve_94 : decode cX8_serve 94 = .ok (.aload_n 3, 1) := by decide +kernel
theorem dX8_serve_95 : decode cX8_serve 95 = .ok (.getfield 123, 3) := by decide +kernel
theorem dX8_serve_98 : decode cX8_serve 98 = .ok (.iconst 1, 1) := by decide +kernel
theorem dX8_serve_99 : decode cX8_serve 99 = .ok (.if_icmp .ne 21, 3) := by decide +kernel
theorem dX8_serve_102 : decode cX8_serve 102 = .ok (.aload_n 0, 1) := by decide +kernel
theorem dX8_serve_103 : decode cX8_serve 103 = .ok (.getfield 31, 3) := by decide +kernel
theorem dX8_serve_106 : decode cX8_serve 106 = .ok (.invokevirtual 208, 3) := by decide +kernel
theorem dX8_serve_109 : decode cX8_serve 109 = .ok (.ifCond .eq 11, 3) := by decide +kernel
theorem dX8_serve_112 : decode cX8_serve 112 = .ok (.aload_n 0, 1) := by decide +kernel
theorem dX8_serve_113 : decode cX8_serve 113 = .ok (.aload_n 3, 1) := by decide +kernel
theorem dX8_serve_114 : decode cX8_serve 114 = .ok (.invokevirtual 199, 3) := by decide +kernel
theorem dX8_serve_117 : decode cX8_serve 117 = .ok (.goto 8, 3) := by decide +kernel
theorem dX8_serve_120 : decode cX8_serve 120 = .ok (.aload_n 0, 1) := by decide +kernel
theorem dX8_serve_121 : decode cX8_serve 121 = .ok (.aload_n 3, 1) := by decide +kernel
theorem dX8_serve_122 : decode cX8_serve 122 = .ok (.invokevirtual 212, 3) := by decide +kernel
theorem dX8_serve_125 : decode cX8_serve 125 = .ok (.iinc 1 1, 3) := by decide +kernel
theorem dX8_serve_128 : decode cX8_serve 128 = .ok (.goto (-126), 3) := by decide +kernel
theorem dX8_serve_131 : decode cX8_serve 131 = .ok (.bipush (-2), 2) := by decide +kernel
theorem dX8_serve_133 : decode cX8_serve 133 = .ok (.ireturn, 1) := by decide +kernel
theorem dX8_tick_0 : decode cX8_tick 0 = .ok (.iconst 0, 1) := by decide +kernel
theorem dX8_tick_1 : decode cX8_tick 1 = .ok (.istore_n 1, 1) := by decide +kernel
theorem dX8_tick_2 : decode cX8_tick 2 = .ok (.iload_n 1, 1) := by decide +kernel
theorem dX8_tick_3 : decode cX8_tick 3 = .ok (.aload_n 0, 1) := by decide +kernel
theorem dX8_tick_4 : decode cX8_tick 4 = .ok (.getfield 48, 3) := by decide +kernel
theorem dX8_tick_7 : decode cX8_tick 7 = .ok (.if_icmp .ge 14, 3) := by decide +kernel
theorem dX8_tick_10 : decode cX8_tick 10 = .ok (.aload_n 0, 1) := by decide +kernel
theorem dX8_tick_11 : decode cX8_tick 11 = .ok (.iload_n 1, 1) := by decide +kernel
theorem dX8_tick_12 : decode cX8_tick 12 = .ok (.invokevirtual 284, 3) := by decide +kernel
theorem dX8_tick_15 : decode cX8_tick 15 = .ok (.iinc 1 1, 3) := by decide +kernel
theorem dX8_tick_18 : decode cX8_tick 18 = .ok (.goto (-16), 3) := by decide +kernel
theorem dX8_tick_21 : decode cX8_tick 21 = .ok (.iconst 0, 1) := by decide +kernel
theorem dX8_tick_22 : decode cX8_tick 22 = .ok (.istore_n 1, 1) := by decide +kernel
theorem dX8_tick_23 : decode cX8_tick 23 = .ok (.iload_n 1, 1) := by decide +kernel
theorem dX8_tick_24 : decode cX8_tick 24 = .ok (.aload_n 0, 1) := by decide +kernel
theorem dX8_tick_25 : decode cX8_tick 25 = .ok (.getfield 48, 3) := by decide +kernel
theorem dX8_tick_28 : decode cX8_tick 28 = .ok (.if_icmp .ge 14, 3) := by decide +kernel
theorem dX8_tick_31 : decode cX8_tick 31 = .ok (.aload_n 0, 1) := by decide +kernel
theorem dX8_tick_32 : decode cX8_tick 32 = .ok (.iload_n 1, 1) := by decide +kernel
theorem dX8_tick_33 : decode cX8_tick 33 = .ok (.invokevirtual 287, 3) := by decide +kernel
theorem dX8_tick_36 : decode cX8_tick 36 = .ok (.iinc 1 1, 3) := by decide +kernel
theorem dX8_tick_39 : decode cX8_tick 39 = .ok (.goto (-16), 3) := by decide +kernel
theorem dX8_tick_42 : decode cX8_tick 42 = .ok (.aload_n 0, 1) := by decide +kernel
theorem dX8_tick_43 : decode cX8_tick 43 = .ok (.invokevirtual 290, 3) := by decide +kernel
theorem dX8_tick_46 : decode cX8_tick 46 = .ok (.pop, 1) := by decide +kernel
theorem dX8_tick_47 : decode cX8_tick 47 = .ok (.aload_n 0, 1) := by decide +kernel
theorem dX8_tick_48 : decode cX8_tick 48 = .ok (.dup, 1) := by decide +kernel
theorem dX8_tick_49 : decode cX8_tick 49 = .ok (.getfield 52, 3) := by decide +kernel
theorem dX8_tick_52 : decode cX8_tick 52 = .ok (.iconst 1, 1) := by decide +kernel
theorem dX8_tick_53 : decode cX8_tick 53 = .ok (.iadd, 1) := by decide +kernel
theorem dX8_tick_54 : decode cX8_tick 54 = .ok (.putfield 52, 3) := by decide +kernel
theorem dX8_tick_57 : decode cX8_tick 57 = .ok (.return_, 1) := by decide +kernel
def b_X8_clear_23 (o0 : Nat) (k23 : Hp × Int32 → Option Hp) (q : Hp × Int32) : Option Hp :=
  if 16 ≤ q.2 then (Option.bind (p_X2_clear q.1 (o0 + 33)) fun r1 => nv (hp r1 (o0 + 40) 3 0) fun h2 => nv (hp h2 o0 6 0) fun h3 => nv (hp h3 o0 7 0) fun h4 => nv (hp h4 o0 8 0) fun h5 => nv (hp h5 o0 9 0) fun h6 => nv (hp h6 o0 10 0) fun h7 => some h7) else (if ib q.2 16 then (Option.bind (p_X0_clear q.1 (o0 + 16 + 1 + Int32.toNatClampNeg q.2)) fun r9 => k23 (r9, q.2 + 1)) else none)
def p_X8_clear (h : Hp) (o0 : Nat) : Option Hp :=
  nv (va_up h (o0 + 1) (va_cpy (tbv 3) (h (o0 + 1)) 0 0 (Int32.toNatClampNeg 8))) fun h10 => Option.bind (p_X1_clear h10 (o0 + 2)) fun r11 => lp (b_X8_clear_23 o0) FU (r11, 0)
set_option maxRecDepth 4000 in
theorem s_X8_clear_23 {p : Program} {l : Launch} {e : Env} {s : State} {m : MethodId} {args : Array Value} {below : List Frame} {meth : Method} {c : Code} {G : GT} (cx : CX p s m args c cX8_clear 2 RX8 G) (hr : meth.sig.returnType = none) (hlk : meth.locks = false) (o0 : Nat) (hk_o0 : kd o0 = 7) : ∀ (n : Nat) (q : Hp × Int32), PF p l e (rmc 2 43) s m args below meth c 2 G 0 0 (QV below G args s) 23 [some (.ref (gad G o0)), some (.int q.2)] [] q.1 (lp (b_X8_clear_23 o0) n q) := by
  refine f_lp (lvf := fun (q : Hp × Int32) => [some (.ref (gad G o0)), some (.int q.2)]) (hf := fun (q : Hp × Int32) => q.1) (fun k23 hk23 q => ?_)
  show PF p l e (rmc 2 43) s m args below meth c 2 G 0 0 (QV below G args s) 23 [some (.ref (gad G o0)), some (.int q.2)] [] q.1 (b_X8_clear_23 o0 k23 q)
  unfold b_X8_clear_23
  refine f_iload_n (pc := 23) cx dX8_clear_23 rfl rfl ?_
  refine f_bipush (pc := 24) cx dX8_clear_24 kc_bipush_16 ?_
  refine f_icmp_ge (pc := 26) (tgt := 44) cx dX8_clear_26 (by decide) (fun _ => ?_) (fun _ => ?_)
  · refine f_aload_n (pc := 44) cx dX8_clear_44 rfl rfl ?_
    refine g_X8_31 (pc := 45) cx hk_o0 dX8_clear_45 ?_
    refine f_bind (fun r1 hr1 => ?_)
    refine k_X8_87 (pc := 48) cx (c_X2_clear l G _ (o0 + 33) (kf_7_3 hk_o0) r1 hr1) (kf_7_3 hk_o0) ⟨by decide, by decide⟩ ⟨Nat.zero_le _, Nat.zero_le _⟩ (Nat.le_of_ble_eq_true rfl) dX8_clear_48 ?_
    refine f_aload_n (pc := 51) cx dX8_clear_51 rfl rfl ?_
    refine g_X8_44 (pc := 52) cx hk_o0 dX8_clear_52 ?_
    refine f_iconst (pc := 55) cx dX8_clear_55 kc_iconst_0 ?_
    refine u_X8_88 (pc := 56) cx (kf_7_5 hk_o0) dX8_clear_56 ?_
    refine f_nvh (fun h2 => ?_)
    refine f_aload_n (pc := 59) cx dX8_clear_59 rfl rfl ?_
    refine f_iconst (pc := 60) cx dX8_clear_60 kc_iconst_0 ?_
    refine u_X8_48 (pc := 61) cx hk_o0 dX8_clear_61 ?_
    refine f_nvh (fun h3 => ?_)
    refine f_aload_n (pc := 64) cx dX8_clear_64 rfl rfl ?_
    refine f_iconst (pc := 65) cx dX8_clear_65 kc_iconst_0 ?_
    refine u_X8_52 (pc := 66) cx hk_o0 dX8_clear_66 ?_
    refine f_nvh (fun h4 => ?_)
    refine f_aload_n (pc := 69) cx dX8_clear_69 rfl rfl ?_
    refine f_iconst (pc := 70) cx dX8_clear_70 kc_iconst_0 ?_
    refine u_X8_55 (pc := 71) cx hk_o0 dX8_clear_71 ?_
    refine f_nvh (fun h5 => ?_)
    refine f_aload_n (pc := 74) cx dX8_clear_74 rfl rfl ?_
    refine f_iconst (pc := 75) cx dX8_clear_75 kc_iconst_0 ?_
    refine u_X8_58 (pc := 76) cx hk_o0 dX8_clear_76 ?_
    refine f_nvh (fun h6 => ?_)
    refine f_aload_n (pc := 79) cx dX8_clear_79 rfl rfl ?_
    refine f_iconst (pc := 80) cx dX8_clear_80 kc_iconst_0 ?_
    refine u_X8_61 (pc := 81) cx hk_o0 dX8_clear_81 ?_
    refine f_nvh (fun h7 => ?_)
    exact f_vret cx hr hlk dX8_clear_84
  · refine f_aload_n (pc := 29) cx dX8_clear_29 rfl rfl ?_
    refine g_X8_24 (pc := 30) cx hk_o0 dX8_clear_30 ?_
    refine f_iload_n (pc := 33) cx dX8_clear_33 rfl rfl ?_
    refine f_need (fun c8 => ?_)
    refine f_aldB (pc := 34) cx (kf_7_2 hk_o0) c8 dX8_clear_34 ?_
    refine f_bind (fun r9 hr9 => ?_)
    refine k_X8_86 (pc := 35) cx (c_X0_clear l G _ (o0 + 16 + 1 + Int32.toNatClampNeg q.2) (ka_b (kf_7_2 hk_o0) c8) r9 hr9) (ka_b (kf_7_2 hk_o0) c8) ⟨by decide, by decide⟩ ⟨Nat.zero_le _, Nat.zero_le _⟩ (Nat.le_of_ble_eq_true rfl) dX8_clear_35 ?_
    refine f_iinc1 (pc := 38) cx dX8_clear_38 kc_iconst_1 (by decide) rfl ?_
    refine f_goto (pc := 41) (tgt := 23) cx dX8_clear_41 (by decide) ?_
    exact f_weak (LSb.s (LSb.s LSb.e)) (hk23 (r9, q.2 + 1))
set_option maxRecDepth 4000 in
theorem s_X8_clear {p : Program} {l : Launch} {e : Env} {s : State} {m : MethodId} {args : Array Value} {below : List Frame} {meth : Method} {c : Code} {G : GT} (cx : CX p s m args c cX8_clear 2 RX8 G) (hr : meth.sig.returnType = none) (hlk : meth.locks = false) (h : Hp) (o0 : Nat) (hk_o0 : kd o0 = 7) : PF p l e (rmc 2 43) s m args below meth c 2 G 0 0 (QV below G args s) 0 [some (.ref (gad G o0)), none] [] h (p_X8_clear h o0) := by
  unfold p_X8_clear
  refine g_X8_74 (pc := 0) cx dX8_clear_0 ?_
  refine f_iconst (pc := 3) cx dX8_clear_3 kc_iconst_0 ?_
  refine f_aload_n (pc := 4) cx dX8_clear_4 rfl rfl ?_
  refine g_X8_9 (pc := 5) cx hk_o0 dX8_clear_5 ?_
  refine f_iconst (pc := 8) cx dX8_clear_8 kc_iconst_0 ?_
  refine f_bipush (pc := 9) cx dX8_clear_9 kc_bipush_8 ?_
  refine f_acT (pc := 11) (j := 3) (n1 := 8) cx (by decide) (kf_7_0 hk_o0) (by decide) (by decide) w_417 w_419 w_418 w_102 ⟨by decide, by decide⟩ (Nat.le_of_ble_eq_true rfl) dX8_clear_11 ?_
  refine f_nvh (fun h10 => ?_)
  refine f_aload_n (pc := 14) cx dX8_clear_14 rfl rfl ?_
  refine g_X8_18 (pc := 15) cx hk_o0 dX8_clear_15 ?_
  refine f_bind (fun r11 hr11 => ?_)
  refine k_X8_83 (pc := 18) cx (c_X1_clear l G _ (o0 + 2) (kf_7_1 hk_o0) r11 hr11) (kf_7_1 hk_o0) ⟨by decide, by decide⟩ ⟨Nat.zero_le _, Nat.zero_le _⟩ (Nat.le_of_ble_eq_true rfl) dX8_clear_18 ?_
  refine f_iconst (pc := 21) cx dX8_clear_21 kc_iconst_0 ?_
  refine f_istore1 (pc := 22) cx dX8_clear_22 (by decide) rfl ?_
  exact f_weak (LSb.s (LSb.s LSb.e)) (s_X8_clear_23 cx hr hlk o0 hk_o0 FU (r11, 0))
set_option maxRecDepth 4000 in
theorem c_X8_clear (l : Launch) (G : GT) (h : Hp) (o0 : Nat) (hk_o0 : kd o0 = 7) : CtV l G yX8_clear cX8_clear 2 none 2 43 [.ref (gad G o0)] h (p_X8_clear h o0) := fun a ha => Ct.of (lv := [some (.ref (gad G o0)), none]) (by decide) rfl (Nat.le_of_ble_eq_true rfl) rfl (fun p e s m args below meth c cx hr hlk => s_X8_clear cx hr hlk h o0 hk_o0 a ha)
def b_X8_copyFrom_68 (o0 : Nat) (o1 : Nat) (k68 : Hp × Int32 → Option Hp) (q : Hp × Int32) : Option Hp :=
  if 4 ≤ q.2 then (nv (hp q.1 o0 6 (q.1 o1 6)) fun h1 => nv (hp h1 o0 7 (h1 o1 7)) fun h2 => nv (hp h2 o0 8 (h2 o1 8)) fun h3 => nv (hp h3 o0 9 (h3 o1 9)) fun h4 => nv (hp h4 o0 10 (h4 o1 10)) fun h5 => some h5) else (if ib q.2 4 then (if ib q.2 4 then (Option.bind (p_X5_copyFrom q.1 (o0 + 35 + 1 + Int32.toNatClampNeg q.2) (o1 + 35 + 1 + Int32.toNatClampNeg q.2)) fun r8 => k68 (r8, q.2 + 1)) else none) else none)
def b_X8_copyFrom_28 (o0 : Nat) (o1 : Nat) (k28 : Hp × Int32 → Option Hp) (q : Hp × Int32) : Option Hp :=
  if 16 ≤ q.2 then (Option.bind (p_X2_copyFrom q.1 (o0 + 33) (o1 + 33)) fun r9 => lp (b_X8_copyFrom_68 o0 o1) FU (r9, 0)) else (if ib q.2 16 then (if ib q.2 16 then (Option.bind (p_X0_copyFrom q.1 (o0 + 16 + 1 + Int32.toNatClampNeg q.2) (o1 + 16 + 1 + Int32.toNatClampNeg q.2)) fun r12 => k28 (r12, q.2 + 1)) else none) else none)
def p_X8_copyFrom (h : Hp) (o0 : Nat) (o1 : Nat) : Option Hp :=
  nv (va_up h (o0 + 1) (va_cpy (h (o1 + 1)) (h (o0 + 1)) 0 0 (Int32.toNatClampNeg 8))) fun h13 => Option.bind (p_X1_copyFrom h13 (o0 + 2) (o1 + 2)) fun r14 => lp (b_X8_copyFrom_28 o0 o1) FU (r14, 0)
set_option maxRecDepth 4000 in
theorem s_X8_copyFrom_68 {p : Program} {l : Launch} {e : Env} {s : State} {m : MethodId} {args : Array Value} {below : List Frame} {meth : Method} {c : Code} {G : GT} (cx : CX p s m args c cX8_copyFrom 3 RX8 G) (hr : meth.sig.returnType = none) (hlk : meth.locks = false) (o0 : Nat) (o1 : Nat) (hk_o0 : kd o0 = 7) (hk_o1 : kd o1 = 7) : ∀ (n : Nat) (q : Hp × Int32), PF p l e (rmc 2 48) s m args below meth c 3 G 0 0 (QV below G args s) 68 [some (.ref (gad G o0)), some (.ref (gad G o1)), some (.int q.2)] [] q.1 (lp (b_X8_copyFrom_68 o0 o1) n q) := by
  refine f_lp (lvf := fun (q : Hp × Int32) => [some (.ref (gad G o0)), some (.ref (gad G o1)), some (.int q.2)]) (hf := fun (q : Hp × Int32) => q.1) (fun k68 hk68 q => ?_)
  show PF p l e (rmc 2 48) s m args below meth c 3 G 0 0 (QV below G args s) 68 [some (.ref (gad G o0)), some (.ref (gad G o1)), some (.int q.2)] [] q.1 (b_X8_copyFrom_68 o0 o1 k68 q)
  unfold b_X8_copyFrom_68
  refine f_iload_n (pc := 68) cx dX8_copyFrom_68 rfl rfl ?_
  refine f_iconst (pc := 69) cx dX8_copyFrom_69 kc_iconst_4 ?_
  refine f_icmp_ge (pc := 70) (tgt := 94) cx dX8_copyFrom_70 (by decide) (fun _ => ?_) (fun _ => ?_)
  · refine f_aload_n (pc := 94) cx dX8_copyFrom_94 rfl rfl ?_
    refine f_aload_n (pc := 95) cx dX8_copyFrom_95 rfl rfl ?_
    refine g_X8_48 (pc := 96) cx hk_o1 dX8_copyFrom_96 ?_
    refine u_X8_48 (pc := 99) cx hk_o0 dX8_copyFrom_99 ?_
    refine f_nvh (fun h1 => ?_)
    refine f_aload_n (pc := 102) cx dX8_copyFrom_102 rfl rfl ?_
    refine f_aload_n (pc := 103) cx dX8_copyFrom_103 rfl rfl ?_
    refine g_X8_52 (pc := 104) cx hk_o1 dX8_copyFrom_104 ?_
    refine u_X8_52 (pc := 107) cx hk_o0 dX8_copyFrom_107 ?_
    refine f_nvh (fun h2 => ?_)
    refine f_aload_n (pc := 110) cx dX8_copyFrom_110 rfl rfl ?_
    refine f_aload_n (pc := 111) cx dX8_copyFrom_111 rfl rfl ?_
    refine g_X8_55 (pc := 112) cx hk_o1 dX8_copyFrom_112 ?_
    refine u_X8_55 (pc := 115) cx hk_o0 dX8_copyFrom_115 ?_
    refine f_nvh (fun h3 => ?_)
    refine f_aload_n (pc := 118) cx dX8_copyFrom_118 rfl rfl ?_
    refine f_aload_n (pc := 119) cx dX8_copyFrom_119 rfl rfl ?_
    refine g_X8_58 (pc := 120) cx hk_o1 dX8_copyFrom_120 ?_
    refine u_X8_58 (pc := 123) cx hk_o0 dX8_copyFrom_123 ?_
    refine f_nvh (fun h4 => ?_)
    refine f_aload_n (pc := 126) cx dX8_copyFrom_126 rfl rfl ?_
    refine f_aload_n (pc := 127) cx dX8_copyFrom_127 rfl rfl ?_
    refine g_X8_61 (pc := 128) cx hk_o1 dX8_copyFrom_128 ?_
    refine u_X8_61 (pc := 131) cx hk_o0 dX8_copyFrom_131 ?_
    refine f_nvh (fun h5 => ?_)
    exact f_vret cx hr hlk dX8_copyFrom_134
  · refine f_aload_n (pc := 73) cx dX8_copyFrom_73 rfl rfl ?_
    refine g_X8_37 (pc := 74) cx hk_o0 dX8_copyFrom_74 ?_
    refine f_iload_n (pc := 77) cx dX8_copyFrom_77 rfl rfl ?_
    refine f_need (fun c6 => ?_)
    refine f_aldS (pc := 78) cx (kf_7_4 hk_o0) c6 dX8_copyFrom_78 ?_
    refine f_aload_n (pc := 79) cx dX8_copyFrom_79 rfl rfl ?_
    refine g_X8_37 (pc := 80) cx hk_o1 dX8_copyFrom_80 ?_
    refine f_iload_n (pc := 83) cx dX8_copyFrom_83 rfl rfl ?_
    refine f_need (fun c7 => ?_)
    refine f_aldS (pc := 84) cx (kf_7_4 hk_o1) c7 dX8_copyFrom_84 ?_
    refine f_bind (fun r8 hr8 => ?_)
    refine k_X8_101 (pc := 85) cx (c_X5_copyFrom l G _ (o0 + 35 + 1 + Int32.toNatClampNeg q.2) (o1 + 35 + 1 + Int32.toNatClampNeg q.2) (ka_s (kf_7_4 hk_o0) c6) (ka_s (kf_7_4 hk_o1) c7) r8 hr8) (ka_s (kf_7_4 hk_o0) c6) ⟨by decide, by decide⟩ ⟨Nat.zero_le _, Nat.zero_le _⟩ (Nat.le_of_ble_eq_true rfl) dX8_copyFrom_85 ?_
    refine f_iinc2 (pc := 88) cx dX8_copyFrom_88 kc_iconst_1 (by decide) rfl ?_
    refine f_goto (pc := 91) (tgt := 68) cx dX8_copyFrom_91 (by decide) ?_
    exact f_weak (LSb.s (LSb.s (LSb.s LSb.e))) (hk68 (r8, q.2 + 1))
set_option maxRecDepth 4000 in
theorem s_X8_copyFrom_28 {p : Program} {l : Launch} {e : Env} {s : State} {m : MethodId} {args : Array Value} {below : List Frame} {meth : Method} {c : Code} {G : GT} (cx : CX p s m args c cX8_copyFrom 3 RX8 G) (hr : meth.sig.returnType = none) (hlk : meth.locks = false) (o0 : Nat) (o1 : Nat) (hk_o0 : kd o0 = 7) (hk_o1 : kd o1 = 7) : ∀ (n : Nat) (q : Hp × Int32), PF p l e (rmc 2 48) s m args below meth c 3 G 0 0 (QV below G args s) 28 [some (.ref (gad G o0)), some (.ref (gad G o1)), some (.int q.2)] [] q.1 (lp (b_X8_copyFrom_28 o0 o1) n q) := by
  refine f_lp (lvf := fun (q : Hp × Int32) => [some (.ref (gad G o0)), some (.ref (gad G o1)), some (.int q.2)]) (hf := fun (q : Hp × Int32) => q.1) (fun k28 hk28 q => ?_)
  show PF p l e (rmc 2 48) s m args below meth c 3 G 0 0 (QV below G args s) 28 [some (.ref (gad G o0)), some (.ref (gad G o1)), some (.int q.2)] [] q.1 (b_X8_copyFrom_28 o0 o1 k28 q)
  unfold b_X8_copyFrom_28
  refine f_iload_n (pc := 28) cx dX8_copyFrom_28 rfl rfl ?_
  refine f_bipush (pc := 29) cx dX8_copyFrom_29 kc_bipush_16 ?_
  refine f_icmp_ge (pc := 31) (tgt := 55) cx dX8_copyFrom_31 (by decide) (fun _ => ?_) (fun _ => ?_)
  · refine f_aload_n (pc := 55) cx dX8_copyFrom_55 rfl rfl ?_
    refine g_X8_31 (pc := 56) cx hk_o0 dX8_copyFrom_56 ?_
    refine f_aload_n (pc := 59) cx dX8_copyFrom_59 rfl rfl ?_
    refine g_X8_31 (pc := 60) cx hk_o1 dX8_copyFrom_60 ?_
    refine f_bind (fun r9 hr9 => ?_)
    refine k_X8_98 (pc := 63) cx (c_X2_copyFrom l G _ (o0 + 33) (o1 + 33) (kf_7_3 hk_o0) (kf_7_3 hk_o1) r9 hr9) (kf_7_3 hk_o0) ⟨by decide, by decide⟩ ⟨Nat.zero_le _, Nat.zero_le _⟩ (Nat.le_of_ble_eq_true rfl) dX8_copyFrom_63 ?_
    refine f_iconst (pc := 66) cx dX8_copyFrom_66 kc_iconst_0 ?_
    refine f_istore2 (pc := 67) cx dX8_copyFrom_67 (by decide) rfl ?_
    exact f_weak (LSb.s (LSb.s (LSb.s LSb.e))) (s_X8_copyFrom_68 cx hr hlk o0 o1 hk_o0 hk_o1 FU (r9, 0))
  · refine f_aload_n (pc := 34) cx dX8_copyFrom_34 rfl rfl ?_
    refine g_X8_24 (pc := 35) cx hk_o0 dX8_copyFrom_35 ?_
    refine f_iload_n (pc := 38) cx dX8_copyFrom_38 rfl rfl ?_
    refine f_need (fun c10 => ?_)
    refine f_aldB (pc := 39) cx (kf_7_2 hk_o0) c10 dX8_copyFrom_39 ?_
    refine f_aload_n (pc := 40) cx dX8_copyFrom_40 rfl rfl ?_
    refine g_X8_24 (pc := 41) cx hk_o1 dX8_copyFrom_41 ?_
    refine f_iload_n (pc := 44) cx dX8_copyFrom_44 rfl rfl ?_
    refine f_need (fun c11 => ?_)
    refine f_aldB (pc := 45) cx (kf_7_2 hk_o1) c11 dX8_copyFrom_45 ?_
    refine f_bind (fun r12 hr12 => ?_)
    refine k_X8_95 (pc := 46) cx (c_X0_copyFrom l G _ (o0 + 16 + 1 + Int32.toNatClampNeg q.2) (o1 + 16 + 1 + Int32.toNatClampNeg q.2) (ka_b (kf_7_2 hk_o0) c10) (ka_b (kf_7_2 hk_o1) c11) r12 hr12) (ka_b (kf_7_2 hk_o0) c10) ⟨by decide, by decide⟩ ⟨Nat.zero_le _, Nat.zero_le _⟩ (Nat.le_of_ble_eq_true rfl) dX8_copyFrom_46 ?_
    refine f_iinc2 (pc := 49) cx dX8_copyFrom_49 kc_iconst_1 (by decide) rfl ?_
    refine f_goto (pc := 52) (tgt := 28) cx dX8_copyFrom_52 (by decide) ?_
    exact f_weak (LSb.s (LSb.s (LSb.s LSb.e))) (hk28 (r12, q.2 + 1))
set_option maxRecDepth 4000 in
theorem s_X8_copyFrom {p : Program} {l : Launch} {e : Env} {s : State} {m : MethodId} {args : Array Value} {below : List Frame} {meth : Method} {c : Code} {G : GT} (cx : CX p s m args c cX8_copyFrom 3 RX8 G) (hr : meth.sig.returnType = none) (hlk : meth.locks = false) (h : Hp) (o0 : Nat) (o1 : Nat) (hk_o0 : kd o0 = 7) (hk_o1 : kd o1 = 7) : PF p l e (rmc 2 48) s m args below meth c 3 G 0 0 (QV below G args s) 0 [some (.ref (gad G o0)), some (.ref (gad G o1)), none] [] h (p_X8_copyFrom h o0 o1) := by
  unfold p_X8_copyFrom
  refine f_aload_n (pc := 0) cx dX8_copyFrom_0 rfl rfl ?_
  refine g_X8_9 (pc := 1) cx hk_o1 dX8_copyFrom_1 ?_
  refine f_iconst (pc := 4) cx dX8_copyFrom_4 kc_iconst_0 ?_
  refine f_aload_n (pc := 5) cx dX8_copyFrom_5 rfl rfl ?_
  refine g_X8_9 (pc := 6) cx hk_o0 dX8_copyFrom_6 ?_
  refine f_iconst (pc := 9) cx dX8_copyFrom_9 kc_iconst_0 ?_
  refine f_bipush (pc := 10) cx dX8_copyFrom_10 kc_bipush_8 ?_
  refine f_ac (pc := 12) (n0 := 8) (n1 := 8) cx (kf_7_0 hk_o1) (kf_7_0 hk_o0) (by decide) (by decide) (by decide) w_417 w_419 w_418 w_102 ⟨by decide, by decide⟩ (Nat.le_of_ble_eq_true rfl) dX8_copyFrom_12 ?_
  refine f_nvh (fun h13 => ?_)
  refine f_aload_n (pc := 15) cx dX8_copyFrom_15 rfl rfl ?_
  refine g_X8_18 (pc := 16) cx hk_o0 dX8_copyFrom_16 ?_
  refine f_aload_n (pc := 19) cx dX8_copyFrom_19 rfl rfl ?_
  refine g_X8_18 (pc := 20) cx hk_o1 dX8_copyFrom_20 ?_
  refine f_bind (fun r14 hr14 => ?_)
  refine k_X8_91 (pc := 23) cx (c_X1_copyFrom l G _ (o0 + 2) (o1 + 2) (kf_7_1 hk_o0) (kf_7_1 hk_o1) r14 hr14) (kf_7_1 hk_o0) ⟨by decide, by decide⟩ ⟨Nat.zero_le _, Nat.zero_le _⟩ (Nat.le_of_ble_eq_true rfl) dX8_copyFrom_23 ?_
  refine f_iconst (pc := 26) cx dX8_copyFrom_26 kc_iconst_0 ?_
  refine f_istore2 (pc := 27) cx dX8_copyFrom_27 (by decide) rfl ?_
  exact f_weak (LSb.s (LSb.s (LSb.s LSb.e))) (s_X8_copyFrom_28 cx hr hlk o0 o1 hk_o0 hk_o1 FU (r14, 0))
set_option maxRecDepth 4000 in
theorem c_X8_copyFrom (l : Launch) (G : GT) (h : Hp) (o0 : Nat) (o1 : Nat) (hk_o0 : kd o0 = 7) (hk_o1 : kd o1 = 7) : CtV l G yX8_copyFrom cX8_copyFrom 3 none 2 48 [.ref (gad G o0), .ref (gad G o1)] h (p_X8_copyFrom h o0 o1) := fun a ha => Ct.of (lv := [some (.ref (gad G o0)), some (.ref (gad G o1)), none]) (by decide) rfl (Nat.le_of_ble_eq_true rfl) rfl (fun p e s m args below meth c cx hr hlk => s_X8_copyFrom cx hr hlk h o0 o1 hk_o0 hk_o1 a ha)
def p_X8_bucketCount (h : Hp) (o0 : Nat) : Option (Int32 × Hp) :=
  some ((h (o0 + 1) 3) * (h (o0 + 1) 4), h)
set_option maxRecDepth 4000 in
theorem s_X8_bucketCount {p : Program} {l : Launch} {e : Env} {s : State} {m : MethodId} {args : Array Value} {below : List Frame} {meth : Method} {c : Code} {G : GT} (cx : CX p s m args c cX8_bucketCount 1 RX8 G) (hr : meth.sig.returnType = (some .int)) (hlk : meth.locks = false) (h : Hp) (o0 : Nat) (hk_o0 : kd o0 = 7) : PF p l e (rmc 0 0) s m args below meth c 1 G 0 0 (QI below G args s) 0 [some (.ref (gad G o0))] [] h (p_X8_bucketCount h o0) := by
  unfold p_X8_bucketCount
  refine f_aload_n (pc := 0) cx dX8_bucketCount_0 rfl rfl ?_
  refine g_X8_9 (pc := 1) cx hk_o0 dX8_bucketCount_1 ?_
  refine f_iconst (pc := 4) cx dX8_bucketCount_4 kc_iconst_3 ?_
  refine f_ialdk (pc := 5) (j := 3) (n := 8) cx (kf_7_0 hk_o0) (by decide) (by decide) kl_3 dX8_bucketCount_5 ?_
  refine f_aload_n (pc := 6) cx dX8_bucketCount_6 rfl rfl ?_
  refine g_X8_9 (pc := 7) cx hk_o0 dX8_bucketCount_7 ?_
  refine f_iconst (pc := 10) cx dX8_bucketCount_10 kc_iconst_4 ?_
  refine f_ialdk (pc := 11) (j := 4) (n := 8) cx (kf_7_0 hk_o0) (by decide) (by decide) kl_4 dX8_bucketCount_11 ?_
  refine f_imul (pc := 12) cx dX8_bucketCount_12 ?_
  exact f_iret cx hr hlk rfl dX8_bucketCount_13
set_option maxRecDepth 4000 in
theorem c_X8_bucketCount (l : Launch) (G : GT) (h : Hp) (o0 : Nat) (hk_o0 : kd o0 = 7) : CtI l G yX8_bucketCount cX8_bucketCount 1 (some .int) 0 0 [.ref (gad G o0)] h (p_X8_bucketCount h o0) := fun a ha => Ct.of (lv := [some (.ref (gad G o0))]) (by decide) rfl (Nat.le_of_ble_eq_true rfl) rfl (fun p e s m args below meth c cx hr hlk => s_X8_bucketCount cx hr hlk h o0 hk_o0 a ha)
def p_X8_setOf (h : Hp) (o0 : Nat) (x1 : Int32) : Option (Int32 × Hp) :=
  Option.bind (p_X9_remainder h (((x1 * 40503) &&& 65535) >>> (8 &&& 31)) (h (o0 + 1) 3)) fun r1 => some (r1.1, r1.2)
set_option maxRecDepth 4000 in
theorem s_X8_setOf {p : Program} {l : Launch} {e : Env} {s : State} {m : MethodId} {args : Array Value} {below : List Frame} {meth : Method} {c : Code} {G : GT} (cx : CX p s m args c cX8_setOf 2 RX8 G) (hr : meth.sig.returnType = (some .int)) (hlk : meth.locks = false) (h : Hp) (o0 : Nat) (x1 : Int32) (hk_o0 : kd o0 = 7) : PF p l e (rmc 1 21) s m args below meth c 2 G 0 0 (QI below G args s) 0 [some (.ref (gad G o0)), some (.int x1)] [] h (p_X8_setOf h o0 x1) := by
  unfold p_X8_setOf
  refine f_iload_n (pc := 0) cx dX8_setOf_0 rfl rfl ?_
  refine f_ldc (pc := 1) cx w_695 dX8_setOf_1 ?_
  refine f_imul (pc := 3) cx dX8_setOf_3 ?_
  refine f_ldc (pc := 4) cx w_696 dX8_setOf_4 ?_
  refine f_iand (pc := 6) cx dX8_setOf_6 ?_
  refine f_bipush (pc := 7) cx dX8_setOf_7 kc_bipush_8 ?_
  refine f_ishr (pc := 9) cx dX8_setOf_9 ?_
  refine f_aload_n (pc := 10) cx dX8_setOf_10 rfl rfl ?_
  refine g_X8_9 (pc := 11) cx hk_o0 dX8_setOf_11 ?_
  refine f_iconst (pc := 14) cx dX8_setOf_14 kc_iconst_3 ?_
  refine f_ialdk (pc := 15) (j := 3) (n := 8) cx (kf_7_0 hk_o0) (by decide) (by decide) kl_3 dX8_setOf_15 ?_
  refine f_bind (fun r1 hr1 => ?_)
  refine k_X8_110 (pc := 16) cx (c_X9_remainder l G _ (((x1 * 40503) &&& 65535) >>> (8 &&& 31)) (h (o0 + 1) 3) r1 hr1) ⟨by decide, by decide⟩ ⟨Nat.zero_le _, Nat.zero_le _⟩ (Nat.le_of_ble_eq_true rfl) dX8_setOf_16 ?_
  exact f_iret cx hr hlk rfl dX8_setOf_19
set_option maxRecDepth 4000 in
theorem c_X8_setOf (l : Launch) (G : GT) (h : Hp) (o0 : Nat) (x1 : Int32) (hk_o0 : kd o0 = 7) : CtI l G yX8_setOf cX8_setOf 2 (some .int) 1 21 [.ref (gad G o0), .int x1] h (p_X8_setOf h o0 x1) := fun a ha => Ct.of (lv := [some (.ref (gad G o0)), some (.int x1)]) (by decide) rfl (Nat.le_of_ble_eq_true rfl) rfl (fun p e s m args below meth c cx hr hlk => s_X8_setOf cx hr hlk h o0 x1 hk_o0 a ha)
def p_X8_addSender (h : Hp) (o0 : Nat) (o1 : Nat) (x2 : Int32) : Option Hp :=
  if 4 ≤ (h o0 6) then (some h) else (if ib (h o0 6) 4 then (Option.bind (p_X5_begin h (o0 + 35 + 1 + Int32.toNatClampNeg (h o0 6)) o1 x2) fun r2 => nv (hp r2 o0 6 ((r2 o0 6) + 1)) fun h3 => some h3) else none)
set_option maxRecDepth 4000 in
theorem s_X8_addSender {p : Program} {l : Launch} {e : Env} {s : State} {m : MethodId} {args : Array Value} {below : List Frame} {meth : Method} {c : Code} {G : GT} (cx : CX p s m args c cX8_addSender 3 RX8 G) (hr : meth.sig.returnType = none) (hlk : meth.locks = false) (h : Hp) (o0 : Nat) (o1 : Nat) (x2 : Int32) (hk_o0 : kd o0 = 7) (hk_o1 : kd o1 = 3) : PF p l e (rmc 2 43) s m args below meth c 3 G 0 0 (QV below G args s) 0 [some (.ref (gad G o0)), some (.ref (gad G o1)), some (.int x2)] [] h (p_X8_addSender h o0 o1 x2) := by
  unfold p_X8_addSender
  refine f_aload_n (pc := 0) cx dX8_addSender_0 rfl rfl ?_
  refine g_X8_48 (pc := 1) cx hk_o0 dX8_addSender_1 ?_
  refine f_iconst (pc := 4) cx dX8_addSender_4 kc_iconst_4 ?_
  refine f_icmp_ge (pc := 5) (tgt := 32) cx dX8_addSender_5 (by decide) (fun _ => ?_) (fun _ => ?_)
  · exact f_vret cx hr hlk dX8_addSender_32
  · refine f_aload_n (pc := 8) cx dX8_addSender_8 rfl rfl ?_
    refine g_X8_37 (pc := 9) cx hk_o0 dX8_addSender_9 ?_
    refine f_aload_n (pc := 12) cx dX8_addSender_12 rfl rfl ?_
    refine g_X8_48 (pc := 13) cx hk_o0 dX8_addSender_13 ?_
    refine f_need (fun c1 => ?_)
    refine f_aldS (pc := 16) cx (kf_7_4 hk_o0) c1 dX8_addSender_16 ?_
    refine f_aload_n (pc := 17) cx dX8_addSender_17 rfl rfl ?_
    refine f_iload_n (pc := 18) cx dX8_addSender_18 rfl rfl ?_
    refine f_bind (fun r2 hr2 => ?_)
    refine k_X8_129 (pc := 19) cx (c_X5_begin l G _ (o0 + 35 + 1 + Int32.toNatClampNeg (h o0 6)) o1 x2 (ka_s (kf_7_4 hk_o0) c1) hk_o1 r2 hr2) (ka_s (kf_7_4 hk_o0) c1) ⟨by decide, by decide⟩ ⟨Nat.zero_le _, Nat.zero_le _⟩ (Nat.le_of_ble_eq_true rfl) dX8_addSender_19 ?_
    refine f_aload_n (pc := 22) cx dX8_addSender_22 rfl rfl ?_
    refine f_dup (pc := 23) cx dX8_addSender_23 rfl ?_
    refine g_X8_48 (pc := 24) cx hk_o0 dX8_addSender_24 ?_
    refine f_iconst (pc := 27) cx dX8_addSender_27 kc_iconst_1 ?_
    refine f_iadd (pc := 28) cx dX8_addSender_28 ?_
    refine u_X8_48 (pc := 29) cx hk_o0 dX8_addSender_29 ?_
    refine f_nvh (fun h3 => ?_)
    exact f_vret cx hr hlk dX8_addSender_32
set_option maxRecDepth 4000 in
theorem c_X8_addSender (l : Launch) (G : GT) (h : Hp) (o0 : Nat) (o1 : Nat) (x2 : Int32) (hk_o0 : kd o0 = 7) (hk_o1 : kd o1 = 3) : CtV l G yX8_addSender cX8_addSender 3 none 2 43 [.ref (gad G o0), .ref (gad G o1), .int x2] h (p_X8_addSender h o0 o1 x2) := fun a ha => Ct.of (lv := [some (.ref (gad G o0)), some (.ref (gad G o1)), some (.int x2)]) (by decide) rfl (Nat.le_of_ble_eq_true rfl) rfl (fun p e s m args below meth c cx hr hlk => s_X8_addSender cx hr hlk h o0 o1 x2 hk_o0 hk_o1 a ha)
def q_X8_link_47 (h : Hp) (o0 : Nat) (o1 : Nat) (x2 : Int32) : Option Hp :=
  nv (hp h o1 2 x2) fun h1 => nv (hp h1 o1 3 ((h1 o1 3) + 1)) fun h2 => if ib x2 200 then (nv (hp h2 o1 4 ((h2 o1 4) + (h2 (o0 + 2 + 2) (Int32.toNatClampNeg x2)))) fun h4 => nv (hp h4 o0 8 ((h4 o0 8) + 1)) fun h5 => if ib x2 200 then (nv (hp h5 o0 9 ((h5 o0 9) + (h5 (o0 + 2 + 2) (Int32.toNatClampNeg x2)))) fun h7 => some h7) else none) else none
def p_X8_link (h : Hp) (o0 : Nat) (o1 : Nat) (x2 : Int32) : Option Hp :=
  Option.bind (p_X1_has h (o0 + 2) x2) fun r8 => if r8.1 = 0 then (some r8.2) else (Option.bind (p_X1_has r8.2 (o0 + 2) (r8.2 o1 2)) fun r9 => if r9.1 = 0 then (nv (hp r9.2 o1 1 x2) fun h10 => q_X8_link_47 h10 o0 o1 x2) else (if ib (r9.2 o1 2) 200 then (nv (hp r9.2 (o0 + 2 + 11) (Int32.toNatClampNeg (r9.2 o1 2)) x2) fun h12 => q_X8_link_47 h12 o0 o1 x2) else none))
set_option maxRecDepth 4000 in
theorem s_X8_link_47 {p : Program} {l : Launch} {e : Env} {s : State} {m : MethodId} {args : Array Value} {below : List Frame} {meth : Method} {c : Code} {G : GT} (cx : CX p s m args c cX8_link 3 RX8 G) (hr : meth.sig.returnType = none) (hlk : meth.locks = false) (h : Hp) (o0 : Nat) (o1 : Nat) (x2 : Int32) (hk_o0 : kd o0 = 7) (hk_o1 : kd o1 = 0) : PF p l e (rmc 1 21) s m args below meth c 3 G 0 0 (QV below G args s) 47 [some (.ref (gad G o0)), some (.ref (gad G o1)), some (.int x2)] [] h (q_X8_link_47 h o0 o1 x2) := by
  unfold q_X8_link_47
  refine f_aload_n (pc := 47) cx dX8_link_47 rfl rfl ?_
  refine f_iload_n (pc := 48) cx dX8_link_48 rfl rfl ?_
  refine u_X8_165 (pc := 49) cx hk_o1 dX8_link_49 ?_
  refine f_nvh (fun h1 => ?_)
  refine f_aload_n (pc := 52) cx dX8_link_52 rfl rfl ?_
  refine f_dup (pc := 53) cx dX8_link_53 rfl ?_
  refine g_X8_174 (pc := 54) cx hk_o1 dX8_link_54 ?_
  refine f_iconst (pc := 57) cx dX8_link_57 kc_iconst_1 ?_
  refine f_iadd (pc := 58) cx dX8_link_58 ?_
  refine u_X8_174 (pc := 59) cx hk_o1 dX8_link_59 ?_
  refine f_nvh (fun h2 => ?_)
  refine f_aload_n (pc := 62) cx dX8_link_62 rfl rfl ?_
  refine f_dup (pc := 63) cx dX8_link_63 rfl ?_
  refine g_X8_176 (pc := 64) cx hk_o1 dX8_link_64 ?_
  refine f_aload_n (pc := 67) cx dX8_link_67 rfl rfl ?_
  refine g_X8_18 (pc := 68) cx hk_o0 dX8_link_68 ?_
  refine g_X8_179 (pc := 71) cx (kf_7_1 hk_o0) dX8_link_71 ?_
  refine f_iload_n (pc := 74) cx dX8_link_74 rfl rfl ?_
  refine f_need (fun c3 => ?_)
  refine f_iald (pc := 75) (n := 200) cx (kf_1_1 (kf_7_1 hk_o0)) (by decide) c3 dX8_link_75 ?_
  refine f_iadd (pc := 76) cx dX8_link_76 ?_
  refine u_X8_176 (pc := 77) cx hk_o1 dX8_link_77 ?_
  refine f_nvh (fun h4 => ?_)
  refine f_aload_n (pc := 80) cx dX8_link_80 rfl rfl ?_
  refine f_dup (pc := 81) cx dX8_link_81 rfl ?_
  refine g_X8_55 (pc := 82) cx hk_o0 dX8_link_82 ?_
  refine f_iconst (pc := 85) cx dX8_link_85 kc_iconst_1 ?_
  refine f_iadd (pc := 86) cx dX8_link_86 ?_
  refine u_X8_55 (pc := 87) cx hk_o0 dX8_link_87 ?_
  refine f_nvh (fun h5 => ?_)
  refine f_aload_n (pc := 90) cx dX8_link_90 rfl rfl ?_
  refine f_dup (pc := 91) cx dX8_link_91 rfl ?_
  refine g_X8_58 (pc := 92) cx hk_o0 dX8_link_92 ?_
  refine f_aload_n (pc := 95) cx dX8_link_95 rfl rfl ?_
  refine g_X8_18 (pc := 96) cx hk_o0 dX8_link_96 ?_
  refine g_X8_179 (pc := 99) cx (kf_7_1 hk_o0) dX8_link_99 ?_
  refine f_iload_n (pc := 102) cx dX8_link_102 rfl rfl ?_
  refine f_need (fun c6 => ?_)
  refine f_iald (pc := 103) (n := 200) cx (kf_1_1 (kf_7_1 hk_o0)) (by decide) c6 dX8_link_103 ?_
  refine f_iadd (pc := 104) cx dX8_link_104 ?_
  refine u_X8_58 (pc := 105) cx hk_o0 dX8_link_105 ?_
  refine f_nvh (fun h7 => ?_)
  exact f_vret cx hr hlk dX8_link_108
set_option maxRecDepth 4000 in
theorem s_X8_link {p : Program} {l : Launch} {e : Env} {s : State} {m : MethodId} {args : Array Value} {below : List Frame} {meth : Method} {c : Code} {G : GT} (cx : CX p s m args c cX8_link 3 RX8 G) (hr : meth.sig.returnType = none) (hlk : meth.locks = false) (h : Hp) (o0 : Nat) (o1 : Nat) (x2 : Int32) (hk_o0 : kd o0 = 7) (hk_o1 : kd o1 = 0) : PF p l e (rmc 1 21) s m args below meth c 3 G 0 0 (QV below G args s) 0 [some (.ref (gad G o0)), some (.ref (gad G o1)), some (.int x2)] [] h (p_X8_link h o0 o1 x2) := by
  unfold p_X8_link
  refine f_aload_n (pc := 0) cx dX8_link_0 rfl rfl ?_
  refine g_X8_18 (pc := 1) cx hk_o0 dX8_link_1 ?_
  refine f_iload_n (pc := 4) cx dX8_link_4 rfl rfl ?_
  refine f_bind (fun r8 hr8 => ?_)
  refine k_X8_162 (pc := 5) cx (c_X1_has l G _ (o0 + 2) x2 (kf_7_1 hk_o0) r8 hr8) (kf_7_1 hk_o0) ⟨by decide, by decide⟩ ⟨Nat.zero_le _, Nat.zero_le _⟩ (Nat.le_of_ble_eq_true rfl) dX8_link_5 ?_
  refine f_if_ne (pc := 8) (tgt := 12) cx dX8_link_8 (by decide) (fun _ => ?_) (fun _ => ?_)
  · exact f_vret cx hr hlk dX8_link_11
  · refine f_aload_n (pc := 12) cx dX8_link_12 rfl rfl ?_
    refine g_X8_18 (pc := 13) cx hk_o0 dX8_link_13 ?_
    refine f_aload_n (pc := 16) cx dX8_link_16 rfl rfl ?_
    refine g_X8_165 (pc := 17) cx hk_o1 dX8_link_17 ?_
    refine f_bind (fun r9 hr9 => ?_)
    refine k_X8_162 (pc := 20) cx (c_X1_has l G _ (o0 + 2) (r8.2 o1 2) (kf_7_1 hk_o0) r9 hr9) (kf_7_1 hk_o0) ⟨by decide, by decide⟩ ⟨Nat.zero_le _, Nat.zero_le _⟩ (Nat.le_of_ble_eq_true rfl) dX8_link_20 ?_
    refine f_if_eq (pc := 23) (tgt := 42) cx dX8_link_23 (by decide) (fun _ => ?_) (fun _ => ?_)
    · refine f_aload_n (pc := 42) cx dX8_link_42 rfl rfl ?_
      refine f_iload_n (pc := 43) cx dX8_link_43 rfl rfl ?_
      refine u_X8_171 (pc := 44) cx hk_o1 dX8_link_44 ?_
      refine f_nvh (fun h10 => ?_)
      exact f_weak (LSb.s (LSb.s (LSb.s LSb.e))) (s_X8_link_47 cx hr hlk _ o0 o1 x2 hk_o0 hk_o1)
    · refine f_aload_n (pc := 26) cx dX8_link_26 rfl rfl ?_
      refine g_X8_18 (pc := 27) cx hk_o0 dX8_link_27 ?_
      refine g_X8_168 (pc := 30) cx (kf_7_1 hk_o0) dX8_link_30 ?_
      refine f_aload_n (pc := 33) cx dX8_link_33 rfl rfl ?_
      refine g_X8_165 (pc := 34) cx hk_o1 dX8_link_34 ?_
      refine f_iload_n (pc := 37) cx dX8_link_37 rfl rfl ?_
      refine f_need (fun c11 => ?_)
      refine f_iast (pc := 38) (n := 200) cx (kf_1_10 (kf_7_1 hk_o0)) (by decide) c11 dX8_link_38 ?_
      refine f_nvh (fun h12 => ?_)
      refine f_goto (pc := 39) (tgt := 47) cx dX8_link_39 (by decide) ?_
      exact f_weak (LSb.s (LSb.s (LSb.s LSb.e))) (s_X8_link_47 cx hr hlk _ o0 o1 x2 hk_o0 hk_o1)
set_option maxRecDepth 4000 in
theorem c_X8_link (l : Launch) (G : GT) (h : Hp) (o0 : Nat) (o1 : Nat) (x2 : Int32) (hk_o0 : kd o0 = 7) (hk_o1 : kd o1 = 0) : CtV l G yX8_link cX8_link 3 none 1 21 [.ref (gad G o0), .ref (gad G o1), .int x2] h (p_X8_link h o0 o1 x2) := fun a ha => Ct.of (lv := [some (.ref (gad G o0)), some (.ref (gad G o1)), some (.int x2)]) (by decide) rfl (Nat.le_of_ble_eq_true rfl) rfl (fun p e s m args below meth c cx hr hlk => s_X8_link cx hr hlk h o0 o1 x2 hk_o0 hk_o1 a ha)
def q_X8_unlink_56 (h : Hp) (o0 : Nat) (o1 : Nat) (x2 : Int32) : Option (Int32 × Hp) :=
  nv (hp h o1 3 ((h o1 3) - 1)) fun h1 => if ib x2 200 then (nv (hp h1 o1 4 ((h1 o1 4) - (h1 (o0 + 2 + 2) (Int32.toNatClampNeg x2)))) fun h3 => nv (hp h3 o0 8 ((h3 o0 8) - 1)) fun h4 => if ib x2 200 then (nv (hp h4 o0 9 ((h4 o0 9) - (h4 (o0 + 2 + 2) (Int32.toNatClampNeg x2)))) fun h6 => some (x2, h6)) else none) else none
def p_X8_unlink (h : Hp) (o0 : Nat) (o1 : Nat) : Option (Int32 × Hp) :=
  nv (h o1 1) fun v7 => if v7 < 0 then (some ((-2), h)) else (if (h (o0 + 2) 13) ≤ v7 then (some ((-2), h)) else (if v7 < 200 then (if ib v7 200 then (nv (hp h o1 1 (h (o0 + 2 + 11) (Int32.toNatClampNeg v7))) fun h9 => if 0 ≤ (h9 o1 1) then (q_X8_unlink_56 h9 o0 o1 v7) else (nv (hp h9 o1 2 (-2)) fun h10 => q_X8_unlink_56 h10 o0 o1 v7)) else none) else (some ((-2), h))))
set_option maxRecDepth 4000 in
theorem s_X8_unlink_56 {p : Program} {l : Launch} {e : Env} {s : State} {m : MethodId} {args : Array Value} {below : List Frame} {meth : Method} {c : Code} {G : GT} (cx : CX p s m args c cX8_unlink 3 RX8 G) (hr : meth.sig.returnType = (some .int)) (hlk : meth.locks = false) (h : Hp) (o0 : Nat) (o1 : Nat) (x2 : Int32) (hk_o0 : kd o0 = 7) (hk_o1 : kd o1 = 0) : PF p l e (rmc 0 0) s m args below meth c 3 G 0 0 (QI below G args s) 56 [some (.ref (gad G o0)), some (.ref (gad G o1)), some (.int x2)] [] h (q_X8_unlink_56 h o0 o1 x2) := by
  unfold q_X8_unlink_56
  refine f_aload_n (pc := 56) cx dX8_unlink_56 rfl rfl ?_
  refine f_dup (pc := 57) cx dX8_unlink_57 rfl ?_
  refine g_X8_174 (pc := 58) cx hk_o1 dX8_unlink_58 ?_
  refine f_iconst (pc := 61) cx dX8_unlink_61 kc_iconst_1 ?_
  refine f_isub (pc := 62) cx dX8_unlink_62 ?_
  refine u_X8_174 (pc := 63) cx hk_o1 dX8_unlink_63 ?_
  refine f_nvh (fun h1 => ?_)
  refine f_aload_n (pc := 66) cx dX8_unlink_66 rfl rfl ?_
  refine f_dup (pc := 67) cx dX8_unlink_67 rfl ?_
  refine g_X8_176 (pc := 68) cx hk_o1 dX8_unlink_68 ?_
  refine f_aload_n (pc := 71) cx dX8_unlink_71 rfl rfl ?_
  refine g_X8_18 (pc := 72) cx hk_o0 dX8_unlink_72 ?_
  refine g_X8_179 (pc := 75) cx (kf_7_1 hk_o0) dX8_unlink_75 ?_
  refine f_iload_n (pc := 78) cx dX8_unlink_78 rfl rfl ?_
  refine f_need (fun c2 => ?_)
  refine f_iald (pc := 79) (n := 200) cx (kf_1_1 (kf_7_1 hk_o0)) (by decide) c2 dX8_unlink_79 ?_
  refine f_isub (pc := 80) cx dX8_unlink_80 ?_
  refine u_X8_176 (pc := 81) cx hk_o1 dX8_unlink_81 ?_
  refine f_nvh (fun h3 => ?_)
  refine f_aload_n (pc := 84) cx dX8_unlink_84 rfl rfl ?_
  refine f_dup (pc := 85) cx dX8_unlink_85 rfl ?_
  refine g_X8_55 (pc := 86) cx hk_o0 dX8_unlink_86 ?_
  refine f_iconst (pc := 89) cx dX8_unlink_89 kc_iconst_1 ?_
  refine f_isub (pc := 90) cx dX8_unlink_90 ?_
  refine u_X8_55 (pc := 91) cx hk_o0 dX8_unlink_91 ?_
  refine f_nvh (fun h4 => ?_)
  refine f_aload_n (pc := 94) cx dX8_unlink_94 rfl rfl ?_
  refine f_dup (pc := 95) cx dX8_unlink_95 rfl ?_
  refine g_X8_58 (pc := 96) cx hk_o0 dX8_unlink_96 ?_
  refine f_aload_n (pc := 99) cx dX8_unlink_99 rfl rfl ?_
  refine g_X8_18 (pc := 100) cx hk_o0 dX8_unlink_100 ?_
  refine g_X8_179 (pc := 103) cx (kf_7_1 hk_o0) dX8_unlink_103 ?_
  refine f_iload_n (pc := 106) cx dX8_unlink_106 rfl rfl ?_
  refine f_need (fun c5 => ?_)
  refine f_iald (pc := 107) (n := 200) cx (kf_1_1 (kf_7_1 hk_o0)) (by decide) c5 dX8_unlink_107 ?_
  refine f_isub (pc := 108) cx dX8_unlink_108 ?_
  refine u_X8_58 (pc := 109) cx hk_o0 dX8_unlink_109 ?_
  refine f_nvh (fun h6 => ?_)
  refine f_iload_n (pc := 112) cx dX8_unlink_112 rfl rfl ?_
  exact f_iret cx hr hlk rfl dX8_unlink_113
set_option maxRecDepth 4000 in
theorem s_X8_unlink {p : Program} {l : Launch} {e : Env} {s : State} {m : MethodId} {args : Array Value} {below : List Frame} {meth : Method} {c : Code} {G : GT} (cx : CX p s m args c cX8_unlink 3 RX8 G) (hr : meth.sig.returnType = (some .int)) (hlk : meth.locks = false) (h : Hp) (o0 : Nat) (o1 : Nat) (hk_o0 : kd o0 = 7) (hk_o1 : kd o1 = 0) : PF p l e (rmc 0 0) s m args below meth c 3 G 0 0 (QI below G args s) 0 [some (.ref (gad G o0)), some (.ref (gad G o1)), none] [] h (p_X8_unlink h o0 o1) := by
  unfold p_X8_unlink
  refine f_aload_n (pc := 0) cx dX8_unlink_0 rfl rfl ?_
  refine g_X8_171 (pc := 1) cx hk_o1 dX8_unlink_1 ?_
  refine f_nvi (fun v7 => ?_)
  refine f_istore2 (pc := 4) cx dX8_unlink_4 (by decide) rfl ?_
  refine f_iload_n (pc := 5) cx dX8_unlink_5 rfl rfl ?_
  refine f_if_lt (pc := 6) (tgt := 27) cx dX8_unlink_6 (by decide) (fun _ => ?_) (fun _ => ?_)
  · refine f_bipush (pc := 27) cx dX8_unlink_27 kc_bipush_m2 ?_
    exact f_iret cx hr hlk rfl dX8_unlink_29
  · refine f_iload_n (pc := 9) cx dX8_unlink_9 rfl rfl ?_
    refine f_aload_n (pc := 10) cx dX8_unlink_10 rfl rfl ?_
    refine g_X8_18 (pc := 11) cx hk_o0 dX8_unlink_11 ?_
    refine g_X8_136 (pc := 14) cx (kf_7_1 hk_o0) dX8_unlink_14 ?_
    refine f_icmp_ge (pc := 17) (tgt := 27) cx dX8_unlink_17 (by decide) (fun _ => ?_) (fun _ => ?_)
    · refine f_bipush (pc := 27) cx dX8_unlink_27 kc_bipush_m2 ?_
      exact f_iret cx hr hlk rfl dX8_unlink_29
    · refine f_iload_n (pc := 20) cx dX8_unlink_20 rfl rfl ?_
      refine f_sipush (pc := 21) cx dX8_unlink_21 kc_sipush_200 ?_
      refine f_icmp_lt (pc := 24) (tgt := 30) cx dX8_unlink_24 (by decide) (fun _ => ?_) (fun _ => ?_)
      · refine f_aload_n (pc := 30) cx dX8_unlink_30 rfl rfl ?_
        refine f_aload_n (pc := 31) cx dX8_unlink_31 rfl rfl ?_
        refine g_X8_18 (pc := 32) cx hk_o0 dX8_unlink_32 ?_
        refine g_X8_168 (pc := 35) cx (kf_7_1 hk_o0) dX8_unlink_35 ?_
        refine f_iload_n (pc := 38) cx dX8_unlink_38 rfl rfl ?_
        refine f_need (fun c8 => ?_)
        refine f_iald (pc := 39) (n := 200) cx (kf_1_10 (kf_7_1 hk_o0)) (by decide) c8 dX8_unlink_39 ?_
        refine u_X8_171 (pc := 40) cx hk_o1 dX8_unlink_40 ?_
        refine f_nvh (fun h9 => ?_)
        refine f_aload_n (pc := 43) cx dX8_unlink_43 rfl rfl ?_
        refine g_X8_171 (pc := 44) cx hk_o1 dX8_unlink_44 ?_
        refine f_if_ge (pc := 47) (tgt := 56) cx dX8_unlink_47 (by decide) (fun _ => ?_) (fun _ => ?_)
        · exact f_weak (LSb.s (LSb.s (LSb.s LSb.e))) (s_X8_unlink_56 cx hr hlk _ o0 o1 v7 hk_o0 hk_o1)
        · refine f_aload_n (pc := 50) cx dX8_unlink_50 rfl rfl ?_
          refine f_bipush (pc := 51) cx dX8_unlink_51 kc_bipush_m2 ?_
          refine u_X8_165 (pc := 53) cx hk_o1 dX8_unlink_53 ?_
          refine f_nvh (fun h10 => ?_)
          exact f_weak (LSb.s (LSb.s (LSb.s LSb.e))) (s_X8_unlink_56 cx hr hlk _ o0 o1 v7 hk_o0 hk_o1)
      · refine f_bipush (pc := 27) cx dX8_unlink_27 kc_bipush_m2 ?_
        exact f_iret cx hr hlk rfl dX8_unlink_29
set_option maxRecDepth 4000 in
theorem c_X8_unlink (l : Launch) (G : GT) (h : Hp) (o0 : Nat) (o1 : Nat) (hk_o0 : kd o0 = 7) (hk_o1 : kd o1 = 0) : CtI l G yX8_unlink cX8_unlink 3 (some .int) 0 0 [.ref (gad G o0), .ref (gad G o1)] h (p_X8_unlink h o0 o1) := fun a ha => Ct.of (lv := [some (.ref (gad G o0)), some (.ref (gad G o1)), none]) (by decide) rfl (Nat.le_of_ble_eq_true rfl) rfl (fun p e s m args below meth c cx hr hlk => s_X8_unlink cx hr hlk h o0 o1 hk_o0 hk_o1 a ha)
def p_X8_putBack (h : Hp) (o0 : Nat) (o1 : Nat) : Option Hp :=
  nv (hp h o1 6 2) fun h1 => Option.bind (p_X2_headToOld h1 (o0 + 33)) fun r2 => some r2
set_option maxRecDepth 4000 in
theorem s_X8_putBack {p : Program} {l : Launch} {e : Env} {s : State} {m : MethodId} {args : Array Value} {below : List Frame} {meth : Method} {c : Code} {G : GT} (cx : CX p s m args c cX8_putBack 2 RX8 G) (hr : meth.sig.returnType = none) (hlk : meth.locks = false) (h : Hp) (o0 : Nat) (o1 : Nat) (hk_o0 : kd o0 = 7) (hk_o1 : kd o1 = 0) : PF p l e (rmc 3 69) s m args below meth c 2 G 0 0 (QV below G args s) 0 [some (.ref (gad G o0)), some (.ref (gad G o1))] [] h (p_X8_putBack h o0 o1) := by
  unfold p_X8_putBack
  refine f_aload_n (pc := 0) cx dX8_putBack_0 rfl rfl ?_
  refine f_iconst (pc := 1) cx dX8_putBack_1 kc_iconst_2 ?_
  refine u_X8_123 (pc := 2) cx hk_o1 dX8_putBack_2 ?_
  refine f_nvh (fun h1 => ?_)
  refine f_aload_n (pc := 5) cx dX8_putBack_5 rfl rfl ?_
  refine g_X8_31 (pc := 6) cx hk_o0 dX8_putBack_6 ?_
  refine f_bind (fun r2 hr2 => ?_)
  refine k_X8_215 (pc := 9) cx (c_X2_headToOld l G _ (o0 + 33) (kf_7_3 hk_o0) r2 hr2) (kf_7_3 hk_o0) ⟨by decide, by decide⟩ ⟨Nat.zero_le _, Nat.zero_le _⟩ (Nat.le_of_ble_eq_true rfl) dX8_putBack_9 ?_
  exact f_vret cx hr hlk dX8_putBack_12
set_option maxRecDepth 4000 in
theorem c_X8_putBack (l : Launch) (G : GT) (h : Hp) (o0 : Nat) (o1 : Nat) (hk_o0 : kd o0 = 7) (hk_o1 : kd o1 = 0) : CtV l G yX8_putBack cX8_putBack 2 none 3 69 [.ref (gad G o0), .ref (gad G o1)] h (p_X8_putBack h o0 o1) := fun a ha => Ct.of (lv := [some (.ref (gad G o0)), some (.ref (gad G o1))]) (by decide) rfl (Nat.le_of_ble_eq_true rfl) rfl (fun p e s m args below meth c cx hr hlk => s_X8_putBack cx hr hlk h o0 o1 hk_o0 hk_o1 a ha)
def p_X8_release (h : Hp) (o0 : Nat) (o1 : Nat) : Option Hp :=
  nv (hp h o1 6 0) fun h1 => Option.bind (p_X2_removeHead h1 (o0 + 33)) fun r2 => Option.bind (p_X7_note r2 (o0 + 40) 5 (r2 o1 0)) fun r3 => some r3
set_option maxRecDepth 4000 in
theorem s_X8_release {p : Program} {l : Launch} {e : Env} {s : State} {m : MethodId} {args : Array Value} {below : List Frame} {meth : Method} {c : Code} {G : GT} (cx : CX p s m args c cX8_release 2 RX8 G) (hr : meth.sig.returnType = none) (hlk : meth.locks = false) (h : Hp) (o0 : Nat) (o1 : Nat) (hk_o0 : kd o0 = 7) (hk_o1 : kd o1 = 0) : PF p l e (rmc 2 48) s m args below meth c 2 G 0 0 (QV below G args s) 0 [some (.ref (gad G o0)), some (.ref (gad G o1))] [] h (p_X8_release h o0 o1) := by
  unfold p_X8_release
  refine f_aload_n (pc := 0) cx dX8_release_0 rfl rfl ?_
  refine f_iconst (pc := 1) cx dX8_release_1 kc_iconst_0 ?_
  refine u_X8_123 (pc := 2) cx hk_o1 dX8_release_2 ?_
  refine f_nvh (fun h1 => ?_)
  refine f_aload_n (pc := 5) cx dX8_release_5 rfl rfl ?_
  refine g_X8_31 (pc := 6) cx hk_o0 dX8_release_6 ?_
  refine f_bind (fun r2 hr2 => ?_)
  refine k_X8_218 (pc := 9) cx (c_X2_removeHead l G _ (o0 + 33) (kf_7_3 hk_o0) r2 hr2) (kf_7_3 hk_o0) ⟨by decide, by decide⟩ ⟨Nat.zero_le _, Nat.zero_le _⟩ (Nat.le_of_ble_eq_true rfl) dX8_release_9 ?_
  refine f_aload_n (pc := 12) cx dX8_release_12 rfl rfl ?_
  refine g_X8_44 (pc := 13) cx hk_o0 dX8_release_13 ?_
  refine f_iconst (pc := 16) cx dX8_release_16 kc_iconst_5 ?_
  refine f_aload_n (pc := 17) cx dX8_release_17 rfl rfl ?_
  refine g_X8_126 (pc := 18) cx hk_o1 dX8_release_18 ?_
  refine f_bind (fun r3 hr3 => ?_)
  refine k_X8_188 (pc := 21) cx (c_X7_note l G _ (o0 + 40) 5 (r2 o1 0) (kf_7_5 hk_o0) r3 hr3) (kf_7_5 hk_o0) ⟨by decide, by decide⟩ ⟨Nat.zero_le _, Nat.zero_le _⟩ (Nat.le_of_ble_eq_true rfl) dX8_release_21 ?_
  exact f_vret cx hr hlk dX8_release_24
set_option maxRecDepth 4000 in
theorem c_X8_release (l : Launch) (G : GT) (h : Hp) (o0 : Nat) (o1 : Nat) (hk_o0 : kd o0 = 7) (hk_o1 : kd o1 = 0) : CtV l G yX8_release cX8_release 2 none 2 48 [.ref (gad G o0), .ref (gad G o1)] h (p_X8_release h o0 o1) := fun a ha => Ct.of (lv := [some (.ref (gad G o0)), some (.ref (gad G o1))]) (by decide) rfl (Nat.le_of_ble_eq_true rfl) rfl (fun p e s m args below meth c cx hr hlk => s_X8_release cx hr hlk h o0 o1 hk_o0 hk_o1 a ha)
def p_X8_send (h : Hp) (o0 : Nat) (o1 : Nat) (x2 : Int32) : Option Hp :=
  Option.bind (p_X1_end h (o0 + 2) x2 1 (h o0 7)) fun r1 => if ib x2 200 then (nv (hp r1 o1 5 ((r1 o1 5) - (r1 (o0 + 2 + 2) (Int32.toNatClampNeg x2)))) fun h3 => Option.bind (p_X1_waitOf h3 (o0 + 2) x2) fun r4 => Option.bind (p_X7_note r4.2 (o0 + 40) 0 r4.1) fun r5 => Option.bind (p_X7_note r5 (o0 + 40) 2 (r5 o1 5)) fun r6 => if ib x2 200 then (Option.bind (p_X9_quotientUp r6 (r6 (o0 + 2 + 2) (Int32.toNatClampNeg x2)) (r6 (o0 + 1) 7)) fun r8 => nv (hp r8.2 o0 7 ((r6 o0 7) + r8.1)) fun h9 => some h9) else none) else none
set_option maxRecDepth 4000 in
theorem s_X8_send {p : Program} {l : Launch} {e : Env} {s : State} {m : MethodId} {args : Array Value} {below : List Frame} {meth : Method} {c : Code} {G : GT} (cx : CX p s m args c cX8_send 3 RX8 G) (hr : meth.sig.returnType = none) (hlk : meth.locks = false) (h : Hp) (o0 : Nat) (o1 : Nat) (x2 : Int32) (hk_o0 : kd o0 = 7) (hk_o1 : kd o1 = 0) : PF p l e (rmc 1 24) s m args below meth c 3 G 0 0 (QV below G args s) 0 [some (.ref (gad G o0)), some (.ref (gad G o1)), some (.int x2)] [] h (p_X8_send h o0 o1 x2) := by
  unfold p_X8_send
  refine f_aload_n (pc := 0) cx dX8_send_0 rfl rfl ?_
  refine g_X8_18 (pc := 1) cx hk_o0 dX8_send_1 ?_
  refine f_iload_n (pc := 4) cx dX8_send_4 rfl rfl ?_
  refine f_iconst (pc := 5) cx dX8_send_5 kc_iconst_1 ?_
  refine f_aload_n (pc := 6) cx dX8_send_6 rfl rfl ?_
  refine g_X8_52 (pc := 7) cx hk_o0 dX8_send_7 ?_
  refine f_bind (fun r1 hr1 => ?_)
  refine k_X8_185 (pc := 10) cx (c_X1_end l G _ (o0 + 2) x2 1 (h o0 7) (kf_7_1 hk_o0) r1 hr1) (kf_7_1 hk_o0) ⟨by decide, by decide⟩ ⟨Nat.zero_le _, Nat.zero_le _⟩ (Nat.le_of_ble_eq_true rfl) dX8_send_10 ?_
  refine f_aload_n (pc := 13) cx dX8_send_13 rfl rfl ?_
  refine f_dup (pc := 14) cx dX8_send_14 rfl ?_
  refine g_X8_196 (pc := 15) cx hk_o1 dX8_send_15 ?_
  refine f_aload_n (pc := 18) cx dX8_send_18 rfl rfl ?_
  refine g_X8_18 (pc := 19) cx hk_o0 dX8_send_19 ?_
  refine g_X8_179 (pc := 22) cx (kf_7_1 hk_o0) dX8_send_22 ?_
  refine f_iload_n (pc := 25) cx dX8_send_25 rfl rfl ?_
  refine f_need (fun c2 => ?_)
  refine f_iald (pc := 26) (n := 200) cx (kf_1_1 (kf_7_1 hk_o0)) (by decide) c2 dX8_send_26 ?_
  refine f_isub (pc := 27) cx dX8_send_27 ?_
  refine u_X8_196 (pc := 28) cx hk_o1 dX8_send_28 ?_
  refine f_nvh (fun h3 => ?_)
  refine f_aload_n (pc := 31) cx dX8_send_31 rfl rfl ?_
  refine g_X8_44 (pc := 32) cx hk_o0 dX8_send_32 ?_
  refine f_iconst (pc := 35) cx dX8_send_35 kc_iconst_0 ?_
  refine f_aload_n (pc := 36) cx dX8_send_36 rfl rfl ?_
  refine g_X8_18 (pc := 37) cx hk_o0 dX8_send_37 ?_
  refine f_iload_n (pc := 40) cx dX8_send_40 rfl rfl ?_
  refine f_bind (fun r4 hr4 => ?_)
  refine k_X8_221 (pc := 41) cx (c_X1_waitOf l G _ (o0 + 2) x2 (kf_7_1 hk_o0) r4 hr4) (kf_7_1 hk_o0) ⟨by decide, by decide⟩ ⟨Nat.zero_le _, Nat.zero_le _⟩ (Nat.le_of_ble_eq_true rfl) dX8_send_41 ?_
  refine f_bind (fun r5 hr5 => ?_)
  refine k_X8_188 (pc := 44) cx (c_X7_note l G _ (o0 + 40) 0 r4.1 (kf_7_5 hk_o0) r5 hr5) (kf_7_5 hk_o0) ⟨by decide, by decide⟩ ⟨Nat.zero_le _, Nat.zero_le _⟩ (Nat.le_of_ble_eq_true rfl) dX8_send_44 ?_
  refine f_aload_n (pc := 47) cx dX8_send_47 rfl rfl ?_
  refine g_X8_44 (pc := 48) cx hk_o0 dX8_send_48 ?_
  refine f_iconst (pc := 51) cx dX8_send_51 kc_iconst_2 ?_
  refine f_aload_n (pc := 52) cx dX8_send_52 rfl rfl ?_
  refine g_X8_196 (pc := 53) cx hk_o1 dX8_send_53 ?_
  refine f_bind (fun r6 hr6 => ?_)
  refine k_X8_188 (pc := 56) cx (c_X7_note l G _ (o0 + 40) 2 (r5 o1 5) (kf_7_5 hk_o0) r6 hr6) (kf_7_5 hk_o0) ⟨by decide, by decide⟩ ⟨Nat.zero_le _, Nat.zero_le _⟩ (Nat.le_of_ble_eq_true rfl) dX8_send_56 ?_
  refine f_aload_n (pc := 59) cx dX8_send_59 rfl rfl ?_
  refine f_dup (pc := 60) cx dX8_send_60 rfl ?_
  refine g_X8_52 (pc := 61) cx hk_o0 dX8_send_61 ?_
  refine f_aload_n (pc := 64) cx dX8_send_64 rfl rfl ?_
  refine g_X8_18 (pc := 65) cx hk_o0 dX8_send_65 ?_
  refine g_X8_179 (pc := 68) cx (kf_7_1 hk_o0) dX8_send_68 ?_
  refine f_iload_n (pc := 71) cx dX8_send_71 rfl rfl ?_
  refine f_need (fun c7 => ?_)
  refine f_iald (pc := 72) (n := 200) cx (kf_1_1 (kf_7_1 hk_o0)) (by decide) c7 dX8_send_72 ?_
  refine f_aload_n (pc := 73) cx dX8_send_73 rfl rfl ?_
  refine g_X8_9 (pc := 74) cx hk_o0 dX8_send_74 ?_
  refine f_bipush (pc := 77) cx dX8_send_77 kc_bipush_7 ?_
  refine f_ialdk (pc := 79) (j := 7) (n := 8) cx (kf_7_0 hk_o0) (by decide) (by decide) kl_7 dX8_send_79 ?_
  refine f_bind (fun r8 hr8 => ?_)
  refine k_X8_224 (pc := 80) cx (c_X9_quotientUp l G _ (r6 (o0 + 2 + 2) (Int32.toNatClampNeg x2)) (r6 (o0 + 1) 7) r8 hr8) ⟨by decide, by decide⟩ ⟨Nat.zero_le _, Nat.zero_le _⟩ (Nat.le_of_ble_eq_true rfl) dX8_send_80 ?_
  refine f_iadd (pc := 83) cx dX8_send_83 ?_
  refine u_X8_52 (pc := 84) cx hk_o0 dX8_send_84 ?_
  refine f_nvh (fun h9 => ?_)
  exact f_vret cx hr hlk dX8_send_87
set_option maxRecDepth 4000 in
theorem c_X8_send (l : Launch) (G : GT) (h : Hp) (o0 : Nat) (o1 : Nat) (x2 : Int32) (hk_o0 : kd o0 = 7) (hk_o1 : kd o1 = 0) : CtV l G yX8_send cX8_send 3 none 1 24 [.ref (gad G o0), .ref (gad G o1), .int x2] h (p_X8_send h o0 o1 x2) := fun a ha => Ct.of (lv := [some (.ref (gad G o0)), some (.ref (gad G o1)), some (.int x2)]) (by decide) rfl (Nat.le_of_ble_eq_true rfl) rfl (fun p e s m args below meth c cx hr hlk => s_X8_send cx hr hlk h o0 o1 x2 hk_o0 hk_o1 a ha)
def p_X8_mark (h : Hp) (o0 : Nat) (x1 : Int32) : Option Hp :=
  Option.bind (p_X1_has h (o0 + 2) x1) fun r1 => if r1.1 = 0 then (some r1.2) else (if ib x1 200 then (if (r1.2 (o0 + 2 + 8) (Int32.toNatClampNeg x1)) = 0 then (if ib x1 200 then (nv (hp r1.2 (o0 + 2 + 8) (Int32.toNatClampNeg x1) 1) fun h4 => nv (hp h4 (o0 + 2 + 13) 4 ((h4 (o0 + 2 + 13) 4) + 1)) fun h5 => if ib x1 200 then (Option.bind (p_X7_note h5 (o0 + 40) 3 (h5 (o0 + 2 + 2) (Int32.toNatClampNeg x1))) fun r7 => some r7) else none) else none) else (some r1.2)) else none)
set_option maxRecDepth 4000 in
theorem s_X8_mark {p : Program} {l : Launch} {e : Env} {s : State} {m : MethodId} {args : Array Value} {below : List Frame} {meth : Method} {c : Code} {G : GT} (cx : CX p s m args c cX8_mark 2 RX8 G) (hr : meth.sig.returnType = none) (hlk : meth.locks = false) (h : Hp) (o0 : Nat) (x1 : Int32) (hk_o0 : kd o0 = 7) : PF p l e (rmc 1 24) s m args below meth c 2 G 0 0 (QV below G args s) 0 [some (.ref (gad G o0)), some (.int x1)] [] h (p_X8_mark h o0 x1) := by
  unfold p_X8_mark
  refine f_aload_n (pc := 0) cx dX8_mark_0 rfl rfl ?_
  refine g_X8_18 (pc := 1) cx hk_o0 dX8_mark_1 ?_
  refine f_iload_n (pc := 4) cx dX8_mark_4 rfl rfl ?_
  refine f_bind (fun r1 hr1 => ?_)
  refine k_X8_162 (pc := 5) cx (c_X1_has l G _ (o0 + 2) x1 (kf_7_1 hk_o0) r1 hr1) (kf_7_1 hk_o0) ⟨by decide, by decide⟩ ⟨Nat.zero_le _, Nat.zero_le _⟩ (Nat.le_of_ble_eq_true rfl) dX8_mark_5 ?_
  refine f_if_eq (pc := 8) (tgt := 63) cx dX8_mark_8 (by decide) (fun _ => ?_) (fun _ => ?_)
  · exact f_vret cx hr hlk dX8_mark_63
  · refine f_aload_n (pc := 11) cx dX8_mark_11 rfl rfl ?_
    refine g_X8_18 (pc := 12) cx hk_o0 dX8_mark_12 ?_
    refine g_X8_275 (pc := 15) cx (kf_7_1 hk_o0) dX8_mark_15 ?_
    refine f_iload_n (pc := 18) cx dX8_mark_18 rfl rfl ?_
    refine f_need (fun c2 => ?_)
    refine f_iald (pc := 19) (n := 200) cx (kf_1_7 (kf_7_1 hk_o0)) (by decide) c2 dX8_mark_19 ?_
    refine f_if_ne (pc := 20) (tgt := 63) cx dX8_mark_20 (by decide) (fun _ => ?_) (fun _ => ?_)
    · refine f_aload_n (pc := 23) cx dX8_mark_23 rfl rfl ?_
      refine g_X8_18 (pc := 24) cx hk_o0 dX8_mark_24 ?_
      refine g_X8_275 (pc := 27) cx (kf_7_1 hk_o0) dX8_mark_27 ?_
      refine f_iload_n (pc := 30) cx dX8_mark_30 rfl rfl ?_
      refine f_iconst (pc := 31) cx dX8_mark_31 kc_iconst_1 ?_
      refine f_need (fun c3 => ?_)
      refine f_iast (pc := 32) (n := 200) cx (kf_1_7 (kf_7_1 hk_o0)) (by decide) c3 dX8_mark_32 ?_
      refine f_nvh (fun h4 => ?_)
      refine f_aload_n (pc := 33) cx dX8_mark_33 rfl rfl ?_
      refine g_X8_18 (pc := 34) cx hk_o0 dX8_mark_34 ?_
      refine g_X8_278 (pc := 37) cx (kf_7_1 hk_o0) dX8_mark_37 ?_
      refine f_iconst (pc := 40) cx dX8_mark_40 kc_iconst_4 ?_
      refine f_dup2 (pc := 41) cx dX8_mark_41 rfl rfl ?_
      refine f_ialdk (pc := 42) (j := 4) (n := 5) cx (kf_1_12 (kf_7_1 hk_o0)) (by decide) (by decide) kl_4 dX8_mark_42 ?_
      refine f_iconst (pc := 43) cx dX8_mark_43 kc_iconst_1 ?_
      refine f_iadd (pc := 44) cx dX8_mark_44 ?_
      refine f_iastk (pc := 45) (j := 4) (n := 5) cx (kf_1_12 (kf_7_1 hk_o0)) (by decide) (by decide) kl_4 dX8_mark_45 ?_
      refine f_nvh (fun h5 => ?_)
      refine f_aload_n (pc := 46) cx dX8_mark_46 rfl rfl ?_
      refine g_X8_44 (pc := 47) cx hk_o0 dX8_mark_47 ?_
      refine f_iconst (pc := 50) cx dX8_mark_50 kc_iconst_3 ?_
      refine f_aload_n (pc := 51) cx dX8_mark_51 rfl rfl ?_
      refine g_X8_18 (pc := 52) cx hk_o0 dX8_mark_52 ?_
      refine g_X8_179 (pc := 55) cx (kf_7_1 hk_o0) dX8_mark_55 ?_
      refine f_iload_n (pc := 58) cx dX8_mark_58 rfl rfl ?_
      refine f_need (fun c6 => ?_)
      refine f_iald (pc := 59) (n := 200) cx (kf_1_1 (kf_7_1 hk_o0)) (by decide) c6 dX8_mark_59 ?_
      refine f_bind (fun r7 hr7 => ?_)
      refine k_X8_188 (pc := 60) cx (c_X7_note l G _ (o0 + 40) 3 (h5 (o0 + 2 + 2) (Int32.toNatClampNeg x1)) (kf_7_5 hk_o0) r7 hr7) (kf_7_5 hk_o0) ⟨by decide, by decide⟩ ⟨Nat.zero_le _, Nat.zero_le _⟩ (Nat.le_of_ble_eq_true rfl) dX8_mark_60 ?_
      exact f_vret cx hr hlk dX8_mark_63
    · exact f_vret cx hr hlk dX8_mark_63
set_option maxRecDepth 4000 in
theorem c_X8_mark (l : Launch) (G : GT) (h : Hp) (o0 : Nat) (x1 : Int32) (hk_o0 : kd o0 = 7) : CtV l G yX8_mark cX8_mark 2 none 1 24 [.ref (gad G o0), .int x1] h (p_X8_mark h o0 x1) := fun a ha => Ct.of (lv := [some (.ref (gad G o0)), some (.int x1)]) (by decide) rfl (Nat.le_of_ble_eq_true rfl) rfl (fun p e s m args below meth c cx hr hlk => s_X8_mark cx hr hlk h o0 x1 hk_o0 a ha)
def p_X8_drop (h : Hp) (o0 : Nat) (x1 : Int32) : Option Hp :=
  Option.bind (p_X1_has h (o0 + 2) x1) fun r1 => if r1.1 = 0 then (some r1.2) else (Option.bind (p_X1_end r1.2 (o0 + 2) x1 2 (r1.2 o0 7)) fun r2 => if ib x1 200 then (Option.bind (p_X7_note r2 (o0 + 40) 1 (r2 (o0 + 2 + 1) (Int32.toNatClampNeg x1))) fun r4 => some r4) else none)
set_option maxRecDepth 4000 in
theorem s_X8_drop {p : Program} {l : Launch} {e : Env} {s : State} {m : MethodId} {args : Array Value} {below : List Frame} {meth : Method} {c : Code} {G : GT} (cx : CX p s m args c cX8_drop 2 RX8 G) (hr : meth.sig.returnType = none) (hlk : meth.locks = false) (h : Hp) (o0 : Nat) (x1 : Int32) (hk_o0 : kd o0 = 7) : PF p l e (rmc 1 24) s m args below meth c 2 G 0 0 (QV below G args s) 0 [some (.ref (gad G o0)), some (.int x1)] [] h (p_X8_drop h o0 x1) := by
  unfold p_X8_drop
  refine f_aload_n (pc := 0) cx dX8_drop_0 rfl rfl ?_
  refine g_X8_18 (pc := 1) cx hk_o0 dX8_drop_1 ?_
  refine f_iload_n (pc := 4) cx dX8_drop_4 rfl rfl ?_
  refine f_bind (fun r1 hr1 => ?_)
  refine k_X8_162 (pc := 5) cx (c_X1_has l G _ (o0 + 2) x1 (kf_7_1 hk_o0) r1 hr1) (kf_7_1 hk_o0) ⟨by decide, by decide⟩ ⟨Nat.zero_le _, Nat.zero_le _⟩ (Nat.le_of_ble_eq_true rfl) dX8_drop_5 ?_
  refine f_if_eq (pc := 8) (tgt := 41) cx dX8_drop_8 (by decide) (fun _ => ?_) (fun _ => ?_)
  · exact f_vret cx hr hlk dX8_drop_41
  · refine f_aload_n (pc := 11) cx dX8_drop_11 rfl rfl ?_
    refine g_X8_18 (pc := 12) cx hk_o0 dX8_drop_12 ?_
    refine f_iload_n (pc := 15) cx dX8_drop_15 rfl rfl ?_
    refine f_iconst (pc := 16) cx dX8_drop_16 kc_iconst_2 ?_
    refine f_aload_n (pc := 17) cx dX8_drop_17 rfl rfl ?_
    refine g_X8_52 (pc := 18) cx hk_o0 dX8_drop_18 ?_
    refine f_bind (fun r2 hr2 => ?_)
    refine k_X8_185 (pc := 21) cx (c_X1_end l G _ (o0 + 2) x1 2 (r1.2 o0 7) (kf_7_1 hk_o0) r2 hr2) (kf_7_1 hk_o0) ⟨by decide, by decide⟩ ⟨Nat.zero_le _, Nat.zero_le _⟩ (Nat.le_of_ble_eq_true rfl) dX8_drop_21 ?_
    refine f_aload_n (pc := 24) cx dX8_drop_24 rfl rfl ?_
    refine g_X8_44 (pc := 25) cx hk_o0 dX8_drop_25 ?_
    refine f_iconst (pc := 28) cx dX8_drop_28 kc_iconst_1 ?_
    refine f_aload_n (pc := 29) cx dX8_drop_29 rfl rfl ?_
    refine g_X8_18 (pc := 30) cx hk_o0 dX8_drop_30 ?_
    refine g_X8_281 (pc := 33) cx (kf_7_1 hk_o0) dX8_drop_33 ?_
    refine f_iload_n (pc := 36) cx dX8_drop_36 rfl rfl ?_
    refine f_need (fun c3 => ?_)
    refine f_iald (pc := 37) (n := 200) cx (kf_1_0 (kf_7_1 hk_o0)) (by decide) c3 dX8_drop_37 ?_
    refine f_bind (fun r4 hr4 => ?_)
    refine k_X8_188 (pc := 38) cx (c_X7_note l G _ (o0 + 40) 1 (r2 (o0 + 2 + 1) (Int32.toNatClampNeg x1)) (kf_7_5 hk_o0) r4 hr4) (kf_7_5 hk_o0) ⟨by decide, by decide⟩ ⟨Nat.zero_le _, Nat.zero_le _⟩ (Nat.le_of_ble_eq_true rfl) dX8_drop_38 ?_
    exact f_vret cx hr hlk dX8_drop_41
set_option maxRecDepth 4000 in
theorem c_X8_drop (l : Launch) (G : GT) (h : Hp) (o0 : Nat) (x1 : Int32) (hk_o0 : kd o0 = 7) : CtV l G yX8_drop cX8_drop 2 none 1 24 [.ref (gad G o0), .int x1] h (p_X8_drop h o0 x1) := fun a ha => Ct.of (lv := [some (.ref (gad G o0)), some (.int x1)]) (by decide) rfl (Nat.le_of_ble_eq_true rfl) rfl (fun p e s m args below meth c cx hr hlk => s_X8_drop cx hr hlk h o0 x1 hk_o0 a ha)
def b_X8_letHear_7 (o0 : Nat) (x1 : Int32) (o2 : Nat) (k7 : Hp → Option Hp) (q : Hp) : Option Hp :=
  if (q (o0 + 2) 14) ≤ (q o2 9) then (some q) else (Option.bind (p_X1_endedOne q (o0 + 2) (q o2 9)) fun r1 => Option.bind (p_X1_has r1.2 (o0 + 2) r1.1) fun r2 => if r2.1 = 0 then (some r2.2) else (if ib r1.1 200 then (if ((r2.2 (o0 + 2 + 10) (Int32.toNatClampNeg r1.1)) + (r2.2 o2 3)) ≤ (r2.2 o0 7) then (nv (hp r2.2 o2 9 ((r2.2 o2 9) + 1)) fun h4 => if ib r1.1 200 then (if (h4 (o0 + 2 + 6) (Int32.toNatClampNeg r1.1)) = x1 then (if ib r1.1 200 then (if (h4 (o0 + 2 + 9) (Int32.toNatClampNeg r1.1)) = 1 then (if ib r1.1 200 then (if (h4 (o0 + 2 + 8) (Int32.toNatClampNeg r1.1)) = 0 then (Option.bind (p_X5_hear h4 o2 1 (h4 o0 7)) fun r8 => k7 r8) else (Option.bind (p_X5_hear h4 o2 0 (h4 o0 7)) fun r9 => k7 r9)) else none) else (Option.bind (p_X5_hear h4 o2 0 (h4 o0 7)) fun r10 => k7 r10)) else none) else (k7 h4)) else none) else (some r2.2)) else none))
def p_X8_letHear (h : Hp) (o0 : Nat) (x1 : Int32) : Option Hp :=
  if ib x1 4 then (lp (b_X8_letHear_7 o0 x1 (o0 + 35 + 1 + Int32.toNatClampNeg x1)) FU h) else none
set_option maxRecDepth 4000 in
theorem s_X8_letHear_7 {p : Program} {l : Launch} {e : Env} {s : State} {m : MethodId} {args : Array Value} {below : List Frame} {meth : Method} {c : Code} {G : GT} (cx : CX p s m args c cX8_letHear 4 RX8 G) (hr : meth.sig.returnType = none) (hlk : meth.locks = false) (o0 : Nat) (x1 : Int32) (o2 : Nat) (hk_o0 : kd o0 = 7) (hk_o2 : kd o2 = 4) : ∀ (n : Nat) (q : Hp), PF p l e (rmc 2 49) s m args below meth c 4 G 0 0 (QV below G args s) 7 [some (.ref (gad G o0)), some (.int x1), some (.ref (gad G o2)), none] [] q (lp (b_X8_letHear_7 o0 x1 o2) n q) := by
  refine f_lp (lvf := fun (q : Hp) => [some (.ref (gad G o0)), some (.int x1), some (.ref (gad G o2)), none]) (hf := fun (q : Hp) => q) (fun k7 hk7 q => ?_)
  show PF p l e (rmc 2 49) s m args below meth c 4 G 0 0 (QV below G args s) 7 [some (.ref (gad G o0)), some (.int x1), some (.ref (gad G o2)), none] [] q (b_X8_letHear_7 o0 x1 o2 k7 q)
  unfold b_X8_letHear_7
  refine f_aload_n (pc := 7) cx dX8_letHear_7 rfl rfl ?_
  refine g_X8_293 (pc := 8) cx hk_o2 dX8_letHear_8 ?_
  refine f_aload_n (pc := 11) cx dX8_letHear_11 rfl rfl ?_
  refine g_X8_18 (pc := 12) cx hk_o0 dX8_letHear_12 ?_
  refine g_X8_296 (pc := 15) cx (kf_7_1 hk_o0) dX8_letHear_15 ?_
  refine f_icmp_ge (pc := 18) (tgt := 130) cx dX8_letHear_18 (by decide) (fun _ => ?_) (fun _ => ?_)
  · exact f_vret cx hr hlk dX8_letHear_130
  · refine f_aload_n (pc := 21) cx dX8_letHear_21 rfl rfl ?_
    refine g_X8_18 (pc := 22) cx hk_o0 dX8_letHear_22 ?_
    refine f_aload_n (pc := 25) cx dX8_letHear_25 rfl rfl ?_
    refine g_X8_293 (pc := 26) cx hk_o2 dX8_letHear_26 ?_
    refine f_bind (fun r1 hr1 => ?_)
    refine k_X8_299 (pc := 29) cx (c_X1_endedOne l G _ (o0 + 2) (q o2 9) (kf_7_1 hk_o0) r1 hr1) (kf_7_1 hk_o0) ⟨by decide, by decide⟩ ⟨Nat.zero_le _, Nat.zero_le _⟩ (Nat.le_of_ble_eq_true rfl) dX8_letHear_29 ?_
    refine f_istore3 (pc := 32) cx dX8_letHear_32 (by decide) rfl ?_
    refine f_aload_n (pc := 33) cx dX8_letHear_33 rfl rfl ?_
    refine g_X8_18 (pc := 34) cx hk_o0 dX8_letHear_34 ?_
    refine f_iload_n (pc := 37) cx dX8_letHear_37 rfl rfl ?_
    refine f_bind (fun r2 hr2 => ?_)
    refine k_X8_162 (pc := 38) cx (c_X1_has l G _ (o0 + 2) r1.1 (kf_7_1 hk_o0) r2 hr2) (kf_7_1 hk_o0) ⟨by decide, by decide⟩ ⟨Nat.zero_le _, Nat.zero_le _⟩ (Nat.le_of_ble_eq_true rfl) dX8_letHear_38 ?_
    refine f_if_eq (pc := 41) (tgt := 65) cx dX8_letHear_41 (by decide) (fun _ => ?_) (fun _ => ?_)
    · exact f_vret cx hr hlk dX8_letHear_65
    · refine f_aload_n (pc := 44) cx dX8_letHear_44 rfl rfl ?_
      refine g_X8_18 (pc := 45) cx hk_o0 dX8_letHear_45 ?_
      refine g_X8_302 (pc := 48) cx (kf_7_1 hk_o0) dX8_letHear_48 ?_
      refine f_iload_n (pc := 51) cx dX8_letHear_51 rfl rfl ?_
      refine f_need (fun c3 => ?_)
      refine f_iald (pc := 52) (n := 200) cx (kf_1_9 (kf_7_1 hk_o0)) (by decide) c3 dX8_letHear_52 ?_
      refine f_aload_n (pc := 53) cx dX8_letHear_53 rfl rfl ?_
      refine g_X8_305 (pc := 54) cx hk_o2 dX8_letHear_54 ?_
      refine f_iadd (pc := 57) cx dX8_letHear_57 ?_
      refine f_aload_n (pc := 58) cx dX8_letHear_58 rfl rfl ?_
      refine g_X8_52 (pc := 59) cx hk_o0 dX8_letHear_59 ?_
      refine f_icmp_le (pc := 62) (tgt := 66) cx dX8_letHear_62 (by decide) (fun _ => ?_) (fun _ => ?_)
      · refine f_aload_n (pc := 66) cx dX8_letHear_66 rfl rfl ?_
        refine f_dup (pc := 67) cx dX8_letHear_67 rfl ?_
        refine g_X8_293 (pc := 68) cx hk_o2 dX8_letHear_68 ?_
        refine f_iconst (pc := 71) cx dX8_letHear_71 kc_iconst_1 ?_
        refine f_iadd (pc := 72) cx dX8_letHear_72 ?_
        refine u_X8_293 (pc := 73) cx hk_o2 dX8_letHear_73 ?_
        refine f_nvh (fun h4 => ?_)
        refine f_aload_n (pc := 76) cx dX8_letHear_76 rfl rfl ?_
        refine g_X8_18 (pc := 77) cx hk_o0 dX8_letHear_77 ?_
        refine g_X8_308 (pc := 80) cx (kf_7_1 hk_o0) dX8_letHear_80 ?_
        refine f_iload_n (pc := 83) cx dX8_letHear_83 rfl rfl ?_
        refine f_need (fun c5 => ?_)
        refine f_iald (pc := 84) (n := 200) cx (kf_1_5 (kf_7_1 hk_o0)) (by decide) c5 dX8_letHear_84 ?_
        refine f_iload_n (pc := 85) cx dX8_letHear_85 rfl rfl ?_
        refine f_icmp_ne (pc := 86) (tgt := 127) cx dX8_letHear_86 (by decide) (fun _ => ?_) (fun _ => ?_)
        · refine f_aload_n (pc := 89) cx dX8_letHear_89 rfl rfl ?_
          refine f_aload_n (pc := 90) cx dX8_letHear_90 rfl rfl ?_
          refine g_X8_18 (pc := 91) cx hk_o0 dX8_letHear_91 ?_
          refine g_X8_311 (pc := 94) cx (kf_7_1 hk_o0) dX8_letHear_94 ?_
          refine f_iload_n (pc := 97) cx dX8_letHear_97 rfl rfl ?_
          refine f_need (fun c6 => ?_)
          refine f_iald (pc := 98) (n := 200) cx (kf_1_8 (kf_7_1 hk_o0)) (by decide) c6 dX8_letHear_98 ?_
          refine f_iconst (pc := 99) cx dX8_letHear_99 kc_iconst_1 ?_
          refine f_icmp_ne (pc := 100) (tgt := 119) cx dX8_letHear_100 (by decide) (fun _ => ?_) (fun _ => ?_)
          · refine f_aload_n (pc := 103) cx dX8_letHear_103 rfl rfl ?_
            refine g_X8_18 (pc := 104) cx hk_o0 dX8_letHear_104 ?_
            refine g_X8_275 (pc := 107) cx (kf_7_1 hk_o0) dX8_letHear_107 ?_
            refine f_iload_n (pc := 110) cx dX8_letHear_110 rfl rfl ?_
            refine f_need (fun c7 => ?_)
            refine f_iald (pc := 111) (n := 200) cx (kf_1_7 (kf_7_1 hk_o0)) (by decide) c7 dX8_letHear_111 ?_
            refine f_if_ne (pc := 112) (tgt := 119) cx dX8_letHear_112 (by decide) (fun _ => ?_) (fun _ => ?_)
            · refine f_iconst (pc := 115) cx dX8_letHear_115 kc_iconst_1 ?_
              refine f_goto (pc := 116) (tgt := 120) cx dX8_letHear_116 (by decide) ?_
              refine f_aload_n (pc := 120) cx dX8_letHear_120 rfl rfl ?_
              refine g_X8_52 (pc := 121) cx hk_o0 dX8_letHear_121 ?_
              refine f_bind (fun r8 hr8 => ?_)
              refine k_X8_314 (pc := 124) cx (c_X5_hear l G _ o2 1 (h4 o0 7) hk_o2 r8 hr8) hk_o2 ⟨by decide, by decide⟩ ⟨Nat.zero_le _, Nat.zero_le _⟩ (Nat.le_of_ble_eq_true rfl) dX8_letHear_124 ?_
              refine f_goto (pc := 127) (tgt := 7) cx dX8_letHear_127 (by decide) ?_
              exact f_weak (LSb.s (LSb.s (LSb.s (LSb.n LSb.e)))) (hk7 r8)
            · refine f_iconst (pc := 119) cx dX8_letHear_119 kc_iconst_0 ?_
              refine f_aload_n (pc := 120) cx dX8_letHear_120 rfl rfl ?_
              refine g_X8_52 (pc := 121) cx hk_o0 dX8_letHear_121 ?_
              refine f_bind (fun r9 hr9 => ?_)
              refine k_X8_314 (pc := 124) cx (c_X5_hear l G _ o2 0 (h4 o0 7) hk_o2 r9 hr9) hk_o2 ⟨by decide, by decide⟩ ⟨Nat.zero_le _, Nat.zero_le _⟩ (Nat.le_of_ble_eq_true rfl) dX8_letHear_124 ?_
              refine f_goto (pc := 127) (tgt := 7) cx dX8_letHear_127 (by decide) ?_
              exact f_weak (LSb.s (LSb.s (LSb.s (LSb.n LSb.e)))) (hk7 r9)
          · refine f_iconst (pc := 119) cx dX8_letHear_119 kc_iconst_0 ?_
            refine f_aload_n (pc := 120) cx dX8_letHear_120 rfl rfl ?_
            refine g_X8_52 (pc := 121) cx hk_o0 dX8_letHear_121 ?_
            refine f_bind (fun r10 hr10 => ?_)
            refine k_X8_314 (pc := 124) cx (c_X5_hear l G _ o2 0 (h4 o0 7) hk_o2 r10 hr10) hk_o2 ⟨by decide, by decide⟩ ⟨Nat.zero_le _, Nat.zero_le _⟩ (Nat.le_of_ble_eq_true rfl) dX8_letHear_124 ?_
            refine f_goto (pc := 127) (tgt := 7) cx dX8_letHear_127 (by decide) ?_
            exact f_weak (LSb.s (LSb.s (LSb.s (LSb.n LSb.e)))) (hk7 r10)
        · refine f_goto (pc := 127) (tgt := 7) cx dX8_letHear_127 (by decide) ?_
          exact f_weak (LSb.s (LSb.s (LSb.s (LSb.n LSb.e)))) (hk7 h4)
      · exact f_vret cx hr hlk dX8_letHear_65
set_option maxRecDepth 4000 in
theorem s_X8_letHear {p : Program} {l : Launch} {e : Env} {s : State} {m : MethodId} {args : Array Value} {below : List Frame} {meth : Method} {c : Code} {G : GT} (cx : CX p s m args c cX8_letHear 4 RX8 G) (hr : meth.sig.returnType = none) (hlk : meth.locks = false) (h : Hp) (o0 : Nat) (x1 : Int32) (hk_o0 : kd o0 = 7) : PF p l e (rmc 2 49) s m args below meth c 4 G 0 0 (QV below G args s) 0 [some (.ref (gad G o0)), some (.int x1), none, none] [] h (p_X8_letHear h o0 x1) := by
  unfold p_X8_letHear
  refine f_aload_n (pc := 0) cx dX8_letHear_0 rfl rfl ?_
  refine g_X8_37 (pc := 1) cx hk_o0 dX8_letHear_1 ?_
  refine f_iload_n (pc := 4) cx dX8_letHear_4 rfl rfl ?_
  refine f_need (fun c11 => ?_)
  refine f_aldS (pc := 5) cx (kf_7_4 hk_o0) c11 dX8_letHear_5 ?_
  refine f_astore2 (pc := 6) cx dX8_letHear_6 (by decide) rfl ?_
  exact f_weak (LSb.s (LSb.s (LSb.s (LSb.n LSb.e)))) (s_X8_letHear_7 cx hr hlk o0 x1 (o0 + 35 + 1 + Int32.toNatClampNeg x1) hk_o0 (ka_s (kf_7_4 hk_o0) c11) FU h)
set_option maxRecDepth 4000 in
theorem c_X8_letHear (l : Launch) (G : GT) (h : Hp) (o0 : Nat) (x1 : Int32) (hk_o0 : kd o0 = 7) : CtV l G yX8_letHear cX8_letHear 4 none 2 49 [.ref (gad G o0), .int x1] h (p_X8_letHear h o0 x1) := fun a ha => Ct.of (lv := [some (.ref (gad G o0)), some (.int x1), none, none]) (by decide) rfl (Nat.le_of_ble_eq_true rfl) rfl (fun p e s m args below meth c cx hr hlk => s_X8_letHear cx hr hlk h o0 x1 hk_o0 a ha)
def b_X8_windows_4 (o0 : Nat) (k4 : Hp × Int32 × Int32 → Option (Int32 × Hp)) (q : Hp × Int32 × Int32) : Option (Int32 × Hp) :=
  if (q.1 o0 6) ≤ q.2.2 then (some (q.2.1, q.1)) else (if ib q.2.2 4 then (nv (q.2.1 + (q.1 (o0 + 35 + 1 + Int32.toNatClampNeg q.2.2) 2)) fun v2 => k4 (q.1, v2, q.2.2 + 1)) else none)
def p_X8_windows (h : Hp) (o0 : Nat) : Option (Int32 × Hp) :=
  lp (b_X8_windows_4 o0) FU (h, 0, 0)
set_option maxRecDepth 4000 in
theorem s_X8_windows_4 {p : Program} {l : Launch} {e : Env} {s : State} {m : MethodId} {args : Array Value} {below : List Frame} {meth : Method} {c : Code} {G : GT} (cx : CX p s m args c cX8_windows 3 RX8 G) (hr : meth.sig.returnType = (some .int)) (hlk : meth.locks = false) (o0 : Nat) (hk_o0 : kd o0 = 7) : ∀ (n : Nat) (q : Hp × Int32 × Int32), PF p l e (rmc 0 0) s m args below meth c 3 G 0 0 (QI below G args s) 4 [some (.ref (gad G o0)), some (.int q.2.1), some (.int q.2.2)] [] q.1 (lp (b_X8_windows_4 o0) n q) := by
  refine f_lp (lvf := fun (q : Hp × Int32 × Int32) => [some (.ref (gad G o0)), some (.int q.2.1), some (.int q.2.2)]) (hf := fun (q : Hp × Int32 × Int32) => q.1) (fun k4 hk4 q => ?_)
  show PF p l e (rmc 0 0) s m args below meth c 3 G 0 0 (QI below G args s) 4 [some (.ref (gad G o0)), some (.int q.2.1), some (.int q.2.2)] [] q.1 (b_X8_windows_4 o0 k4 q)
  unfold b_X8_windows_4
  refine f_iload_n (pc := 4) cx dX8_windows_4 rfl rfl ?_
  refine f_aload_n (pc := 5) cx dX8_windows_5 rfl rfl ?_
  refine g_X8_48 (pc := 6) cx hk_o0 dX8_windows_6 ?_
  refine f_icmp_ge (pc := 9) (tgt := 30) cx dX8_windows_9 (by decide) (fun _ => ?_) (fun _ => ?_)
  · refine f_iload_n (pc := 30) cx dX8_windows_30 rfl rfl ?_
    exact f_iret cx hr hlk rfl dX8_windows_31
  · refine f_iload_n (pc := 12) cx dX8_windows_12 rfl rfl ?_
    refine f_aload_n (pc := 13) cx dX8_windows_13 rfl rfl ?_
    refine g_X8_37 (pc := 14) cx hk_o0 dX8_windows_14 ?_
    refine f_iload_n (pc := 17) cx dX8_windows_17 rfl rfl ?_
    refine f_need (fun c1 => ?_)
    refine f_aldS (pc := 18) cx (kf_7_4 hk_o0) c1 dX8_windows_18 ?_
    refine g_X8_333 (pc := 19) cx (ka_s (kf_7_4 hk_o0) c1) dX8_windows_19 ?_
    refine f_iadd (pc := 22) cx dX8_windows_22 ?_
    refine f_nvi (fun v2 => ?_)
    refine f_istore1 (pc := 23) cx dX8_windows_23 (by decide) rfl ?_
    refine f_iinc2 (pc := 24) cx dX8_windows_24 kc_iconst_1 (by decide) rfl ?_
    refine f_goto (pc := 27) (tgt := 4) cx dX8_windows_27 (by decide) ?_
    exact f_weak (LSb.s (LSb.s (LSb.s LSb.e))) (hk4 (q.1, v2, q.2.2 + 1))
set_option maxRecDepth 4000 in
theorem s_X8_windows {p : Program} {l : Launch} {e : Env} {s : State} {m : MethodId} {args : Array Value} {below : List Frame} {meth : Method} {c : Code} {G : GT} (cx : CX p s m args c cX8_windows 3 RX8 G) (hr : meth.sig.returnType = (some .int)) (hlk : meth.locks = false) (h : Hp) (o0 : Nat) (hk_o0 : kd o0 = 7) : PF p l e (rmc 0 0) s m args below meth c 3 G 0 0 (QI below G args s) 0 [some (.ref (gad G o0)), none, none] [] h (p_X8_windows h o0) := by
  unfold p_X8_windows
  refine f_iconst (pc := 0) cx dX8_windows_0 kc_iconst_0 ?_
  refine f_istore1 (pc := 1) cx dX8_windows_1 (by decide) rfl ?_
  refine f_iconst (pc := 2) cx dX8_windows_2 kc_iconst_0 ?_
  refine f_istore2 (pc := 3) cx dX8_windows_3 (by decide) rfl ?_
  exact f_weak (LSb.s (LSb.s (LSb.s LSb.e))) (s_X8_windows_4 cx hr hlk o0 hk_o0 FU (h, 0, 0))
set_option maxRecDepth 4000 in
theorem c_X8_windows (l : Launch) (G : GT) (h : Hp) (o0 : Nat) (hk_o0 : kd o0 = 7) : CtI l G yX8_windows cX8_windows 3 (some .int) 0 0 [.ref (gad G o0)] h (p_X8_windows h o0) := fun a ha => Ct.of (lv := [some (.ref (gad G o0)), none, none]) (by decide) rfl (Nat.le_of_ble_eq_true rfl) rfl (fun p e s m args below meth c cx hr hlk => s_X8_windows cx hr hlk h o0 hk_o0 a ha)
def b_X8_cuts_4 (o0 : Nat) (k4 : Hp × Int32 × Int32 → Option (Int32 × Hp)) (q : Hp × Int32 × Int32) : Option (Int32 × Hp) :=
  if (q.1 o0 6) ≤ q.2.2 then (some (q.2.1, q.1)) else (if ib q.2.2 4 then (nv (q.2.1 + (q.1 (o0 + 35 + 1 + Int32.toNatClampNeg q.2.2) 6)) fun v2 => k4 (q.1, v2, q.2.2 + 1)) else none)
def p_X8_cuts (h : Hp) (o0 : Nat) : Option (Int32 × Hp) :=
  lp (b_X8_cuts_4 o0) FU (h, 0, 0)
set_option maxRecDepth 4000 in
theorem s_X8_cuts_4 {p : Program} {l : Launch} {e : Env} {s : State} {m : MethodId} {args : Array Value} {below : List Frame} {meth : Method} {c : Code} {G : GT} (cx : CX p s m args c cX8_cuts 3 RX8 G) (hr : meth.sig.returnType = (some .int)) (hlk : meth.locks = false) (o0 : Nat) (hk_o0 : kd o0 = 7) : ∀ (n : Nat) (q : Hp × Int32 × Int32), PF p l e (rmc 0 0) s m args below meth c 3 G 0 0 (QI below G args s) 4 [some (.ref (gad G o0)), some (.int q.2.1), some (.int q.2.2)] [] q.1 (lp (b_X8_cuts_4 o0) n q) := by
  refine f_lp (lvf := fun (q : Hp × Int32 × Int32) => [some (.ref (gad G o0)), some (.int q.2.1), some (.int q.2.2)]) (hf := fun (q : Hp × Int32 × Int32) => q.1) (fun k4 hk4 q => ?_)
  show PF p l e (rmc 0 0) s m args below meth c 3 G 0 0 (QI below G args s) 4 [some (.ref (gad G o0)), some (.int q.2.1), some (.int q.2.2)] [] q.1 (b_X8_cuts_4 o0 k4 q)
  unfold b_X8_cuts_4
  refine f_iload_n (pc := 4) cx dX8_cuts_4 rfl rfl ?_
  refine f_aload_n (pc := 5) cx dX8_cuts_5 rfl rfl ?_
  refine g_X8_48 (pc := 6) cx hk_o0 dX8_cuts_6 ?_
  refine f_icmp_ge (pc := 9) (tgt := 30) cx dX8_cuts_9 (by decide) (fun _ => ?_) (fun _ => ?_)
  · refine f_iload_n (pc := 30) cx dX8_cuts_30 rfl rfl ?_
    exact f_iret cx hr hlk rfl dX8_cuts_31
  · refine f_iload_n (pc := 12) cx dX8_cuts_12 rfl rfl ?_
    refine f_aload_n (pc := 13) cx dX8_cuts_13 rfl rfl ?_
    refine g_X8_37 (pc := 14) cx hk_o0 dX8_cuts_14 ?_
    refine f_iload_n (pc := 17) cx dX8_cuts_17 rfl rfl ?_
    refine f_need (fun c1 => ?_)
    refine f_aldS (pc := 18) cx (kf_7_4 hk_o0) c1 dX8_cuts_18 ?_
    refine g_X8_336 (pc := 19) cx (ka_s (kf_7_4 hk_o0) c1) dX8_cuts_19 ?_
    refine f_iadd (pc := 22) cx dX8_cuts_22 ?_
    refine f_nvi (fun v2 => ?_)
    refine f_istore1 (pc := 23) cx dX8_cuts_23 (by decide) rfl ?_
    refine f_iinc2 (pc := 24) cx dX8_cuts_24 kc_iconst_1 (by decide) rfl ?_
    refine f_goto (pc := 27) (tgt := 4) cx dX8_cuts_27 (by decide) ?_
    exact f_weak (LSb.s (LSb.s (LSb.s LSb.e))) (hk4 (q.1, v2, q.2.2 + 1))
set_option maxRecDepth 4000 in
theorem s_X8_cuts {p : Program} {l : Launch} {e : Env} {s : State} {m : MethodId} {args : Array Value} {below : List Frame} {meth : Method} {c : Code} {G : GT} (cx : CX p s m args c cX8_cuts 3 RX8 G) (hr : meth.sig.returnType = (some .int)) (hlk : meth.locks = false) (h : Hp) (o0 : Nat) (hk_o0 : kd o0 = 7) : PF p l e (rmc 0 0) s m args below meth c 3 G 0 0 (QI below G args s) 0 [some (.ref (gad G o0)), none, none] [] h (p_X8_cuts h o0) := by
  unfold p_X8_cuts
  refine f_iconst (pc := 0) cx dX8_cuts_0 kc_iconst_0 ?_
  refine f_istore1 (pc := 1) cx dX8_cuts_1 (by decide) rfl ?_
  refine f_iconst (pc := 2) cx dX8_cuts_2 kc_iconst_0 ?_
  refine f_istore2 (pc := 3) cx dX8_cuts_3 (by decide) rfl ?_
  exact f_weak (LSb.s (LSb.s (LSb.s LSb.e))) (s_X8_cuts_4 cx hr hlk o0 hk_o0 FU (h, 0, 0))
set_option maxRecDepth 4000 in
theorem c_X8_cuts (l : Launch) (G : GT) (h : Hp) (o0 : Nat) (hk_o0 : kd o0 = 7) : CtI l G yX8_cuts cX8_cuts 3 (some .int) 0 0 [.ref (gad G o0)] h (p_X8_cuts h o0) := fun a ha => Ct.of (lv := [some (.ref (gad G o0)), none, none]) (by decide) rfl (Nat.le_of_ble_eq_true rfl) rfl (fun p e s m args below meth c cx hr hlk => s_X8_cuts cx hr hlk h o0 hk_o0 a ha)
def p_X8_hasBucket (h : Hp) (o0 : Nat) (x1 : Int32) : Option (Int32 × Hp) :=
  if x1 < 0 then (some (0, h)) else (Option.bind (p_X8_bucketCount h o0) fun r1 => if r1.1 ≤ x1 then (some (0, r1.2)) else (if 16 ≤ x1 then (some (0, r1.2)) else (some (1, r1.2))))
set_option maxRecDepth 4000 in
theorem s_X8_hasBucket {p : Program} {l : Launch} {e : Env} {s : State} {m : MethodId} {args : Array Value} {below : List Frame} {meth : Method} {c : Code} {G : GT} (cx : CX p s m args c cX8_hasBucket 2 RX8 G) (hr : meth.sig.returnType = (some .boolean)) (hlk : meth.locks = false) (h : Hp) (o0 : Nat) (x1 : Int32) (hk_o0 : kd o0 = 7) : PF p l e (rmc 1 20) s m args below meth c 2 G 0 0 (QI below G args s) 0 [some (.ref (gad G o0)), some (.int x1)] [] h (p_X8_hasBucket h o0 x1) := by
  unfold p_X8_hasBucket
  refine f_iload_n (pc := 0) cx dX8_hasBucket_0 rfl rfl ?_
  refine f_if_lt (pc := 1) (tgt := 22) cx dX8_hasBucket_1 (by decide) (fun _ => ?_) (fun _ => ?_)
  · refine f_iconst (pc := 22) cx dX8_hasBucket_22 kc_iconst_0 ?_
    exact f_iret cx hr hlk (bb_n bb_0).1 dX8_hasBucket_23
  · refine f_iload_n (pc := 4) cx dX8_hasBucket_4 rfl rfl ?_
    refine f_aload_n (pc := 5) cx dX8_hasBucket_5 rfl rfl ?_
    refine f_bind (fun r1 hr1 => ?_)
    refine k_X8_104 (pc := 6) cx (c_X8_bucketCount l G _ o0 hk_o0 r1 hr1) hk_o0 ⟨by decide, by decide⟩ ⟨Nat.zero_le _, Nat.zero_le _⟩ (Nat.le_of_ble_eq_true rfl) dX8_hasBucket_6 ?_
    refine f_icmp_ge (pc := 9) (tgt := 22) cx dX8_hasBucket_9 (by decide) (fun _ => ?_) (fun _ => ?_)
    · refine f_iconst (pc := 22) cx dX8_hasBucket_22 kc_iconst_0 ?_
      exact f_iret cx hr hlk (bb_n bb_0).1 dX8_hasBucket_23
    · refine f_iload_n (pc := 12) cx dX8_hasBucket_12 rfl rfl ?_
      refine f_bipush (pc := 13) cx dX8_hasBucket_13 kc_bipush_16 ?_
      refine f_icmp_ge (pc := 15) (tgt := 22) cx dX8_hasBucket_15 (by decide) (fun _ => ?_) (fun _ => ?_)
      · refine f_iconst (pc := 22) cx dX8_hasBucket_22 kc_iconst_0 ?_
        exact f_iret cx hr hlk (bb_n bb_0).1 dX8_hasBucket_23
      · refine f_iconst (pc := 18) cx dX8_hasBucket_18 kc_iconst_1 ?_
        refine f_goto (pc := 19) (tgt := 23) cx dX8_hasBucket_19 (by decide) ?_
        exact f_iret cx hr hlk (bb_n bb_1).1 dX8_hasBucket_23
set_option maxRecDepth 4000 in
theorem c_X8_hasBucket (l : Launch) (G : GT) (h : Hp) (o0 : Nat) (x1 : Int32) (hk_o0 : kd o0 = 7) : CtI l G yX8_hasBucket cX8_hasBucket 2 (some .boolean) 1 20 [.ref (gad G o0), .int x1] h (p_X8_hasBucket h o0 x1) := fun a ha => Ct.of (lv := [some (.ref (gad G o0)), some (.int x1)]) (by decide) rfl (Nat.le_of_ble_eq_true rfl) rfl (fun p e s m args below meth c cx hr hlk => s_X8_hasBucket cx hr hlk h o0 x1 hk_o0 a ha)
def b_X8_placeFor_75 (o0 : Nat) (x1 : Int32) (x2 : Int32) (x3 : Int32) (k75 : Hp × Int32 → Option (Int32 × Hp)) (q : Hp × Int32) : Option (Int32 × Hp) :=
  if x3 ≤ q.2 then (Option.bind (p_X9_remainder q.1 x1 (q.1 (o0 + 1) 4)) fun r1 => some (x2 + r1.1, r1.2)) else (if ib q.2 16 then (if (q.1 (o0 + 16 + 1 + Int32.toNatClampNeg q.2) 6) = 0 then (some (q.2, q.1)) else (k75 (q.1, q.2 + 1))) else none)
def b_X8_placeFor_30 (o0 : Nat) (x1 : Int32) (x2 : Int32) (x3 : Int32) (k30 : Hp × Int32 → Option (Int32 × Hp)) (q : Hp × Int32) : Option (Int32 × Hp) :=
  if x3 ≤ q.2 then (lp (b_X8_placeFor_75 o0 x1 x2 x3) FU (q.1, x2)) else (if ib q.2 16 then (if (q.1 (o0 + 16 + 1 + Int32.toNatClampNeg q.2) 6) = 0 then (k30 (q.1, q.2 + 1)) else (if ib q.2 16 then (if (q.1 (o0 + 16 + 1 + Int32.toNatClampNeg q.2) 0) = x1 then (some (q.2, q.1)) else (k30 (q.1, q.2 + 1))) else none)) else none)
def p_X8_placeFor (h : Hp) (o0 : Nat) (x1 : Int32) : Option (Int32 × Hp) :=
  Option.bind (p_X8_setOf h o0 x1) fun r5 => nv (r5.1 * (r5.2 (o0 + 1) 4)) fun v6 => nv (if 16 < (v6 + (r5.2 (o0 + 1) 4)) then 16 else (v6 + (r5.2 (o0 + 1) 4))) fun v7 => lp (b_X8_placeFor_30 o0 x1 v6 v7) FU (r5.2, v6)
set_option maxRecDepth 4000 in
theorem s_X8_placeFor_75 {p : Program} {l : Launch} {e : Env} {s : State} {m : MethodId} {args : Array Value} {below : List Frame} {meth : Method} {c : Code} {G : GT} (cx : CX p s m args c cX8_placeFor 5 RX8 G) (hr : meth.sig.returnType = (some .int)) (hlk : meth.locks = false) (o0 : Nat) (x1 : Int32) (x2 : Int32) (x3 : Int32) (hk_o0 : kd o0 = 7) : ∀ (n : Nat) (q : Hp × Int32), PF p l e (rmc 2 42) s m args below meth c 5 G 0 0 (QI below G args s) 75 [some (.ref (gad G o0)), some (.int x1), some (.int x2), some (.int x3), some (.int q.2)] [] q.1 (lp (b_X8_placeFor_75 o0 x1 x2 x3) n q) := by
  refine f_lp (lvf := fun (q : Hp × Int32) => [some (.ref (gad G o0)), some (.int x1), some (.int x2), some (.int x3), some (.int q.2)]) (hf := fun (q : Hp × Int32) => q.1) (fun k75 hk75 q => ?_)
  show PF p l e (rmc 2 42) s m args below meth c 5 G 0 0 (QI below G args s) 75 [some (.ref (gad G o0)), some (.int x1), some (.int x2), some (.int x3), some (.int q.2)] [] q.1 (b_X8_placeFor_75 o0 x1 x2 x3 k75 q)
  unfold b_X8_placeFor_75
  refine f_iload (pc := 75) cx dX8_placeFor_75 rfl ?_
  refine f_iload_n (pc := 77) cx dX8_placeFor_77 rfl rfl ?_
  refine f_icmp_ge (pc := 78) (tgt := 103) cx dX8_placeFor_78 (by decide) (fun _ => ?_) (fun _ => ?_)
  · refine f_iload_n (pc := 103) cx dX8_placeFor_103 rfl rfl ?_
    refine f_iload_n (pc := 104) cx dX8_placeFor_104 rfl rfl ?_
    refine f_aload_n (pc := 105) cx dX8_placeFor_105 rfl rfl ?_
    refine g_X8_9 (pc := 106) cx hk_o0 dX8_placeFor_106 ?_
    refine f_iconst (pc := 109) cx dX8_placeFor_109 kc_iconst_4 ?_
    refine f_ialdk (pc := 110) (j := 4) (n := 8) cx (kf_7_0 hk_o0) (by decide) (by decide) kl_4 dX8_placeFor_110 ?_
    refine f_bind (fun r1 hr1 => ?_)
    refine k_X8_110 (pc := 111) cx (c_X9_remainder l G _ x1 (q.1 (o0 + 1) 4) r1 hr1) ⟨by decide, by decide⟩ ⟨Nat.zero_le _, Nat.zero_le _⟩ (Nat.le_of_ble_eq_true rfl) dX8_placeFor_111 ?_
    refine f_iadd (pc := 114) cx dX8_placeFor_114 ?_
    exact f_iret cx hr hlk rfl dX8_placeFor_115
  · refine f_aload_n (pc := 81) cx dX8_placeFor_81 rfl rfl ?_
    refine g_X8_24 (pc := 82) cx hk_o0 dX8_placeFor_82 ?_
    refine f_iload (pc := 85) cx dX8_placeFor_85 rfl ?_
    refine f_need (fun c2 => ?_)
    refine f_aldB (pc := 87) cx (kf_7_2 hk_o0) c2 dX8_placeFor_87 ?_
    refine g_X8_123 (pc := 88) cx (ka_b (kf_7_2 hk_o0) c2) dX8_placeFor_88 ?_
    refine f_if_ne (pc := 91) (tgt := 97) cx dX8_placeFor_91 (by decide) (fun _ => ?_) (fun _ => ?_)
    · refine f_iload (pc := 94) cx dX8_placeFor_94 rfl ?_
      exact f_iret cx hr hlk rfl dX8_placeFor_96
    · refine f_iinc4 (pc := 97) cx dX8_placeFor_97 kc_iconst_1 (by decide) rfl ?_
      refine f_goto (pc := 100) (tgt := 75) cx dX8_placeFor_100 (by decide) ?_
      exact f_weak (LSb.s (LSb.s (LSb.s (LSb.s (LSb.s LSb.e))))) (hk75 (q.1, q.2 + 1))
set_option maxRecDepth 4000 in
theorem s_X8_placeFor_30 {p : Program} {l : Launch} {e : Env} {s : State} {m : MethodId} {args : Array Value} {below : List Frame} {meth : Method} {c : Code} {G : GT} (cx : CX p s m args c cX8_placeFor 5 RX8 G) (hr : meth.sig.returnType = (some .int)) (hlk : meth.locks = false) (o0 : Nat) (x1 : Int32) (x2 : Int32) (x3 : Int32) (hk_o0 : kd o0 = 7) : ∀ (n : Nat) (q : Hp × Int32), PF p l e (rmc 2 42) s m args below meth c 5 G 0 0 (QI below G args s) 30 [some (.ref (gad G o0)), some (.int x1), some (.int x2), some (.int x3), some (.int q.2)] [] q.1 (lp (b_X8_placeFor_30 o0 x1 x2 x3) n q) := by
  refine f_lp (lvf := fun (q : Hp × Int32) => [some (.ref (gad G o0)), some (.int x1), some (.int x2), some (.int x3), some (.int q.2)]) (hf := fun (q : Hp × Int32) => q.1) (fun k30 hk30 q => ?_)
  show PF p l e (rmc 2 42) s m args below meth c 5 G 0 0 (QI below G args s) 30 [some (.ref (gad G o0)), some (.int x1), some (.int x2), some (.int x3), some (.int q.2)] [] q.1 (b_X8_placeFor_30 o0 x1 x2 x3 k30 q)
  unfold b_X8_placeFor_30
  refine f_iload (pc := 30) cx dX8_placeFor_30 rfl ?_
  refine f_iload_n (pc := 32) cx dX8_placeFor_32 rfl rfl ?_
  refine f_icmp_ge (pc := 33) (tgt := 72) cx dX8_placeFor_33 (by decide) (fun _ => ?_) (fun _ => ?_)
  · refine f_iload_n (pc := 72) cx dX8_placeFor_72 rfl rfl ?_
    refine f_istore4 (pc := 73) cx dX8_placeFor_73 (by decide) rfl ?_
    exact f_weak (LSb.s (LSb.s (LSb.s (LSb.s (LSb.s LSb.e))))) (s_X8_placeFor_75 cx hr hlk o0 x1 x2 x3 hk_o0 FU (q.1, x2))
  · refine f_aload_n (pc := 36) cx dX8_placeFor_36 rfl rfl ?_
    refine g_X8_24 (pc := 37) cx hk_o0 dX8_placeFor_37 ?_
    refine f_iload (pc := 40) cx dX8_placeFor_40 rfl ?_
    refine f_need (fun c3 => ?_)
    refine f_aldB (pc := 42) cx (kf_7_2 hk_o0) c3 dX8_placeFor_42 ?_
    refine g_X8_123 (pc := 43) cx (ka_b (kf_7_2 hk_o0) c3) dX8_placeFor_43 ?_
    refine f_if_eq (pc := 46) (tgt := 66) cx dX8_placeFor_46 (by decide) (fun _ => ?_) (fun _ => ?_)
    · refine f_iinc4 (pc := 66) cx dX8_placeFor_66 kc_iconst_1 (by decide) rfl ?_
      refine f_goto (pc := 69) (tgt := 30) cx dX8_placeFor_69 (by decide) ?_
      exact f_weak (LSb.s (LSb.s (LSb.s (LSb.s (LSb.s LSb.e))))) (hk30 (q.1, q.2 + 1))
    · refine f_aload_n (pc := 49) cx dX8_placeFor_49 rfl rfl ?_
      refine g_X8_24 (pc := 50) cx hk_o0 dX8_placeFor_50 ?_
      refine f_iload (pc := 53) cx dX8_placeFor_53 rfl ?_
      refine f_need (fun c4 => ?_)
      refine f_aldB (pc := 55) cx (kf_7_2 hk_o0) c4 dX8_placeFor_55 ?_
      refine g_X8_126 (pc := 56) cx (ka_b (kf_7_2 hk_o0) c4) dX8_placeFor_56 ?_
      refine f_iload_n (pc := 59) cx dX8_placeFor_59 rfl rfl ?_
      refine f_icmp_ne (pc := 60) (tgt := 66) cx dX8_placeFor_60 (by decide) (fun _ => ?_) (fun _ => ?_)
      · refine f_iload (pc := 63) cx dX8_placeFor_63 rfl ?_
        exact f_iret cx hr hlk rfl dX8_placeFor_65
      · refine f_iinc4 (pc := 66) cx dX8_placeFor_66 kc_iconst_1 (by decide) rfl ?_
        refine f_goto (pc := 69) (tgt := 30) cx dX8_placeFor_69 (by decide) ?_
        exact f_weak (LSb.s (LSb.s (LSb.s (LSb.s (LSb.s LSb.e))))) (hk30 (q.1, q.2 + 1))
set_option maxRecDepth 4000 in
theorem s_X8_placeFor {p : Program} {l : Launch} {e : Env} {s : State} {m : MethodId} {args : Array Value} {below : List Frame} {meth : Method} {c : Code} {G : GT} (cx : CX p s m args c cX8_placeFor 5 RX8 G) (hr : meth.sig.returnType = (some .int)) (hlk : meth.locks = false) (h : Hp) (o0 : Nat) (x1 : Int32) (hk_o0 : kd o0 = 7) : PF p l e (rmc 2 42) s m args below meth c 5 G 0 0 (QI below G args s) 0 [some (.ref (gad G o0)), some (.int x1), none, none, none] [] h (p_X8_placeFor h o0 x1) := by
  unfold p_X8_placeFor
  refine f_aload_n (pc := 0) cx dX8_placeFor_0 rfl rfl ?_
  refine f_iload_n (pc := 1) cx dX8_placeFor_1 rfl rfl ?_
  refine f_bind (fun r5 hr5 => ?_)
  refine k_X8_114 (pc := 2) cx (c_X8_setOf l G _ o0 x1 hk_o0 r5 hr5) hk_o0 ⟨by decide, by decide⟩ ⟨Nat.zero_le _, Nat.zero_le _⟩ (Nat.le_of_ble_eq_true rfl) dX8_placeFor_2 ?_
  refine f_aload_n (pc := 5) cx dX8_placeFor_5 rfl rfl ?_
  refine g_X8_9 (pc := 6) cx hk_o0 dX8_placeFor_6 ?_
  refine f_iconst (pc := 9) cx dX8_placeFor_9 kc_iconst_4 ?_
  refine f_ialdk (pc := 10) (j := 4) (n := 8) cx (kf_7_0 hk_o0) (by decide) (by decide) kl_4 dX8_placeFor_10 ?_
  refine f_imul (pc := 11) cx dX8_placeFor_11 ?_
  refine f_nvi (fun v6 => ?_)
  refine f_istore2 (pc := 12) cx dX8_placeFor_12 (by decide) rfl ?_
  refine f_iload_n (pc := 13) cx dX8_placeFor_13 rfl rfl ?_
  refine f_aload_n (pc := 14) cx dX8_placeFor_14 rfl rfl ?_
  refine g_X8_9 (pc := 15) cx hk_o0 dX8_placeFor_15 ?_
  refine f_iconst (pc := 18) cx dX8_placeFor_18 kc_iconst_4 ?_
  refine f_ialdk (pc := 19) (j := 4) (n := 8) cx (kf_7_0 hk_o0) (by decide) (by decide) kl_4 dX8_placeFor_19 ?_
  refine f_iadd (pc := 20) cx dX8_placeFor_20 ?_
  refine f_bipush (pc := 21) cx dX8_placeFor_21 kc_bipush_16 ?_
  refine k_X8_118 (pc := 23) cx ⟨by decide, by decide⟩ ⟨Nat.zero_le _, Nat.zero_le _⟩ (Nat.le_of_ble_eq_true rfl) dX8_placeFor_23 ?_
  refine f_nvi (fun v7 => ?_)
  refine f_istore3 (pc := 26) cx dX8_placeFor_26 (by decide) rfl ?_
  refine f_iload_n (pc := 27) cx dX8_placeFor_27 rfl rfl ?_
  refine f_istore4 (pc := 28) cx dX8_placeFor_28 (by decide) rfl ?_
  exact f_weak (LSb.s (LSb.s (LSb.s (LSb.s (LSb.s LSb.e))))) (s_X8_placeFor_30 cx hr hlk o0 x1 v6 v7 hk_o0 FU (r5.2, v6))
set_option maxRecDepth 4000 in
theorem c_X8_placeFor (l : Launch) (G : GT) (h : Hp) (o0 : Nat) (x1 : Int32) (hk_o0 : kd o0 = 7) : CtI l G yX8_placeFor cX8_placeFor 5 (some .int) 2 42 [.ref (gad G o0), .int x1] h (p_X8_placeFor h o0 x1) := fun a ha => Ct.of (lv := [some (.ref (gad G o0)), some (.int x1), none, none, none]) (by decide) rfl (Nat.le_of_ble_eq_true rfl) rfl (fun p e s m args below meth c cx hr hlk => s_X8_placeFor cx hr hlk h o0 x1 hk_o0 a ha)
def b_X8_pushOut_14 (o0 : Nat) (x2 : Int32) (k14 : Hp × Int32 × Int32 → Option Hp) (q : Hp × Int32 × Int32) : Option Hp :=
  if x2 ≤ q.2.2 then (if ib q.2.1 16 then (Option.bind (p_X8_unlink q.1 o0 (o0 + 16 + 1 + Int32.toNatClampNeg q.2.1)) fun r2 => Option.bind (p_X1_end r2.2 (o0 + 2) r2.1 3 (r2.2 o0 7)) fun r3 => Option.bind (p_X7_note r3 (o0 + 40) 4 q.2.1) fun r4 => some r4) else none) else (if ib q.2.2 16 then (if ib q.2.1 16 then (if (q.1 (o0 + 16 + 1 + Int32.toNatClampNeg q.2.2) 4) ≤ (q.1 (o0 + 16 + 1 + Int32.toNatClampNeg q.2.1) 4) then (k14 (q.1, q.2.1, q.2.2 + 1)) else (k14 (q.1, q.2.2, q.2.2 + 1))) else none) else none)
def p_X8_pushOut (h : Hp) (o0 : Nat) : Option Hp :=
  Option.bind (p_X8_bucketCount h o0) fun r7 => nv (if 16 < r7.1 then 16 else r7.1) fun v8 => lp (b_X8_pushOut_14 o0 v8) FU (r7.2, 0, 1)
set_option maxRecDepth 4000 in
theorem s_X8_pushOut_14 {p : Program} {l : Launch} {e : Env} {s : State} {m : MethodId} {args : Array Value} {below : List Frame} {meth : Method} {c : Code} {G : GT} (cx : CX p s m args c cX8_pushOut 4 RX8 G) (hr : meth.sig.returnType = none) (hlk : meth.locks = false) (o0 : Nat) (x2 : Int32) (hk_o0 : kd o0 = 7) : ∀ (n : Nat) (q : Hp × Int32 × Int32), PF p l e (rmc 1 27) s m args below meth c 4 G 0 0 (QV below G args s) 14 [some (.ref (gad G o0)), some (.int q.2.1), some (.int x2), some (.int q.2.2)] [] q.1 (lp (b_X8_pushOut_14 o0 x2) n q) := by
  refine f_lp (lvf := fun (q : Hp × Int32 × Int32) => [some (.ref (gad G o0)), some (.int q.2.1), some (.int x2), some (.int q.2.2)]) (hf := fun (q : Hp × Int32 × Int32) => q.1) (fun k14 hk14 q => ?_)
  show PF p l e (rmc 1 27) s m args below meth c 4 G 0 0 (QV below G args s) 14 [some (.ref (gad G o0)), some (.int q.2.1), some (.int x2), some (.int q.2.2)] [] q.1 (b_X8_pushOut_14 o0 x2 k14 q)
  unfold b_X8_pushOut_14
  refine f_iload_n (pc := 14) cx dX8_pushOut_14 rfl rfl ?_
  refine f_iload_n (pc := 15) cx dX8_pushOut_15 rfl rfl ?_
  refine f_icmp_ge (pc := 16) (tgt := 48) cx dX8_pushOut_16 (by decide) (fun _ => ?_) (fun _ => ?_)
  · refine f_aload_n (pc := 48) cx dX8_pushOut_48 rfl rfl ?_
    refine g_X8_18 (pc := 49) cx hk_o0 dX8_pushOut_49 ?_
    refine f_aload_n (pc := 52) cx dX8_pushOut_52 rfl rfl ?_
    refine f_aload_n (pc := 53) cx dX8_pushOut_53 rfl rfl ?_
    refine g_X8_24 (pc := 54) cx hk_o0 dX8_pushOut_54 ?_
    refine f_iload_n (pc := 57) cx dX8_pushOut_57 rfl rfl ?_
    refine f_need (fun c1 => ?_)
    refine f_aldB (pc := 58) cx (kf_7_2 hk_o0) c1 dX8_pushOut_58 ?_
    refine f_bind (fun r2 hr2 => ?_)
    refine k_X8_181 (pc := 59) cx (c_X8_unlink l G _ o0 (o0 + 16 + 1 + Int32.toNatClampNeg q.2.1) hk_o0 (ka_b (kf_7_2 hk_o0) c1) r2 hr2) hk_o0 ⟨by decide, by decide⟩ ⟨Nat.zero_le _, Nat.zero_le _⟩ (Nat.le_of_ble_eq_true rfl) dX8_pushOut_59 ?_
    refine f_iconst (pc := 62) cx dX8_pushOut_62 kc_iconst_3 ?_
    refine f_aload_n (pc := 63) cx dX8_pushOut_63 rfl rfl ?_
    refine g_X8_52 (pc := 64) cx hk_o0 dX8_pushOut_64 ?_
    refine f_bind (fun r3 hr3 => ?_)
    refine k_X8_185 (pc := 67) cx (c_X1_end l G _ (o0 + 2) r2.1 3 (r2.2 o0 7) (kf_7_1 hk_o0) r3 hr3) (kf_7_1 hk_o0) ⟨by decide, by decide⟩ ⟨Nat.zero_le _, Nat.zero_le _⟩ (Nat.le_of_ble_eq_true rfl) dX8_pushOut_67 ?_
    refine f_aload_n (pc := 70) cx dX8_pushOut_70 rfl rfl ?_
    refine g_X8_44 (pc := 71) cx hk_o0 dX8_pushOut_71 ?_
    refine f_iconst (pc := 74) cx dX8_pushOut_74 kc_iconst_4 ?_
    refine f_iload_n (pc := 75) cx dX8_pushOut_75 rfl rfl ?_
    refine f_bind (fun r4 hr4 => ?_)
    refine k_X8_188 (pc := 76) cx (c_X7_note l G _ (o0 + 40) 4 q.2.1 (kf_7_5 hk_o0) r4 hr4) (kf_7_5 hk_o0) ⟨by decide, by decide⟩ ⟨Nat.zero_le _, Nat.zero_le _⟩ (Nat.le_of_ble_eq_true rfl) dX8_pushOut_76 ?_
    exact f_vret cx hr hlk dX8_pushOut_79
  · refine f_aload_n (pc := 19) cx dX8_pushOut_19 rfl rfl ?_
    refine g_X8_24 (pc := 20) cx hk_o0 dX8_pushOut_20 ?_
    refine f_iload_n (pc := 23) cx dX8_pushOut_23 rfl rfl ?_
    refine f_need (fun c5 => ?_)
    refine f_aldB (pc := 24) cx (kf_7_2 hk_o0) c5 dX8_pushOut_24 ?_
    refine g_X8_176 (pc := 25) cx (ka_b (kf_7_2 hk_o0) c5) dX8_pushOut_25 ?_
    refine f_aload_n (pc := 28) cx dX8_pushOut_28 rfl rfl ?_
    refine g_X8_24 (pc := 29) cx hk_o0 dX8_pushOut_29 ?_
    refine f_iload_n (pc := 32) cx dX8_pushOut_32 rfl rfl ?_
    refine f_need (fun c6 => ?_)
    refine f_aldB (pc := 33) cx (kf_7_2 hk_o0) c6 dX8_pushOut_33 ?_
    refine g_X8_176 (pc := 34) cx (ka_b (kf_7_2 hk_o0) c6) dX8_pushOut_34 ?_
    refine f_icmp_le (pc := 37) (tgt := 42) cx dX8_pushOut_37 (by decide) (fun _ => ?_) (fun _ => ?_)
    · refine f_iinc3 (pc := 42) cx dX8_pushOut_42 kc_iconst_1 (by decide) rfl ?_
      refine f_goto (pc := 45) (tgt := 14) cx dX8_pushOut_45 (by decide) ?_
      exact f_weak (LSb.s (LSb.s (LSb.s (LSb.s LSb.e)))) (hk14 (q.1, q.2.1, q.2.2 + 1))
    · refine f_iload_n (pc := 40) cx dX8_pushOut_40 rfl rfl ?_
      refine f_istore1 (pc := 41) cx dX8_pushOut_41 (by decide) rfl ?_
      refine f_iinc3 (pc := 42) cx dX8_pushOut_42 kc_iconst_1 (by decide) rfl ?_
      refine f_goto (pc := 45) (tgt := 14) cx dX8_pushOut_45 (by decide) ?_
      exact f_weak (LSb.s (LSb.s (LSb.s (LSb.s LSb.e)))) (hk14 (q.1, q.2.2, q.2.2 + 1))
set_option maxRecDepth 4000 in
theorem s_X8_pushOut {p : Program} {l : Launch} {e : Env} {s : State} {m : MethodId} {args : Array Value} {below : List Frame} {meth : Method} {c : Code} {G : GT} (cx : CX p s m args c cX8_pushOut 4 RX8 G) (hr : meth.sig.returnType = none) (hlk : meth.locks = false) (h : Hp) (o0 : Nat) (hk_o0 : kd o0 = 7) : PF p l e (rmc 1 27) s m args below meth c 4 G 0 0 (QV below G args s) 0 [some (.ref (gad G o0)), none, none, none] [] h (p_X8_pushOut h o0) := by
  unfold p_X8_pushOut
  refine f_iconst (pc := 0) cx dX8_pushOut_0 kc_iconst_0 ?_
  refine f_istore1 (pc := 1) cx dX8_pushOut_1 (by decide) rfl ?_
  refine f_aload_n (pc := 2) cx dX8_pushOut_2 rfl rfl ?_
  refine f_bind (fun r7 hr7 => ?_)
  refine k_X8_104 (pc := 3) cx (c_X8_bucketCount l G _ o0 hk_o0 r7 hr7) hk_o0 ⟨by decide, by decide⟩ ⟨Nat.zero_le _, Nat.zero_le _⟩ (Nat.le_of_ble_eq_true rfl) dX8_pushOut_3 ?_
  refine f_bipush (pc := 6) cx dX8_pushOut_6 kc_bipush_16 ?_
  refine k_X8_118 (pc := 8) cx ⟨by decide, by decide⟩ ⟨Nat.zero_le _, Nat.zero_le _⟩ (Nat.le_of_ble_eq_true rfl) dX8_pushOut_8 ?_
  refine f_nvi (fun v8 => ?_)
  refine f_istore2 (pc := 11) cx dX8_pushOut_11 (by decide) rfl ?_
  refine f_iconst (pc := 12) cx dX8_pushOut_12 kc_iconst_1 ?_
  refine f_istore3 (pc := 13) cx dX8_pushOut_13 (by decide) rfl ?_
  exact f_weak (LSb.s (LSb.s (LSb.s (LSb.s LSb.e)))) (s_X8_pushOut_14 cx hr hlk o0 v8 hk_o0 FU (r7.2, 0, 1))
set_option maxRecDepth 4000 in
theorem c_X8_pushOut (l : Launch) (G : GT) (h : Hp) (o0 : Nat) (hk_o0 : kd o0 = 7) : CtV l G yX8_pushOut cX8_pushOut 4 none 1 27 [.ref (gad G o0)] h (p_X8_pushOut h o0) := fun a ha => Ct.of (lv := [some (.ref (gad G o0)), none, none, none]) (by decide) rfl (Nat.le_of_ble_eq_true rfl) rfl (fun p e s m args below meth c cx hr hlk => s_X8_pushOut cx hr hlk h o0 hk_o0 a ha)
def q_X8_take_67 (h : Hp) (o0 : Nat) (o1 : Nat) (x2 : Int32) (x3 : Int32) : Option (Int32 × Hp) :=
  if x3 < (h (o0 + 1) 0) then (nv (hp h o1 10 (-2)) fun h1 => some (x2, h1)) else (if (h (o0 + 1) 6) ≤ (h o1 4) then (if (h o1 10) = (-2) then (nv (hp h o1 10 ((h o0 7) + (h (o0 + 1) 1))) fun h2 => some (x2, h2)) else (if (h o0 7) < (h o1 10) then (nv (hp h o0 11 0) fun h3 => some (x2, h3)) else (nv (hp h o0 11 1) fun h4 => some (x2, h4)))) else (nv (hp h o1 10 (-2)) fun h5 => some (x2, h5)))
def p_X8_take (h : Hp) (o0 : Nat) (o1 : Nat) : Option (Int32 × Hp) :=
  Option.bind (p_X8_unlink h o0 o1) fun r6 => nv (hp r6.2 o0 11 0) fun h7 => Option.bind (p_X1_has h7 (o0 + 2) r6.1) fun r8 => if r8.1 = 0 then (nv (hp r8.2 o1 10 (-2)) fun h9 => some (r6.1, h9)) else (if ib r6.1 200 then (nv ((r8.2 o0 7) - (r8.2 (o0 + 2 + 4) (Int32.toNatClampNeg r6.1))) fun v11 => if v11 < (r8.2 (o0 + 1) 0) then (q_X8_take_67 r8.2 o0 o1 r6.1 v11) else (nv (hp r8.2 o0 12 (if v11 < (r8.2 o0 12) then v11 else (r8.2 o0 12))) fun h12 => q_X8_take_67 h12 o0 o1 r6.1 v11)) else none)
set_option maxRecDepth 4000 in
theorem s_X8_take_67 {p : Program} {l : Launch} {e : Env} {s : State} {m : MethodId} {args : Array Value} {below : List Frame} {meth : Method} {c : Code} {G : GT} (cx : CX p s m args c cX8_take 4 RX8 G) (hr : meth.sig.returnType = (some .int)) (hlk : meth.locks = false) (h : Hp) (o0 : Nat) (o1 : Nat) (x2 : Int32) (x3 : Int32) (hk_o0 : kd o0 = 7) (hk_o1 : kd o1 = 0) : PF p l e (rmc 1 27) s m args below meth c 4 G 0 0 (QI below G args s) 67 [some (.ref (gad G o0)), some (.ref (gad G o1)), some (.int x2), some (.int x3)] [] h (q_X8_take_67 h o0 o1 x2 x3) := by
  unfold q_X8_take_67
  refine f_iload_n (pc := 67) cx dX8_take_67 rfl rfl ?_
  refine f_aload_n (pc := 68) cx dX8_take_68 rfl rfl ?_
  refine g_X8_9 (pc := 69) cx hk_o0 dX8_take_69 ?_
  refine f_iconst (pc := 72) cx dX8_take_72 kc_iconst_0 ?_
  refine f_ialdk (pc := 73) (j := 0) (n := 8) cx (kf_7_0 hk_o0) (by decide) (by decide) kl_0 dX8_take_73 ?_
  refine f_icmp_lt (pc := 74) (tgt := 91) cx dX8_take_74 (by decide) (fun _ => ?_) (fun _ => ?_)
  · refine f_aload_n (pc := 91) cx dX8_take_91 rfl rfl ?_
    refine f_bipush (pc := 92) cx dX8_take_92 kc_bipush_m2 ?_
    refine u_X8_240 (pc := 94) cx hk_o1 dX8_take_94 ?_
    refine f_nvh (fun h1 => ?_)
    refine f_goto (pc := 97) (tgt := 147) cx dX8_take_97 (by decide) ?_
    refine f_iload_n (pc := 147) cx dX8_take_147 rfl rfl ?_
    exact f_iret cx hr hlk rfl dX8_take_148
  · refine f_aload_n (pc := 77) cx dX8_take_77 rfl rfl ?_
    refine g_X8_176 (pc := 78) cx hk_o1 dX8_take_78 ?_
    refine f_aload_n (pc := 81) cx dX8_take_81 rfl rfl ?_
    refine g_X8_9 (pc := 82) cx hk_o0 dX8_take_82 ?_
    refine f_bipush (pc := 85) cx dX8_take_85 kc_bipush_6 ?_
    refine f_ialdk (pc := 87) (j := 6) (n := 8) cx (kf_7_0 hk_o0) (by decide) (by decide) kl_6 dX8_take_87 ?_
    refine f_icmp_ge (pc := 88) (tgt := 100) cx dX8_take_88 (by decide) (fun _ => ?_) (fun _ => ?_)
    · refine f_aload_n (pc := 100) cx dX8_take_100 rfl rfl ?_
      refine g_X8_240 (pc := 101) cx hk_o1 dX8_take_101 ?_
      refine f_bipush (pc := 104) cx dX8_take_104 kc_bipush_m2 ?_
      refine f_icmp_ne (pc := 106) (tgt := 127) cx dX8_take_106 (by decide) (fun _ => ?_) (fun _ => ?_)
      · refine f_aload_n (pc := 109) cx dX8_take_109 rfl rfl ?_
        refine f_aload_n (pc := 110) cx dX8_take_110 rfl rfl ?_
        refine g_X8_52 (pc := 111) cx hk_o0 dX8_take_111 ?_
        refine f_aload_n (pc := 114) cx dX8_take_114 rfl rfl ?_
        refine g_X8_9 (pc := 115) cx hk_o0 dX8_take_115 ?_
        refine f_iconst (pc := 118) cx dX8_take_118 kc_iconst_1 ?_
        refine f_ialdk (pc := 119) (j := 1) (n := 8) cx (kf_7_0 hk_o0) (by decide) (by decide) kl_1 dX8_take_119 ?_
        refine f_iadd (pc := 120) cx dX8_take_120 ?_
        refine u_X8_240 (pc := 121) cx hk_o1 dX8_take_121 ?_
        refine f_nvh (fun h2 => ?_)
        refine f_goto (pc := 124) (tgt := 147) cx dX8_take_124 (by decide) ?_
        refine f_iload_n (pc := 147) cx dX8_take_147 rfl rfl ?_
        exact f_iret cx hr hlk rfl dX8_take_148
      · refine f_aload_n (pc := 127) cx dX8_take_127 rfl rfl ?_
        refine f_aload_n (pc := 128) cx dX8_take_128 rfl rfl ?_
        refine g_X8_52 (pc := 129) cx hk_o0 dX8_take_129 ?_
        refine f_aload_n (pc := 132) cx dX8_take_132 rfl rfl ?_
        refine g_X8_240 (pc := 133) cx hk_o1 dX8_take_133 ?_
        refine f_icmp_lt (pc := 136) (tgt := 143) cx dX8_take_136 (by decide) (fun _ => ?_) (fun _ => ?_)
        · refine f_iconst (pc := 143) cx dX8_take_143 kc_iconst_0 ?_
          refine u_X8_64 (pc := 144) cx hk_o0 bb_0 dX8_take_144 ?_
          refine f_nvh (fun h3 => ?_)
          refine f_iload_n (pc := 147) cx dX8_take_147 rfl rfl ?_
          exact f_iret cx hr hlk rfl dX8_take_148
        · refine f_iconst (pc := 139) cx dX8_take_139 kc_iconst_1 ?_
          refine f_goto (pc := 140) (tgt := 144) cx dX8_take_140 (by decide) ?_
          refine u_X8_64 (pc := 144) cx hk_o0 bb_1 dX8_take_144 ?_
          refine f_nvh (fun h4 => ?_)
          refine f_iload_n (pc := 147) cx dX8_take_147 rfl rfl ?_
          exact f_iret cx hr hlk rfl dX8_take_148
    · refine f_aload_n (pc := 91) cx dX8_take_91 rfl rfl ?_
      refine f_bipush (pc := 92) cx dX8_take_92 kc_bipush_m2 ?_
      refine u_X8_240 (pc := 94) cx hk_o1 dX8_take_94 ?_
      refine f_nvh (fun h5 => ?_)
      refine f_goto (pc := 97) (tgt := 147) cx dX8_take_97 (by decide) ?_
      refine f_iload_n (pc := 147) cx dX8_take_147 rfl rfl ?_
      exact f_iret cx hr hlk rfl dX8_take_148
set_option maxRecDepth 4000 in
theorem s_X8_take {p : Program} {l : Launch} {e : Env} {s : State} {m : MethodId} {args : Array Value} {below : List Frame} {meth : Method} {c : Code} {G : GT} (cx : CX p s m args c cX8_take 4 RX8 G) (hr : meth.sig.returnType = (some .int)) (hlk : meth.locks = false) (h : Hp) (o0 : Nat) (o1 : Nat) (hk_o0 : kd o0 = 7) (hk_o1 : kd o1 = 0) : PF p l e (rmc 1 27) s m args below meth c 4 G 0 0 (QI below G args s) 0 [some (.ref (gad G o0)), some (.ref (gad G o1)), none, none] [] h (p_X8_take h o0 o1) := by
  unfold p_X8_take
  refine f_aload_n (pc := 0) cx dX8_take_0 rfl rfl ?_
  refine f_aload_n (pc := 1) cx dX8_take_1 rfl rfl ?_
  refine f_bind (fun r6 hr6 => ?_)
  refine k_X8_181 (pc := 2) cx (c_X8_unlink l G _ o0 o1 hk_o0 hk_o1 r6 hr6) hk_o0 ⟨by decide, by decide⟩ ⟨Nat.zero_le _, Nat.zero_le _⟩ (Nat.le_of_ble_eq_true rfl) dX8_take_2 ?_
  refine f_istore2 (pc := 5) cx dX8_take_5 (by decide) rfl ?_
  refine f_aload_n (pc := 6) cx dX8_take_6 rfl rfl ?_
  refine f_iconst (pc := 7) cx dX8_take_7 kc_iconst_0 ?_
  refine u_X8_64 (pc := 8) cx hk_o0 bb_0 dX8_take_8 ?_
  refine f_nvh (fun h7 => ?_)
  refine f_aload_n (pc := 11) cx dX8_take_11 rfl rfl ?_
  refine g_X8_18 (pc := 12) cx hk_o0 dX8_take_12 ?_
  refine f_iload_n (pc := 15) cx dX8_take_15 rfl rfl ?_
  refine f_bind (fun r8 hr8 => ?_)
  refine k_X8_162 (pc := 16) cx (c_X1_has l G _ (o0 + 2) r6.1 (kf_7_1 hk_o0) r8 hr8) (kf_7_1 hk_o0) ⟨by decide, by decide⟩ ⟨Nat.zero_le _, Nat.zero_le _⟩ (Nat.le_of_ble_eq_true rfl) dX8_take_16 ?_
  refine f_if_ne (pc := 19) (tgt := 30) cx dX8_take_19 (by decide) (fun _ => ?_) (fun _ => ?_)
  · refine f_aload_n (pc := 22) cx dX8_take_22 rfl rfl ?_
    refine f_bipush (pc := 23) cx dX8_take_23 kc_bipush_m2 ?_
    refine u_X8_240 (pc := 25) cx hk_o1 dX8_take_25 ?_
    refine f_nvh (fun h9 => ?_)
    refine f_iload_n (pc := 28) cx dX8_take_28 rfl rfl ?_
    exact f_iret cx hr hlk rfl dX8_take_29
  · refine f_aload_n (pc := 30) cx dX8_take_30 rfl rfl ?_
    refine g_X8_52 (pc := 31) cx hk_o0 dX8_take_31 ?_
    refine f_aload_n (pc := 34) cx dX8_take_34 rfl rfl ?_
    refine g_X8_18 (pc := 35) cx hk_o0 dX8_take_35 ?_
    refine g_X8_243 (pc := 38) cx (kf_7_1 hk_o0) dX8_take_38 ?_
    refine f_iload_n (pc := 41) cx dX8_take_41 rfl rfl ?_
    refine f_need (fun c10 => ?_)
    refine f_iald (pc := 42) (n := 200) cx (kf_1_3 (kf_7_1 hk_o0)) (by decide) c10 dX8_take_42 ?_
    refine f_isub (pc := 43) cx dX8_take_43 ?_
    refine f_nvi (fun v11 => ?_)
    refine f_istore3 (pc := 44) cx dX8_take_44 (by decide) rfl ?_
    refine f_iload_n (pc := 45) cx dX8_take_45 rfl rfl ?_
    refine f_aload_n (pc := 46) cx dX8_take_46 rfl rfl ?_
    refine g_X8_9 (pc := 47) cx hk_o0 dX8_take_47 ?_
    refine f_iconst (pc := 50) cx dX8_take_50 kc_iconst_0 ?_
    refine f_ialdk (pc := 51) (j := 0) (n := 8) cx (kf_7_0 hk_o0) (by decide) (by decide) kl_0 dX8_take_51 ?_
    refine f_icmp_lt (pc := 52) (tgt := 67) cx dX8_take_52 (by decide) (fun _ => ?_) (fun _ => ?_)
    · exact f_weak (LSb.s (LSb.s (LSb.s (LSb.s LSb.e)))) (s_X8_take_67 cx hr hlk _ o0 o1 r6.1 v11 hk_o0 hk_o1)
    · refine f_aload_n (pc := 55) cx dX8_take_55 rfl rfl ?_
      refine f_aload_n (pc := 56) cx dX8_take_56 rfl rfl ?_
      refine g_X8_69 (pc := 57) cx hk_o0 dX8_take_57 ?_
      refine f_iload_n (pc := 60) cx dX8_take_60 rfl rfl ?_
      refine k_X8_118 (pc := 61) cx ⟨by decide, by decide⟩ ⟨Nat.zero_le _, Nat.zero_le _⟩ (Nat.le_of_ble_eq_true rfl) dX8_take_61 ?_
      refine u_X8_69 (pc := 64) cx hk_o0 dX8_take_64 ?_
      refine f_nvh (fun h12 => ?_)
      exact f_weak (LSb.s (LSb.s (LSb.s (LSb.s LSb.e)))) (s_X8_take_67 cx hr hlk _ o0 o1 r6.1 v11 hk_o0 hk_o1)
set_option maxRecDepth 4000 in
theorem c_X8_take (l : Launch) (G : GT) (h : Hp) (o0 : Nat) (o1 : Nat) (hk_o0 : kd o0 = 7) (hk_o1 : kd o1 = 0) : CtI l G yX8_take cX8_take 4 (some .int) 1 27 [.ref (gad G o0), .ref (gad G o1)] h (p_X8_take h o0 o1) := fun a ha => Ct.of (lv := [some (.ref (gad G o0)), some (.ref (gad G o1)), none, none]) (by decide) rfl (Nat.le_of_ble_eq_true rfl) rfl (fun p e s m args below meth c cx hr hlk => s_X8_take cx hr hlk h o0 o1 hk_o0 hk_o1 a ha)
def q_X8_arrive_83 (h : Hp) (o0 : Nat) (x1 : Int32) (x2 : Int32) (x3 : Int32) (x4 : Int32) (x5 : Int32) (o6 : Nat) : Option (Int32 × Hp) :=
  Option.bind (p_X1_add h (o0 + 2) x1 x2 x3 (h o0 7) x4 x5 (h o6 0)) fun r1 => Option.bind (p_X8_link r1.2 o0 o6 r1.1) fun r2 => nv (hp r2 o0 10 (if (r2 o0 10) < (r2 o0 8) then (r2 o0 8) else (r2 o0 10))) fun h3 => if (h3 o0 8) ≤ (h3 (o0 + 1) 5) then (some (r1.1, h3)) else (Option.bind (p_X8_pushOut h3 o0) fun r4 => some (r1.1, r4))
def p_X8_arrive (h : Hp) (o0 : Nat) (x1 : Int32) (x2 : Int32) (x3 : Int32) (x4 : Int32) : Option (Int32 × Hp) :=
  Option.bind (p_X8_placeFor h o0 x1) fun r5 => if 200 ≤ (r5.2 (o0 + 2) 13) then (some ((-2), r5.2)) else (Option.bind (p_X8_hasBucket r5.2 o0 r5.1) fun r6 => if r6.1 = 0 then (some ((-2), r6.2)) else (if ib r5.1 16 then (if (r6.2 (o0 + 16 + 1 + Int32.toNatClampNeg r5.1) 6) = 0 then (Option.bind (p_X0_begin r6.2 (o0 + 16 + 1 + Int32.toNatClampNeg r5.1) x1 (r6.2 (o0 + 1) 2) (r6.2 (o0 + 2) 13)) fun r8 => nv (hp r8 (o0 + 16 + 1 + Int32.toNatClampNeg r5.1) 6 1) fun h9 => Option.bind (p_X2_addNew h9 (o0 + 33) r5.1) fun r10 => q_X8_arrive_83 r10 o0 x1 x2 x3 x4 r5.1 (o0 + 16 + 1 + Int32.toNatClampNeg r5.1)) else (q_X8_arrive_83 r6.2 o0 x1 x2 x3 x4 r5.1 (o0 + 16 + 1 + Int32.toNatClampNeg r5.1))) else none))
set_option maxRecDepth 4000 in
theorem s_X8_arrive_83 {p : Program} {l : Launch} {e : Env} {s : State} {m : MethodId} {args : Array Value} {below : List Frame} {meth : Method} {c : Code} {G : GT} (cx : CX p s m args c cX8_arrive 8 RX8 G) (hr : meth.sig.returnType = (some .int)) (hlk : meth.locks = false) (h : Hp) (o0 : Nat) (x1 : Int32) (x2 : Int32) (x3 : Int32) (x4 : Int32) (x5 : Int32) (o6 : Nat) (hk_o0 : kd o0 = 7) (hk_o6 : kd o6 = 0) : PF p l e (rmc 3 66) s m args below meth c 8 G 0 0 (QI below G args s) 83 [some (.ref (gad G o0)), some (.int x1), some (.int x2), some (.int x3), some (.int x4), some (.int x5), some (.ref (gad G o6)), none] [] h (q_X8_arrive_83 h o0 x1 x2 x3 x4 x5 o6) := by
  unfold q_X8_arrive_83
  refine f_aload_n (pc := 83) cx dX8_arrive_83 rfl rfl ?_
  refine g_X8_18 (pc := 84) cx hk_o0 dX8_arrive_84 ?_
  refine f_iload_n (pc := 87) cx dX8_arrive_87 rfl rfl ?_
  refine f_iload_n (pc := 88) cx dX8_arrive_88 rfl rfl ?_
  refine f_iload_n (pc := 89) cx dX8_arrive_89 rfl rfl ?_
  refine f_aload_n (pc := 90) cx dX8_arrive_90 rfl rfl ?_
  refine g_X8_52 (pc := 91) cx hk_o0 dX8_arrive_91 ?_
  refine f_iload (pc := 94) cx dX8_arrive_94 rfl ?_
  refine f_iload (pc := 96) cx dX8_arrive_96 rfl ?_
  refine f_aload (pc := 98) cx dX8_arrive_98 rfl ?_
  refine g_X8_126 (pc := 100) cx hk_o6 dX8_arrive_100 ?_
  refine f_bind (fun r1 hr1 => ?_)
  refine k_X8_148 (pc := 103) cx (c_X1_add l G _ (o0 + 2) x1 x2 x3 (h o0 7) x4 x5 (h o6 0) (kf_7_1 hk_o0) r1 hr1) (kf_7_1 hk_o0) ⟨by decide, by decide⟩ ⟨Nat.zero_le _, Nat.zero_le _⟩ (Nat.le_of_ble_eq_true rfl) dX8_arrive_103 ?_
  refine f_istore7 (pc := 106) cx dX8_arrive_106 (by decide) rfl ?_
  refine f_aload_n (pc := 108) cx dX8_arrive_108 rfl rfl ?_
  refine f_aload (pc := 109) cx dX8_arrive_109 rfl ?_
  refine f_iload (pc := 111) cx dX8_arrive_111 rfl ?_
  refine f_bind (fun r2 hr2 => ?_)
  refine k_X8_152 (pc := 113) cx (c_X8_link l G _ o0 o6 r1.1 hk_o0 hk_o6 r2 hr2) hk_o0 ⟨by decide, by decide⟩ ⟨Nat.zero_le _, Nat.zero_le _⟩ (Nat.le_of_ble_eq_true rfl) dX8_arrive_113 ?_
  refine f_aload_n (pc := 116) cx dX8_arrive_116 rfl rfl ?_
  refine f_aload_n (pc := 117) cx dX8_arrive_117 rfl rfl ?_
  refine g_X8_61 (pc := 118) cx hk_o0 dX8_arrive_118 ?_
  refine f_aload_n (pc := 121) cx dX8_arrive_121 rfl rfl ?_
  refine g_X8_55 (pc := 122) cx hk_o0 dX8_arrive_122 ?_
  refine k_X8_156 (pc := 125) cx ⟨by decide, by decide⟩ ⟨Nat.zero_le _, Nat.zero_le _⟩ (Nat.le_of_ble_eq_true rfl) dX8_arrive_125 ?_
  refine u_X8_61 (pc := 128) cx hk_o0 dX8_arrive_128 ?_
  refine f_nvh (fun h3 => ?_)
  refine f_aload_n (pc := 131) cx dX8_arrive_131 rfl rfl ?_
  refine g_X8_55 (pc := 132) cx hk_o0 dX8_arrive_132 ?_
  refine f_aload_n (pc := 135) cx dX8_arrive_135 rfl rfl ?_
  refine g_X8_9 (pc := 136) cx hk_o0 dX8_arrive_136 ?_
  refine f_iconst (pc := 139) cx dX8_arrive_139 kc_iconst_5 ?_
  refine f_ialdk (pc := 140) (j := 5) (n := 8) cx (kf_7_0 hk_o0) (by decide) (by decide) kl_5 dX8_arrive_140 ?_
  refine f_icmp_le (pc := 141) (tgt := 148) cx dX8_arrive_141 (by decide) (fun _ => ?_) (fun _ => ?_)
  · refine f_iload (pc := 148) cx dX8_arrive_148 rfl ?_
    exact f_iret cx hr hlk rfl dX8_arrive_150
  · refine f_aload_n (pc := 144) cx dX8_arrive_144 rfl rfl ?_
    refine f_bind (fun r4 hr4 => ?_)
    refine k_X8_159 (pc := 145) cx (c_X8_pushOut l G _ o0 hk_o0 r4 hr4) hk_o0 ⟨by decide, by decide⟩ ⟨Nat.zero_le _, Nat.zero_le _⟩ (Nat.le_of_ble_eq_true rfl) dX8_arrive_145 ?_
    refine f_iload (pc := 148) cx dX8_arrive_148 rfl ?_
    exact f_iret cx hr hlk rfl dX8_arrive_150
set_option maxRecDepth 4000 in
theorem s_X8_arrive {p : Program} {l : Launch} {e : Env} {s : State} {m : MethodId} {args : Array Value} {below : List Frame} {meth : Method} {c : Code} {G : GT} (cx : CX p s m args c cX8_arrive 8 RX8 G) (hr : meth.sig.returnType = (some .int)) (hlk : meth.locks = false) (h : Hp) (o0 : Nat) (x1 : Int32) (x2 : Int32) (x3 : Int32) (x4 : Int32) (hk_o0 : kd o0 = 7) : PF p l e (rmc 3 66) s m args below meth c 8 G 0 0 (QI below G args s) 0 [some (.ref (gad G o0)), some (.int x1), some (.int x2), some (.int x3), some (.int x4), none, none, none] [] h (p_X8_arrive h o0 x1 x2 x3 x4) := by
  unfold p_X8_arrive
  refine f_aload_n (pc := 0) cx dX8_arrive_0 rfl rfl ?_
  refine f_iload_n (pc := 1) cx dX8_arrive_1 rfl rfl ?_
  refine f_bind (fun r5 hr5 => ?_)
  refine k_X8_133 (pc := 2) cx (c_X8_placeFor l G _ o0 x1 hk_o0 r5 hr5) hk_o0 ⟨by decide, by decide⟩ ⟨Nat.zero_le _, Nat.zero_le _⟩ (Nat.le_of_ble_eq_true rfl) dX8_arrive_2 ?_
  refine f_istore5 (pc := 5) cx dX8_arrive_5 (by decide) rfl ?_
  refine f_aload_n (pc := 7) cx dX8_arrive_7 rfl rfl ?_
  refine g_X8_18 (pc := 8) cx hk_o0 dX8_arrive_8 ?_
  refine g_X8_136 (pc := 11) cx (kf_7_1 hk_o0) dX8_arrive_11 ?_
  refine f_sipush (pc := 14) cx dX8_arrive_14 kc_sipush_200 ?_
  refine f_icmp_ge (pc := 17) (tgt := 29) cx dX8_arrive_17 (by decide) (fun _ => ?_) (fun _ => ?_)
  · refine f_bipush (pc := 29) cx dX8_arrive_29 kc_bipush_m2 ?_
    exact f_iret cx hr hlk rfl dX8_arrive_31
  · refine f_aload_n (pc := 20) cx dX8_arrive_20 rfl rfl ?_
    refine f_iload (pc := 21) cx dX8_arrive_21 rfl ?_
    refine f_bind (fun r6 hr6 => ?_)
    refine k_X8_137 (pc := 23) cx (c_X8_hasBucket l G _ o0 r5.1 hk_o0 r6 hr6) hk_o0 ⟨by decide, by decide⟩ ⟨Nat.zero_le _, Nat.zero_le _⟩ (Nat.le_of_ble_eq_true rfl) dX8_arrive_23 ?_
    refine f_if_ne (pc := 26) (tgt := 32) cx dX8_arrive_26 (by decide) (fun _ => ?_) (fun _ => ?_)
    · refine f_bipush (pc := 29) cx dX8_arrive_29 kc_bipush_m2 ?_
      exact f_iret cx hr hlk rfl dX8_arrive_31
    · refine f_aload_n (pc := 32) cx dX8_arrive_32 rfl rfl ?_
      refine g_X8_24 (pc := 33) cx hk_o0 dX8_arrive_33 ?_
      refine f_iload (pc := 36) cx dX8_arrive_36 rfl ?_
      refine f_need (fun c7 => ?_)
      refine f_aldB (pc := 38) cx (kf_7_2 hk_o0) c7 dX8_arrive_38 ?_
      refine f_astore6 (pc := 39) cx dX8_arrive_39 (by decide) rfl ?_
      refine f_aload (pc := 41) cx dX8_arrive_41 rfl ?_
      refine g_X8_123 (pc := 43) cx (ka_b (kf_7_2 hk_o0) c7) dX8_arrive_43 ?_
      refine f_if_ne (pc := 46) (tgt := 83) cx dX8_arrive_46 (by decide) (fun _ => ?_) (fun _ => ?_)
      · refine f_aload (pc := 49) cx dX8_arrive_49 rfl ?_
        refine f_iload_n (pc := 51) cx dX8_arrive_51 rfl rfl ?_
        refine f_aload_n (pc := 52) cx dX8_arrive_52 rfl rfl ?_
        refine g_X8_9 (pc := 53) cx hk_o0 dX8_arrive_53 ?_
        refine f_iconst (pc := 56) cx dX8_arrive_56 kc_iconst_2 ?_
        refine f_ialdk (pc := 57) (j := 2) (n := 8) cx (kf_7_0 hk_o0) (by decide) (by decide) kl_2 dX8_arrive_57 ?_
        refine f_aload_n (pc := 58) cx dX8_arrive_58 rfl rfl ?_
        refine g_X8_18 (pc := 59) cx hk_o0 dX8_arrive_59 ?_
        refine g_X8_136 (pc := 62) cx (kf_7_1 hk_o0) dX8_arrive_62 ?_
        refine f_bind (fun r8 hr8 => ?_)
        refine k_X8_141 (pc := 65) cx (c_X0_begin l G _ (o0 + 16 + 1 + Int32.toNatClampNeg r5.1) x1 (r6.2 (o0 + 1) 2) (r6.2 (o0 + 2) 13) (ka_b (kf_7_2 hk_o0) c7) r8 hr8) (ka_b (kf_7_2 hk_o0) c7) ⟨by decide, by decide⟩ ⟨Nat.zero_le _, Nat.zero_le _⟩ (Nat.le_of_ble_eq_true rfl) dX8_arrive_65 ?_
        refine f_aload (pc := 68) cx dX8_arrive_68 rfl ?_
        refine f_iconst (pc := 70) cx dX8_arrive_70 kc_iconst_1 ?_
        refine u_X8_123 (pc := 71) cx (ka_b (kf_7_2 hk_o0) c7) dX8_arrive_71 ?_
        refine f_nvh (fun h9 => ?_)
        refine f_aload_n (pc := 74) cx dX8_arrive_74 rfl rfl ?_
        refine g_X8_31 (pc := 75) cx hk_o0 dX8_arrive_75 ?_
        refine f_iload (pc := 78) cx dX8_arrive_78 rfl ?_
        refine f_bind (fun r10 hr10 => ?_)
        refine k_X8_144 (pc := 80) cx (c_X2_addNew l G _ (o0 + 33) r5.1 (kf_7_3 hk_o0) r10 hr10) (kf_7_3 hk_o0) ⟨by decide, by decide⟩ ⟨Nat.zero_le _, Nat.zero_le _⟩ (Nat.le_of_ble_eq_true rfl) dX8_arrive_80 ?_
        exact f_weak (LSb.s (LSb.s (LSb.s (LSb.s (LSb.s (LSb.s (LSb.s (LSb.n LSb.e)))))))) (s_X8_arrive_83 cx hr hlk _ o0 x1 x2 x3 x4 r5.1 (o0 + 16 + 1 + Int32.toNatClampNeg r5.1) hk_o0 (ka_b (kf_7_2 hk_o0) c7))
      · exact f_weak (LSb.s (LSb.s (LSb.s (LSb.s (LSb.s (LSb.s (LSb.s (LSb.n LSb.e)))))))) (s_X8_arrive_83 cx hr hlk _ o0 x1 x2 x3 x4 r5.1 (o0 + 16 + 1 + Int32.toNatClampNeg r5.1) hk_o0 (ka_b (kf_7_2 hk_o0) c7))
set_option maxRecDepth 4000 in
theorem c_X8_arrive (l : Launch) (G : GT) (h : Hp) (o0 : Nat) (x1 : Int32) (x2 : Int32) (x3 : Int32) (x4 : Int32) (hk_o0 : kd o0 = 7) : CtI l G yX8_arrive cX8_arrive 8 (some .int) 3 66 [.ref (gad G o0), .int x1, .int x2, .int x3, .int x4] h (p_X8_arrive h o0 x1 x2 x3 x4) := fun a ha => Ct.of (lv := [some (.ref (gad G o0)), some (.int x1), some (.int x2), some (.int x3), some (.int x4), none, none, none]) (by decide) rfl (Nat.le_of_ble_eq_true rfl) rfl (fun p e s m args below meth c cx hr hlk => s_X8_arrive cx hr hlk h o0 x1 x2 x3 x4 hk_o0 a ha)
def b_X8_dropMore_5 (o0 : Nat) (o1 : Nat) (k5 : Hp × Int32 × Int32 → Option (Int32 × Hp)) (q : Hp × Int32 × Int32) : Option (Int32 × Hp) :=
  if 200 ≤ q.2.2 then (some (q.2.1, q.1)) else (if (q.1 o1 12) = 0 then (some (q.2.1, q.1)) else (if (q.1 o0 7) < (q.1 o1 9) then (some (q.2.1, q.1)) else (Option.bind (p_X1_has q.1 (o0 + 2) q.2.1) fun r1 => if r1.1 = 0 then (some (q.2.1, r1.2)) else (nv (hp r1.2 o1 7 (if 999 < ((r1.2 o1 7) + 1) then 999 else ((r1.2 o1 7) + 1))) fun h2 => Option.bind (p_X4_step h2 (h2 o1 11) (h2 o1 7)) fun r3 => nv (hp r3.2 o1 11 r3.1) fun h4 => if ib q.2.1 200 then (if (h4 (o0 + 2 + 3) (Int32.toNatClampNeg q.2.1)) = 1 then (Option.bind (p_X8_mark h4 o0 q.2.1) fun r6 => Option.bind (p_X0_law r6 o1 (r6 o1 9) (r6 (o0 + 1) 1)) fun r7 => nv (hp r7.2 o1 9 r7.1) fun h8 => some (q.2.1, h8)) else (Option.bind (p_X8_drop h4 o0 q.2.1) fun r9 => Option.bind (p_X8_take r9 o0 o1) fun r10 => if (r10.2 o0 11) = 0 then (nv (hp r10.2 o1 12 0) fun h11 => k5 (h11, r10.1, q.2.2 + 1)) else (Option.bind (p_X0_law r10.2 o1 (r10.2 o1 9) (r10.2 (o0 + 1) 1)) fun r12 => nv (hp r12.2 o1 9 r12.1) fun h13 => k5 (h13, r10.1, q.2.2 + 1)))) else none))))
def p_X8_dropMore (h : Hp) (o0 : Nat) (o1 : Nat) (x2 : Int32) : Option (Int32 × Hp) :=
  lp (b_X8_dropMore_5 o0 o1) FU (h, x2, 0)
set_option maxRecDepth 4000 in
theorem s_X8_dropMore_5 {p : Program} {l : Launch} {e : Env} {s : State} {m : MethodId} {args : Array Value} {below : List Frame} {meth : Method} {c : Code} {G : GT} (cx : CX p s m args c cX8_dropMore 5 RX8 G) (hr : meth.sig.returnType = (some .int)) (hlk : meth.locks = false) (o0 : Nat) (o1 : Nat) (hk_o0 : kd o0 = 7) (hk_o1 : kd o1 = 0) : ∀ (n : Nat) (q : Hp × Int32 × Int32), PF p l e (rmc 2 50) s m args below meth c 5 G 0 0 (QI below G args s) 5 [some (.ref (gad G o0)), some (.ref (gad G o1)), none, some (.int q.2.1), some (.int q.2.2)] [] q.1 (lp (b_X8_dropMore_5 o0 o1) n q) := by
  refine f_lp (lvf := fun (q : Hp × Int32 × Int32) => [some (.ref (gad G o0)), some (.ref (gad G o1)), none, some (.int q.2.1), some (.int q.2.2)]) (hf := fun (q : Hp × Int32 × Int32) => q.1) (fun k5 hk5 q => ?_)
  show PF p l e (rmc 2 50) s m args below meth c 5 G 0 0 (QI below G args s) 5 [some (.ref (gad G o0)), some (.ref (gad G o1)), none, some (.int q.2.1), some (.int q.2.2)] [] q.1 (b_X8_dropMore_5 o0 o1 k5 q)
  unfold b_X8_dropMore_5
  refine f_iload (pc := 5) cx dX8_dropMore_5 rfl ?_
  refine f_sipush (pc := 7) cx dX8_dropMore_7 kc_sipush_200 ?_
  refine f_icmp_ge (pc := 10) (tgt := 163) cx dX8_dropMore_10 (by decide) (fun _ => ?_) (fun _ => ?_)
  · refine f_iload_n (pc := 163) cx dX8_dropMore_163 rfl rfl ?_
    exact f_iret cx hr hlk rfl dX8_dropMore_164
  · refine f_aload_n (pc := 13) cx dX8_dropMore_13 rfl rfl ?_
    refine g_X8_230 (pc := 14) cx hk_o1 dX8_dropMore_14 ?_
    refine f_if_eq (pc := 17) (tgt := 163) cx dX8_dropMore_17 (by decide) (fun _ => ?_) (fun _ => ?_)
    · refine f_iload_n (pc := 163) cx dX8_dropMore_163 rfl rfl ?_
      exact f_iret cx hr hlk rfl dX8_dropMore_164
    · refine f_aload_n (pc := 20) cx dX8_dropMore_20 rfl rfl ?_
      refine g_X8_52 (pc := 21) cx hk_o0 dX8_dropMore_21 ?_
      refine f_aload_n (pc := 24) cx dX8_dropMore_24 rfl rfl ?_
      refine g_X8_246 (pc := 25) cx hk_o1 dX8_dropMore_25 ?_
      refine f_icmp_lt (pc := 28) (tgt := 42) cx dX8_dropMore_28 (by decide) (fun _ => ?_) (fun _ => ?_)
      · refine f_iload_n (pc := 42) cx dX8_dropMore_42 rfl rfl ?_
        exact f_iret cx hr hlk rfl dX8_dropMore_43
      · refine f_aload_n (pc := 31) cx dX8_dropMore_31 rfl rfl ?_
        refine g_X8_18 (pc := 32) cx hk_o0 dX8_dropMore_32 ?_
        refine f_iload_n (pc := 35) cx dX8_dropMore_35 rfl rfl ?_
        refine f_bind (fun r1 hr1 => ?_)
        refine k_X8_162 (pc := 36) cx (c_X1_has l G _ (o0 + 2) q.2.1 (kf_7_1 hk_o0) r1 hr1) (kf_7_1 hk_o0) ⟨by decide, by decide⟩ ⟨Nat.zero_le _, Nat.zero_le _⟩ (Nat.le_of_ble_eq_true rfl) dX8_dropMore_36 ?_
        refine f_if_ne (pc := 39) (tgt := 44) cx dX8_dropMore_39 (by decide) (fun _ => ?_) (fun _ => ?_)
        · refine f_iload_n (pc := 42) cx dX8_dropMore_42 rfl rfl ?_
          exact f_iret cx hr hlk rfl dX8_dropMore_43
        · refine f_aload_n (pc := 44) cx dX8_dropMore_44 rfl rfl ?_
          refine f_aload_n (pc := 45) cx dX8_dropMore_45 rfl rfl ?_
          refine g_X8_249 (pc := 46) cx hk_o1 dX8_dropMore_46 ?_
          refine f_iconst (pc := 49) cx dX8_dropMore_49 kc_iconst_1 ?_
          refine f_iadd (pc := 50) cx dX8_dropMore_50 ?_
          refine f_sipush (pc := 51) cx dX8_dropMore_51 kc_sipush_999 ?_
          refine k_X8_118 (pc := 54) cx ⟨by decide, by decide⟩ ⟨Nat.zero_le _, Nat.zero_le _⟩ (Nat.le_of_ble_eq_true rfl) dX8_dropMore_54 ?_
          refine u_X8_249 (pc := 57) cx hk_o1 dX8_dropMore_57 ?_
          refine f_nvh (fun h2 => ?_)
          refine f_aload_n (pc := 60) cx dX8_dropMore_60 rfl rfl ?_
          refine f_aload_n (pc := 61) cx dX8_dropMore_61 rfl rfl ?_
          refine g_X8_254 (pc := 62) cx hk_o1 dX8_dropMore_62 ?_
          refine f_aload_n (pc := 65) cx dX8_dropMore_65 rfl rfl ?_
          refine g_X8_249 (pc := 66) cx hk_o1 dX8_dropMore_66 ?_
          refine f_bind (fun r3 hr3 => ?_)
          refine k_X8_257 (pc := 69) cx (c_X4_step l G _ (h2 o1 11) (h2 o1 7) r3 hr3) ⟨by decide, by decide⟩ ⟨Nat.zero_le _, Nat.zero_le _⟩ (Nat.le_of_ble_eq_true rfl) dX8_dropMore_69 ?_
          refine u_X8_254 (pc := 72) cx hk_o1 dX8_dropMore_72 ?_
          refine f_nvh (fun h4 => ?_)
          refine f_aload_n (pc := 75) cx dX8_dropMore_75 rfl rfl ?_
          refine g_X8_18 (pc := 76) cx hk_o0 dX8_dropMore_76 ?_
          refine g_X8_260 (pc := 79) cx (kf_7_1 hk_o0) dX8_dropMore_79 ?_
          refine f_iload_n (pc := 82) cx dX8_dropMore_82 rfl rfl ?_
          refine f_need (fun c5 => ?_)
          refine f_iald (pc := 83) (n := 200) cx (kf_1_2 (kf_7_1 hk_o0)) (by decide) c5 dX8_dropMore_83 ?_
          refine f_iconst (pc := 84) cx dX8_dropMore_84 kc_iconst_1 ?_
          refine f_icmp_ne (pc := 85) (tgt := 113) cx dX8_dropMore_85 (by decide) (fun _ => ?_) (fun _ => ?_)
          · refine f_aload_n (pc := 88) cx dX8_dropMore_88 rfl rfl ?_
            refine f_iload_n (pc := 89) cx dX8_dropMore_89 rfl rfl ?_
            refine f_bind (fun r6 hr6 => ?_)
            refine k_X8_263 (pc := 90) cx (c_X8_mark l G _ o0 q.2.1 hk_o0 r6 hr6) hk_o0 ⟨by decide, by decide⟩ ⟨Nat.zero_le _, Nat.zero_le _⟩ (Nat.le_of_ble_eq_true rfl) dX8_dropMore_90 ?_
            refine f_aload_n (pc := 93) cx dX8_dropMore_93 rfl rfl ?_
            refine f_aload_n (pc := 94) cx dX8_dropMore_94 rfl rfl ?_
            refine f_aload_n (pc := 95) cx dX8_dropMore_95 rfl rfl ?_
            refine g_X8_246 (pc := 96) cx hk_o1 dX8_dropMore_96 ?_
            refine f_aload_n (pc := 99) cx dX8_dropMore_99 rfl rfl ?_
            refine g_X8_9 (pc := 100) cx hk_o0 dX8_dropMore_100 ?_
            refine f_iconst (pc := 103) cx dX8_dropMore_103 kc_iconst_1 ?_
            refine f_ialdk (pc := 104) (j := 1) (n := 8) cx (kf_7_0 hk_o0) (by decide) (by decide) kl_1 dX8_dropMore_104 ?_
            refine f_bind (fun r7 hr7 => ?_)
            refine k_X8_266 (pc := 105) cx (c_X0_law l G _ o1 (r6 o1 9) (r6 (o0 + 1) 1) hk_o1 r7 hr7) hk_o1 ⟨by decide, by decide⟩ ⟨Nat.zero_le _, Nat.zero_le _⟩ (Nat.le_of_ble_eq_true rfl) dX8_dropMore_105 ?_
            refine u_X8_246 (pc := 108) cx hk_o1 dX8_dropMore_108 ?_
            refine f_nvh (fun h8 => ?_)
            refine f_iload_n (pc := 111) cx dX8_dropMore_111 rfl rfl ?_
            exact f_iret cx hr hlk rfl dX8_dropMore_112
          · refine f_aload_n (pc := 113) cx dX8_dropMore_113 rfl rfl ?_
            refine f_iload_n (pc := 114) cx dX8_dropMore_114 rfl rfl ?_
            refine f_bind (fun r9 hr9 => ?_)
            refine k_X8_269 (pc := 115) cx (c_X8_drop l G _ o0 q.2.1 hk_o0 r9 hr9) hk_o0 ⟨by decide, by decide⟩ ⟨Nat.zero_le _, Nat.zero_le _⟩ (Nat.le_of_ble_eq_true rfl) dX8_dropMore_115 ?_
            refine f_aload_n (pc := 118) cx dX8_dropMore_118 rfl rfl ?_
            refine f_aload_n (pc := 119) cx dX8_dropMore_119 rfl rfl ?_
            refine f_bind (fun r10 hr10 => ?_)
            refine k_X8_227 (pc := 120) cx (c_X8_take l G _ o0 o1 hk_o0 hk_o1 r10 hr10) hk_o0 ⟨by decide, by decide⟩ ⟨Nat.zero_le _, Nat.zero_le _⟩ (Nat.le_of_ble_eq_true rfl) dX8_dropMore_120 ?_
            refine f_istore3 (pc := 123) cx dX8_dropMore_123 (by decide) rfl ?_
            refine f_aload_n (pc := 124) cx dX8_dropMore_124 rfl rfl ?_
            refine g_X8_64 (pc := 125) cx hk_o0 dX8_dropMore_125 ?_
            refine f_if_eq (pc := 128) (tgt := 152) cx dX8_dropMore_128 (by decide) (fun _ => ?_) (fun _ => ?_)
            · refine f_aload_n (pc := 152) cx dX8_dropMore_152 rfl rfl ?_
              refine f_iconst (pc := 153) cx dX8_dropMore_153 kc_iconst_0 ?_
              refine u_X8_230 (pc := 154) cx hk_o1 bb_0 dX8_dropMore_154 ?_
              refine f_nvh (fun h11 => ?_)
              refine f_iinc4 (pc := 157) cx dX8_dropMore_157 kc_iconst_1 (by decide) rfl ?_
              refine f_goto (pc := 160) (tgt := 5) cx dX8_dropMore_160 (by decide) ?_
              exact f_weak (LSb.s (LSb.s (LSb.n (LSb.s (LSb.s LSb.e))))) (hk5 (h11, r10.1, q.2.2 + 1))
            · refine f_aload_n (pc := 131) cx dX8_dropMore_131 rfl rfl ?_
              refine f_aload_n (pc := 132) cx dX8_dropMore_132 rfl rfl ?_
              refine f_aload_n (pc := 133) cx dX8_dropMore_133 rfl rfl ?_
              refine g_X8_246 (pc := 134) cx hk_o1 dX8_dropMore_134 ?_
              refine f_aload_n (pc := 137) cx dX8_dropMore_137 rfl rfl ?_
              refine g_X8_9 (pc := 138) cx hk_o0 dX8_dropMore_138 ?_
              refine f_iconst (pc := 141) cx dX8_dropMore_141 kc_iconst_1 ?_
              refine f_ialdk (pc := 142) (j := 1) (n := 8) cx (kf_7_0 hk_o0) (by decide) (by decide) kl_1 dX8_dropMore_142 ?_
              refine f_bind (fun r12 hr12 => ?_)
              refine k_X8_266 (pc := 143) cx (c_X0_law l G _ o1 (r10.2 o1 9) (r10.2 (o0 + 1) 1) hk_o1 r12 hr12) hk_o1 ⟨by decide, by decide⟩ ⟨Nat.zero_le _, Nat.zero_le _⟩ (Nat.le_of_ble_eq_true rfl) dX8_dropMore_143 ?_
              refine u_X8_246 (pc := 146) cx hk_o1 dX8_dropMore_146 ?_
              refine f_nvh (fun h13 => ?_)
              refine f_goto (pc := 149) (tgt := 157) cx dX8_dropMore_149 (by decide) ?_
              refine f_iinc4 (pc := 157) cx dX8_dropMore_157 kc_iconst_1 (by decide) rfl ?_
              refine f_goto (pc := 160) (tgt := 5) cx dX8_dropMore_160 (by decide) ?_
              exact f_weak (LSb.s (LSb.s (LSb.n (LSb.s (LSb.s LSb.e))))) (hk5 (h13, r10.1, q.2.2 + 1))
set_option maxRecDepth 4000 in
theorem s_X8_dropMore {p : Program} {l : Launch} {e : Env} {s : State} {m : MethodId} {args : Array Value} {below : List Frame} {meth : Method} {c : Code} {G : GT} (cx : CX p s m args c cX8_dropMore 5 RX8 G) (hr : meth.sig.returnType = (some .int)) (hlk : meth.locks = false) (h : Hp) (o0 : Nat) (o1 : Nat) (x2 : Int32) (hk_o0 : kd o0 = 7) (hk_o1 : kd o1 = 0) : PF p l e (rmc 2 50) s m args below meth c 5 G 0 0 (QI below G args s) 0 [some (.ref (gad G o0)), some (.ref (gad G o1)), some (.int x2), none, none] [] h (p_X8_dropMore h o0 o1 x2) := by
  unfold p_X8_dropMore
  refine f_iload_n (pc := 0) cx dX8_dropMore_0 rfl rfl ?_
  refine f_istore3 (pc := 1) cx dX8_dropMore_1 (by decide) rfl ?_
  refine f_iconst (pc := 2) cx dX8_dropMore_2 kc_iconst_0 ?_
  refine f_istore4 (pc := 3) cx dX8_dropMore_3 (by decide) rfl ?_
  exact f_weak (LSb.s (LSb.s (LSb.n (LSb.s (LSb.s LSb.e))))) (s_X8_dropMore_5 cx hr hlk o0 o1 hk_o0 hk_o1 FU (h, x2, 0))
set_option maxRecDepth 4000 in
theorem c_X8_dropMore (l : Launch) (G : GT) (h : Hp) (o0 : Nat) (o1 : Nat) (x2 : Int32) (hk_o0 : kd o0 = 7) (hk_o1 : kd o1 = 0) : CtI l G yX8_dropMore cX8_dropMore 5 (some .int) 2 50 [.ref (gad G o0), .ref (gad G o1), .int x2] h (p_X8_dropMore h o0 o1 x2) := fun a ha => Ct.of (lv := [some (.ref (gad G o0)), some (.ref (gad G o1)), some (.int x2), none, none]) (by decide) rfl (Nat.le_of_ble_eq_true rfl) rfl (fun p e s m args below meth c cx hr hlk => s_X8_dropMore cx hr hlk h o0 o1 x2 hk_o0 hk_o1 a ha)
def q_X8_dropFirst_121 (h : Hp) (o0 : Nat) (o1 : Nat) (x3 : Int32) : Option (Int32 × Hp) :=
  nv (hp h o1 8 (h o1 7)) fun h1 => Option.bind (p_X0_law h1 o1 (h1 o0 7) (h1 (o0 + 1) 1)) fun r2 => nv (hp r2.2 o1 9 r2.1) fun h3 => some (x3, h3)
def q_X8_dropFirst_45 (h : Hp) (o0 : Nat) (o1 : Nat) (x3 : Int32) : Option (Int32 × Hp) :=
  nv (hp h o1 12 1) fun h4 => nv ((h4 o1 7) - (h4 o1 8)) fun v5 => if v5 ≤ 1 then (nv (hp h4 o1 7 1) fun h6 => nv (hp h6 o1 11 65535) fun h7 => q_X8_dropFirst_121 h7 o0 o1 x3) else (if (16 * (h4 (o0 + 1) 1)) ≤ ((h4 o0 7) - (h4 o1 9)) then (nv (hp h4 o1 7 1) fun h8 => nv (hp h8 o1 11 65535) fun h9 => q_X8_dropFirst_121 h9 o0 o1 x3) else (nv (hp h4 o1 7 v5) fun h10 => Option.bind (p_X4_step h10 (h10 o1 11) v5) fun r11 => nv (hp r11.2 o1 11 r11.1) fun h12 => q_X8_dropFirst_121 h12 o0 o1 x3))
def p_X8_dropFirst (h : Hp) (o0 : Nat) (o1 : Nat) (x2 : Int32) : Option (Int32 × Hp) :=
  Option.bind (p_X1_has h (o0 + 2) x2) fun r13 => if r13.1 = 0 then (Option.bind (p_X8_drop r13.2 o0 x2) fun r14 => Option.bind (p_X8_take r14 o0 o1) fun r15 => q_X8_dropFirst_45 r15.2 o0 o1 r15.1) else (if ib x2 200 then (if (r13.2 (o0 + 2 + 3) (Int32.toNatClampNeg x2)) = 1 then (Option.bind (p_X8_mark r13.2 o0 x2) fun r17 => q_X8_dropFirst_45 r17 o0 o1 x2) else (Option.bind (p_X8_drop r13.2 o0 x2) fun r18 => Option.bind (p_X8_take r18 o0 o1) fun r19 => q_X8_dropFirst_45 r19.2 o0 o1 r19.1)) else none)
set_option maxRecDepth 4000 in
theorem s_X8_dropFirst_121 {p : Program} {l : Launch} {e : Env} {s : State} {m : MethodId} {args : Array Value} {below : List Frame} {meth : Method} {c : Code} {G : GT} (cx : CX p s m args c cX8_dropFirst 5 RX8 G) (hr : meth.sig.returnType = (some .int)) (hlk : meth.locks = false) (h : Hp) (o0 : Nat) (o1 : Nat) (x3 : Int32) (hk_o0 : kd o0 = 7) (hk_o1 : kd o1 = 0) : PF p l e (rmc 2 50) s m args below meth c 5 G 0 0 (QI below G args s) 121 [some (.ref (gad G o0)), some (.ref (gad G o1)), none, some (.int x3), none] [] h (q_X8_dropFirst_121 h o0 o1 x3) := by
  unfold q_X8_dropFirst_121
  refine f_aload_n (pc := 121) cx dX8_dropFirst_121 rfl rfl ?_
  refine f_aload_n (pc := 122) cx dX8_dropFirst_122 rfl rfl ?_
  refine g_X8_249 (pc := 123) cx hk_o1 dX8_dropFirst_123 ?_
  refine u_X8_272 (pc := 126) cx hk_o1 dX8_dropFirst_126 ?_
  refine f_nvh (fun h1 => ?_)
  refine f_aload_n (pc := 129) cx dX8_dropFirst_129 rfl rfl ?_
  refine f_aload_n (pc := 130) cx dX8_dropFirst_130 rfl rfl ?_
  refine f_aload_n (pc := 131) cx dX8_dropFirst_131 rfl rfl ?_
  refine g_X8_52 (pc := 132) cx hk_o0 dX8_dropFirst_132 ?_
  refine f_aload_n (pc := 135) cx dX8_dropFirst_135 rfl rfl ?_
  refine g_X8_9 (pc := 136) cx hk_o0 dX8_dropFirst_136 ?_
  refine f_iconst (pc := 139) cx dX8_dropFirst_139 kc_iconst_1 ?_
  refine f_ialdk (pc := 140) (j := 1) (n := 8) cx (kf_7_0 hk_o0) (by decide) (by decide) kl_1 dX8_dropFirst_140 ?_
  refine f_bind (fun r2 hr2 => ?_)
  refine k_X8_266 (pc := 141) cx (c_X0_law l G _ o1 (h1 o0 7) (h1 (o0 + 1) 1) hk_o1 r2 hr2) hk_o1 ⟨by decide, by decide⟩ ⟨Nat.zero_le _, Nat.zero_le _⟩ (Nat.le_of_ble_eq_true rfl) dX8_dropFirst_141 ?_
  refine u_X8_246 (pc := 144) cx hk_o1 dX8_dropFirst_144 ?_
  refine f_nvh (fun h3 => ?_)
  refine f_iload_n (pc := 147) cx dX8_dropFirst_147 rfl rfl ?_
  exact f_iret cx hr hlk rfl dX8_dropFirst_148
set_option maxRecDepth 4000 in
theorem s_X8_dropFirst_45 {p : Program} {l : Launch} {e : Env} {s : State} {m : MethodId} {args : Array Value} {below : List Frame} {meth : Method} {c : Code} {G : GT} (cx : CX p s m args c cX8_dropFirst 5 RX8 G) (hr : meth.sig.returnType = (some .int)) (hlk : meth.locks = false) (h : Hp) (o0 : Nat) (o1 : Nat) (x3 : Int32) (hk_o0 : kd o0 = 7) (hk_o1 : kd o1 = 0) : PF p l e (rmc 2 50) s m args below meth c 5 G 0 0 (QI below G args s) 45 [some (.ref (gad G o0)), some (.ref (gad G o1)), none, some (.int x3), none] [] h (q_X8_dropFirst_45 h o0 o1 x3) := by
  unfold q_X8_dropFirst_45
  refine f_aload_n (pc := 45) cx dX8_dropFirst_45 rfl rfl ?_
  refine f_iconst (pc := 46) cx dX8_dropFirst_46 kc_iconst_1 ?_
  refine u_X8_230 (pc := 47) cx hk_o1 bb_1 dX8_dropFirst_47 ?_
  refine f_nvh (fun h4 => ?_)
  refine f_aload_n (pc := 50) cx dX8_dropFirst_50 rfl rfl ?_
  refine g_X8_249 (pc := 51) cx hk_o1 dX8_dropFirst_51 ?_
  refine f_aload_n (pc := 54) cx dX8_dropFirst_54 rfl rfl ?_
  refine g_X8_272 (pc := 55) cx hk_o1 dX8_dropFirst_55 ?_
  refine f_isub (pc := 58) cx dX8_dropFirst_58 ?_
  refine f_nvi (fun v5 => ?_)
  refine f_istore4 (pc := 59) cx dX8_dropFirst_59 (by decide) rfl ?_
  refine f_iload (pc := 61) cx dX8_dropFirst_61 rfl ?_
  refine f_iconst (pc := 63) cx dX8_dropFirst_63 kc_iconst_1 ?_
  refine f_icmp_le (pc := 64) (tgt := 110) cx dX8_dropFirst_64 (by decide) (fun _ => ?_) (fun _ => ?_)
  · refine f_aload_n (pc := 110) cx dX8_dropFirst_110 rfl rfl ?_
    refine f_iconst (pc := 111) cx dX8_dropFirst_111 kc_iconst_1 ?_
    refine u_X8_249 (pc := 112) cx hk_o1 dX8_dropFirst_112 ?_
    refine f_nvh (fun h6 => ?_)
    refine f_aload_n (pc := 115) cx dX8_dropFirst_115 rfl rfl ?_
    refine f_ldc (pc := 116) cx w_696 dX8_dropFirst_116 ?_
    refine u_X8_254 (pc := 118) cx hk_o1 dX8_dropFirst_118 ?_
    refine f_nvh (fun h7 => ?_)
    exact f_weak (LSb.s (LSb.s (LSb.n (LSb.s (LSb.n LSb.e))))) (s_X8_dropFirst_121 cx hr hlk _ o0 o1 x3 hk_o0 hk_o1)
  · refine f_aload_n (pc := 67) cx dX8_dropFirst_67 rfl rfl ?_
    refine g_X8_52 (pc := 68) cx hk_o0 dX8_dropFirst_68 ?_
    refine f_aload_n (pc := 71) cx dX8_dropFirst_71 rfl rfl ?_
    refine g_X8_246 (pc := 72) cx hk_o1 dX8_dropFirst_72 ?_
    refine f_isub (pc := 75) cx dX8_dropFirst_75 ?_
    refine f_bipush (pc := 76) cx dX8_dropFirst_76 kc_bipush_16 ?_
    refine f_aload_n (pc := 78) cx dX8_dropFirst_78 rfl rfl ?_
    refine g_X8_9 (pc := 79) cx hk_o0 dX8_dropFirst_79 ?_
    refine f_iconst (pc := 82) cx dX8_dropFirst_82 kc_iconst_1 ?_
    refine f_ialdk (pc := 83) (j := 1) (n := 8) cx (kf_7_0 hk_o0) (by decide) (by decide) kl_1 dX8_dropFirst_83 ?_
    refine f_imul (pc := 84) cx dX8_dropFirst_84 ?_
    refine f_icmp_ge (pc := 85) (tgt := 110) cx dX8_dropFirst_85 (by decide) (fun _ => ?_) (fun _ => ?_)
    · refine f_aload_n (pc := 110) cx dX8_dropFirst_110 rfl rfl ?_
      refine f_iconst (pc := 111) cx dX8_dropFirst_111 kc_iconst_1 ?_
      refine u_X8_249 (pc := 112) cx hk_o1 dX8_dropFirst_112 ?_
      refine f_nvh (fun h8 => ?_)
      refine f_aload_n (pc := 115) cx dX8_dropFirst_115 rfl rfl ?_
      refine f_ldc (pc := 116) cx w_696 dX8_dropFirst_116 ?_
      refine u_X8_254 (pc := 118) cx hk_o1 dX8_dropFirst_118 ?_
      refine f_nvh (fun h9 => ?_)
      exact f_weak (LSb.s (LSb.s (LSb.n (LSb.s (LSb.n LSb.e))))) (s_X8_dropFirst_121 cx hr hlk _ o0 o1 x3 hk_o0 hk_o1)
    · refine f_aload_n (pc := 88) cx dX8_dropFirst_88 rfl rfl ?_
      refine f_iload (pc := 89) cx dX8_dropFirst_89 rfl ?_
      refine u_X8_249 (pc := 91) cx hk_o1 dX8_dropFirst_91 ?_
      refine f_nvh (fun h10 => ?_)
      refine f_aload_n (pc := 94) cx dX8_dropFirst_94 rfl rfl ?_
      refine f_aload_n (pc := 95) cx dX8_dropFirst_95 rfl rfl ?_
      refine g_X8_254 (pc := 96) cx hk_o1 dX8_dropFirst_96 ?_
      refine f_iload (pc := 99) cx dX8_dropFirst_99 rfl ?_
      refine f_bind (fun r11 hr11 => ?_)
      refine k_X8_257 (pc := 101) cx (c_X4_step l G _ (h10 o1 11) v5 r11 hr11) ⟨by decide, by decide⟩ ⟨Nat.zero_le _, Nat.zero_le _⟩ (Nat.le_of_ble_eq_true rfl) dX8_dropFirst_101 ?_
      refine u_X8_254 (pc := 104) cx hk_o1 dX8_dropFirst_104 ?_
      refine f_nvh (fun h12 => ?_)
      refine f_goto (pc := 107) (tgt := 121) cx dX8_dropFirst_107 (by decide) ?_
      exact f_weak (LSb.s (LSb.s (LSb.n (LSb.s (LSb.n LSb.e))))) (s_X8_dropFirst_121 cx hr hlk _ o0 o1 x3 hk_o0 hk_o1)
set_option maxRecDepth 4000 in
theorem s_X8_dropFirst {p : Program} {l : Launch} {e : Env} {s : State} {m : MethodId} {args : Array Value} {below : List Frame} {meth : Method} {c : Code} {G : GT} (cx : CX p s m args c cX8_dropFirst 5 RX8 G) (hr : meth.sig.returnType = (some .int)) (hlk : meth.locks = false) (h : Hp) (o0 : Nat) (o1 : Nat) (x2 : Int32) (hk_o0 : kd o0 = 7) (hk_o1 : kd o1 = 0) : PF p l e (rmc 2 50) s m args below meth c 5 G 0 0 (QI below G args s) 0 [some (.ref (gad G o0)), some (.ref (gad G o1)), some (.int x2), none, none] [] h (p_X8_dropFirst h o0 o1 x2) := by
  unfold p_X8_dropFirst
  refine f_iload_n (pc := 0) cx dX8_dropFirst_0 rfl rfl ?_
  refine f_istore3 (pc := 1) cx dX8_dropFirst_1 (by decide) rfl ?_
  refine f_aload_n (pc := 2) cx dX8_dropFirst_2 rfl rfl ?_
  refine g_X8_18 (pc := 3) cx hk_o0 dX8_dropFirst_3 ?_
  refine f_iload_n (pc := 6) cx dX8_dropFirst_6 rfl rfl ?_
  refine f_bind (fun r13 hr13 => ?_)
  refine k_X8_162 (pc := 7) cx (c_X1_has l G _ (o0 + 2) x2 (kf_7_1 hk_o0) r13 hr13) (kf_7_1 hk_o0) ⟨by decide, by decide⟩ ⟨Nat.zero_le _, Nat.zero_le _⟩ (Nat.le_of_ble_eq_true rfl) dX8_dropFirst_7 ?_
  refine f_if_eq (pc := 10) (tgt := 34) cx dX8_dropFirst_10 (by decide) (fun _ => ?_) (fun _ => ?_)
  · refine f_aload_n (pc := 34) cx dX8_dropFirst_34 rfl rfl ?_
    refine f_iload_n (pc := 35) cx dX8_dropFirst_35 rfl rfl ?_
    refine f_bind (fun r14 hr14 => ?_)
    refine k_X8_269 (pc := 36) cx (c_X8_drop l G _ o0 x2 hk_o0 r14 hr14) hk_o0 ⟨by decide, by decide⟩ ⟨Nat.zero_le _, Nat.zero_le _⟩ (Nat.le_of_ble_eq_true rfl) dX8_dropFirst_36 ?_
    refine f_aload_n (pc := 39) cx dX8_dropFirst_39 rfl rfl ?_
    refine f_aload_n (pc := 40) cx dX8_dropFirst_40 rfl rfl ?_
    refine f_bind (fun r15 hr15 => ?_)
    refine k_X8_227 (pc := 41) cx (c_X8_take l G _ o0 o1 hk_o0 hk_o1 r15 hr15) hk_o0 ⟨by decide, by decide⟩ ⟨Nat.zero_le _, Nat.zero_le _⟩ (Nat.le_of_ble_eq_true rfl) dX8_dropFirst_41 ?_
    refine f_istore3 (pc := 44) cx dX8_dropFirst_44 (by decide) rfl ?_
    exact f_weak (LSb.s (LSb.s (LSb.n (LSb.s (LSb.n LSb.e))))) (s_X8_dropFirst_45 cx hr hlk _ o0 o1 r15.1 hk_o0 hk_o1)
  · refine f_aload_n (pc := 13) cx dX8_dropFirst_13 rfl rfl ?_
    refine g_X8_18 (pc := 14) cx hk_o0 dX8_dropFirst_14 ?_
    refine g_X8_260 (pc := 17) cx (kf_7_1 hk_o0) dX8_dropFirst_17 ?_
    refine f_iload_n (pc := 20) cx dX8_dropFirst_20 rfl rfl ?_
    refine f_need (fun c16 => ?_)
    refine f_iald (pc := 21) (n := 200) cx (kf_1_2 (kf_7_1 hk_o0)) (by decide) c16 dX8_dropFirst_21 ?_
    refine f_iconst (pc := 22) cx dX8_dropFirst_22 kc_iconst_1 ?_
    refine f_icmp_ne (pc := 23) (tgt := 34) cx dX8_dropFirst_23 (by decide) (fun _ => ?_) (fun _ => ?_)
    · refine f_aload_n (pc := 26) cx dX8_dropFirst_26 rfl rfl ?_
      refine f_iload_n (pc := 27) cx dX8_dropFirst_27 rfl rfl ?_
      refine f_bind (fun r17 hr17 => ?_)
      refine k_X8_263 (pc := 28) cx (c_X8_mark l G _ o0 x2 hk_o0 r17 hr17) hk_o0 ⟨by decide, by decide⟩ ⟨Nat.zero_le _, Nat.zero_le _⟩ (Nat.le_of_ble_eq_true rfl) dX8_dropFirst_28 ?_
      refine f_goto (pc := 31) (tgt := 45) cx dX8_dropFirst_31 (by decide) ?_
      exact f_weak (LSb.s (LSb.s (LSb.n (LSb.s (LSb.n LSb.e))))) (s_X8_dropFirst_45 cx hr hlk _ o0 o1 x2 hk_o0 hk_o1)
    · refine f_aload_n (pc := 34) cx dX8_dropFirst_34 rfl rfl ?_
      refine f_iload_n (pc := 35) cx dX8_dropFirst_35 rfl rfl ?_
      refine f_bind (fun r18 hr18 => ?_)
      refine k_X8_269 (pc := 36) cx (c_X8_drop l G _ o0 x2 hk_o0 r18 hr18) hk_o0 ⟨by decide, by decide⟩ ⟨Nat.zero_le _, Nat.zero_le _⟩ (Nat.le_of_ble_eq_true rfl) dX8_dropFirst_36 ?_
      refine f_aload_n (pc := 39) cx dX8_dropFirst_39 rfl rfl ?_
      refine f_aload_n (pc := 40) cx dX8_dropFirst_40 rfl rfl ?_
      refine f_bind (fun r19 hr19 => ?_)
      refine k_X8_227 (pc := 41) cx (c_X8_take l G _ o0 o1 hk_o0 hk_o1 r19 hr19) hk_o0 ⟨by decide, by decide⟩ ⟨Nat.zero_le _, Nat.zero_le _⟩ (Nat.le_of_ble_eq_true rfl) dX8_dropFirst_41 ?_
      refine f_istore3 (pc := 44) cx dX8_dropFirst_44 (by decide) rfl ?_
      exact f_weak (LSb.s (LSb.s (LSb.n (LSb.s (LSb.n LSb.e))))) (s_X8_dropFirst_45 cx hr hlk _ o0 o1 r19.1 hk_o0 hk_o1)
set_option maxRecDepth 4000 in
theorem c_X8_dropFirst (l : Launch) (G : GT) (h : Hp) (o0 : Nat) (o1 : Nat) (x2 : Int32) (hk_o0 : kd o0 = 7) (hk_o1 : kd o1 = 0) : CtI l G yX8_dropFirst cX8_dropFirst 5 (some .int) 2 50 [.ref (gad G o0), .ref (gad G o1), .int x2] h (p_X8_dropFirst h o0 o1 x2) := fun a ha => Ct.of (lv := [some (.ref (gad G o0)), some (.ref (gad G o1)), some (.int x2), none, none]) (by decide) rfl (Nat.le_of_ble_eq_true rfl) rfl (fun p e s m args below meth c cx hr hlk => s_X8_dropFirst cx hr hlk h o0 o1 x2 hk_o0 hk_o1 a ha)
def q_X8_leastTaken_69 (k27 : Hp × Int32 × Int32 → Option (Int32 × Hp)) (h : Hp) (o0 : Nat) (x1 : Int32) (x2 : Int32) (x3 : Int32) (y0 : Int32) : Option (Int32 × Hp) :=
  if ib x3 200 then (if (h (o0 + 2 + 5) (Int32.toNatClampNeg x3)) = x1 then (if y0 = 0 then (k27 (h, x2, x3 + 1)) else (if ib x3 200 then (if (h (o0 + 1) 1) ≤ ((h o0 7) - (h (o0 + 2 + 10) (Int32.toNatClampNeg x3))) then (k27 (h, x2, x3 + 1)) else (Option.bind (p_X1_waitOf h (o0 + 2) x3) fun r3 => nv (if r3.1 < x2 then r3.1 else x2) fun v4 => k27 (r3.2, v4, x3 + 1))) else none)) else (k27 (h, x2, x3 + 1))) else none
def b_X8_leastTaken_27 (o0 : Nat) (x1 : Int32) (k27 : Hp × Int32 × Int32 → Option (Int32 × Hp)) (q : Hp × Int32 × Int32) : Option (Int32 × Hp) :=
  if (q.1 (o0 + 2) 13) ≤ q.2.2 then (if q.2.1 = 99999999 then (some ((-2), q.1)) else (some (q.2.1, q.1))) else (if ib q.2.2 200 then (if (q.1 (o0 + 2 + 9) (Int32.toNatClampNeg q.2.2)) = 1 then (q_X8_leastTaken_69 k27 q.1 o0 x1 q.2.1 q.2.2 1) else (if ib q.2.2 200 then (if (q.1 (o0 + 2 + 9) (Int32.toNatClampNeg q.2.2)) = 2 then (q_X8_leastTaken_69 k27 q.1 o0 x1 q.2.1 q.2.2 1) else (q_X8_leastTaken_69 k27 q.1 o0 x1 q.2.1 q.2.2 0)) else none)) else none)
def p_X8_leastTaken (h : Hp) (o0 : Nat) (x1 : Int32) : Option (Int32 × Hp) :=
  Option.bind (p_X8_hasBucket h o0 x1) fun r7 => if r7.1 = 0 then (some ((-1), r7.2)) else (if ib x1 16 then (nv (if (r7.2 (o0 + 16 + 1 + Int32.toNatClampNeg x1) 13) < 0 then 0 else (r7.2 (o0 + 16 + 1 + Int32.toNatClampNeg x1) 13)) fun v9 => lp (b_X8_leastTaken_27 o0 x1) FU (r7.2, 99999999, v9)) else none)
set_option maxRecDepth 4000 in
theorem s_X8_leastTaken_69 {p : Program} {l : Launch} {e : Env} {s : State} {m : MethodId} {args : Array Value} {below : List Frame} {meth : Method} {c : Code} {G : GT} (cx : CX p s m args c cX8_leastTaken 5 RX8 G) (hr : meth.sig.returnType = (some .int)) (hlk : meth.locks = false) (h : Hp) (o0 : Nat) (x1 : Int32) (x2 : Int32) (x3 : Int32) (y0 : Int32) (hk_o0 : kd o0 = 7) (k27 : Hp × Int32 × Int32 → Option (Int32 × Hp)) (hk27 : ∀ (q : Hp × Int32 × Int32), PF p l e (rmc 2 41) s m args below meth c 5 G 0 0 (QI below G args s) 27 [some (.ref (gad G o0)), some (.int x1), some (.int q.2.1), some (.int q.2.2), none] [] q.1 (k27 q)) : PF p l e (rmc 2 41) s m args below meth c 5 G 0 0 (QI below G args s) 69 [some (.ref (gad G o0)), some (.int x1), some (.int x2), some (.int x3), none] [.int y0] h (q_X8_leastTaken_69 k27 h o0 x1 x2 x3 y0) := by
  unfold q_X8_leastTaken_69
  refine f_istore4 (pc := 69) cx dX8_leastTaken_69 (by decide) rfl ?_
  refine f_aload_n (pc := 71) cx dX8_leastTaken_71 rfl rfl ?_
  refine g_X8_18 (pc := 72) cx hk_o0 dX8_leastTaken_72 ?_
  refine g_X8_342 (pc := 75) cx (kf_7_1 hk_o0) dX8_leastTaken_75 ?_
  refine f_iload_n (pc := 78) cx dX8_leastTaken_78 rfl rfl ?_
  refine f_need (fun c1 => ?_)
  refine f_iald (pc := 79) (n := 200) cx (kf_1_4 (kf_7_1 hk_o0)) (by decide) c1 dX8_leastTaken_79 ?_
  refine f_iload_n (pc := 80) cx dX8_leastTaken_80 rfl rfl ?_
  refine f_icmp_ne (pc := 81) (tgt := 125) cx dX8_leastTaken_81 (by decide) (fun _ => ?_) (fun _ => ?_)
  · refine f_iload (pc := 84) cx dX8_leastTaken_84 rfl ?_
    refine f_if_eq (pc := 86) (tgt := 125) cx dX8_leastTaken_86 (by decide) (fun _ => ?_) (fun _ => ?_)
    · refine f_iinc3 (pc := 125) cx dX8_leastTaken_125 kc_iconst_1 (by decide) rfl ?_
      refine f_goto (pc := 128) (tgt := 27) cx dX8_leastTaken_128 (by decide) ?_
      exact f_weak (LSb.s (LSb.s (LSb.s (LSb.s (LSb.n LSb.e))))) (hk27 (h, x2, x3 + 1))
    · refine f_aload_n (pc := 89) cx dX8_leastTaken_89 rfl rfl ?_
      refine g_X8_52 (pc := 90) cx hk_o0 dX8_leastTaken_90 ?_
      refine f_aload_n (pc := 93) cx dX8_leastTaken_93 rfl rfl ?_
      refine g_X8_18 (pc := 94) cx hk_o0 dX8_leastTaken_94 ?_
      refine g_X8_302 (pc := 97) cx (kf_7_1 hk_o0) dX8_leastTaken_97 ?_
      refine f_iload_n (pc := 100) cx dX8_leastTaken_100 rfl rfl ?_
      refine f_need (fun c2 => ?_)
      refine f_iald (pc := 101) (n := 200) cx (kf_1_9 (kf_7_1 hk_o0)) (by decide) c2 dX8_leastTaken_101 ?_
      refine f_isub (pc := 102) cx dX8_leastTaken_102 ?_
      refine f_aload_n (pc := 103) cx dX8_leastTaken_103 rfl rfl ?_
      refine g_X8_9 (pc := 104) cx hk_o0 dX8_leastTaken_104 ?_
      refine f_iconst (pc := 107) cx dX8_leastTaken_107 kc_iconst_1 ?_
      refine f_ialdk (pc := 108) (j := 1) (n := 8) cx (kf_7_0 hk_o0) (by decide) (by decide) kl_1 dX8_leastTaken_108 ?_
      refine f_icmp_ge (pc := 109) (tgt := 125) cx dX8_leastTaken_109 (by decide) (fun _ => ?_) (fun _ => ?_)
      · refine f_iinc3 (pc := 125) cx dX8_leastTaken_125 kc_iconst_1 (by decide) rfl ?_
        refine f_goto (pc := 128) (tgt := 27) cx dX8_leastTaken_128 (by decide) ?_
        exact f_weak (LSb.s (LSb.s (LSb.s (LSb.s (LSb.n LSb.e))))) (hk27 (h, x2, x3 + 1))
      · refine f_iload_n (pc := 112) cx dX8_leastTaken_112 rfl rfl ?_
        refine f_aload_n (pc := 113) cx dX8_leastTaken_113 rfl rfl ?_
        refine g_X8_18 (pc := 114) cx hk_o0 dX8_leastTaken_114 ?_
        refine f_iload_n (pc := 117) cx dX8_leastTaken_117 rfl rfl ?_
        refine f_bind (fun r3 hr3 => ?_)
        refine k_X8_221 (pc := 118) cx (c_X1_waitOf l G _ (o0 + 2) x3 (kf_7_1 hk_o0) r3 hr3) (kf_7_1 hk_o0) ⟨by decide, by decide⟩ ⟨Nat.zero_le _, Nat.zero_le _⟩ (Nat.le_of_ble_eq_true rfl) dX8_leastTaken_118 ?_
        refine k_X8_118 (pc := 121) cx ⟨by decide, by decide⟩ ⟨Nat.zero_le _, Nat.zero_le _⟩ (Nat.le_of_ble_eq_true rfl) dX8_leastTaken_121 ?_
        refine f_nvi (fun v4 => ?_)
        refine f_istore2 (pc := 124) cx dX8_leastTaken_124 (by decide) rfl ?_
        refine f_iinc3 (pc := 125) cx dX8_leastTaken_125 kc_iconst_1 (by decide) rfl ?_
        refine f_goto (pc := 128) (tgt := 27) cx dX8_leastTaken_128 (by decide) ?_
        exact f_weak (LSb.s (LSb.s (LSb.s (LSb.s (LSb.n LSb.e))))) (hk27 (r3.2, v4, x3 + 1))
  · refine f_iinc3 (pc := 125) cx dX8_leastTaken_125 kc_iconst_1 (by decide) rfl ?_
    refine f_goto (pc := 128) (tgt := 27) cx dX8_leastTaken_128 (by decide) ?_
    exact f_weak (LSb.s (LSb.s (LSb.s (LSb.s (LSb.n LSb.e))))) (hk27 (h, x2, x3 + 1))
set_option maxRecDepth 4000 in
theorem s_X8_leastTaken_27 {p : Program} {l : Launch} {e : Env} {s : State} {m : MethodId} {args : Array Value} {below : List Frame} {meth : Method} {c : Code} {G : GT} (cx : CX p s m args c cX8_leastTaken 5 RX8 G) (hr : meth.sig.returnType = (some .int)) (hlk : meth.locks = false) (o0 : Nat) (x1 : Int32) (hk_o0 : kd o0 = 7) : ∀ (n : Nat) (q : Hp × Int32 × Int32), PF p l e (rmc 2 41) s m args below meth c 5 G 0 0 (QI below G args s) 27 [some (.ref (gad G o0)), some (.int x1), some (.int q.2.1), some (.int q.2.2), none] [] q.1 (lp (b_X8_leastTaken_27 o0 x1) n q) := by
  refine f_lp (lvf := fun (q : Hp × Int32 × Int32) => [some (.ref (gad G o0)), some (.int x1), some (.int q.2.1), some (.int q.2.2), none]) (hf := fun (q : Hp × Int32 × Int32) => q.1) (fun k27 hk27 q => ?_)
  show PF p l e (rmc 2 41) s m args below meth c 5 G 0 0 (QI below G args s) 27 [some (.ref (gad G o0)), some (.int x1), some (.int q.2.1), some (.int q.2.2), none] [] q.1 (b_X8_leastTaken_27 o0 x1 k27 q)
  unfold b_X8_leastTaken_27
  refine f_iload_n (pc := 27) cx dX8_leastTaken_27 rfl rfl ?_
  refine f_aload_n (pc := 28) cx dX8_leastTaken_28 rfl rfl ?_
  refine g_X8_18 (pc := 29) cx hk_o0 dX8_leastTaken_29 ?_
  refine g_X8_136 (pc := 32) cx (kf_7_1 hk_o0) dX8_leastTaken_32 ?_
  refine f_icmp_ge (pc := 35) (tgt := 131) cx dX8_leastTaken_35 (by decide) (fun _ => ?_) (fun _ => ?_)
  · refine f_iload_n (pc := 131) cx dX8_leastTaken_131 rfl rfl ?_
    refine f_ldc (pc := 132) cx w_306 dX8_leastTaken_132 ?_
    refine f_icmp_ne (pc := 134) (tgt := 142) cx dX8_leastTaken_134 (by decide) (fun _ => ?_) (fun _ => ?_)
    · refine f_bipush (pc := 137) cx dX8_leastTaken_137 kc_bipush_m2 ?_
      refine f_goto (pc := 139) (tgt := 143) cx dX8_leastTaken_139 (by decide) ?_
      exact f_iret cx hr hlk rfl dX8_leastTaken_143
    · refine f_iload_n (pc := 142) cx dX8_leastTaken_142 rfl rfl ?_
      exact f_iret cx hr hlk rfl dX8_leastTaken_143
  · refine f_aload_n (pc := 38) cx dX8_leastTaken_38 rfl rfl ?_
    refine g_X8_18 (pc := 39) cx hk_o0 dX8_leastTaken_39 ?_
    refine g_X8_311 (pc := 42) cx (kf_7_1 hk_o0) dX8_leastTaken_42 ?_
    refine f_iload_n (pc := 45) cx dX8_leastTaken_45 rfl rfl ?_
    refine f_need (fun c5 => ?_)
    refine f_iald (pc := 46) (n := 200) cx (kf_1_8 (kf_7_1 hk_o0)) (by decide) c5 dX8_leastTaken_46 ?_
    refine f_iconst (pc := 47) cx dX8_leastTaken_47 kc_iconst_1 ?_
    refine f_icmp_eq (pc := 48) (tgt := 64) cx dX8_leastTaken_48 (by decide) (fun _ => ?_) (fun _ => ?_)
    · refine f_iconst (pc := 64) cx dX8_leastTaken_64 kc_iconst_1 ?_
      refine f_goto (pc := 65) (tgt := 69) cx dX8_leastTaken_65 (by decide) ?_
      exact f_weak (LSb.s (LSb.s (LSb.s (LSb.s (LSb.n LSb.e))))) (s_X8_leastTaken_69 cx hr hlk _ o0 x1 q.2.1 q.2.2 1 hk_o0 k27 hk27)
    · refine f_aload_n (pc := 51) cx dX8_leastTaken_51 rfl rfl ?_
      refine g_X8_18 (pc := 52) cx hk_o0 dX8_leastTaken_52 ?_
      refine g_X8_311 (pc := 55) cx (kf_7_1 hk_o0) dX8_leastTaken_55 ?_
      refine f_iload_n (pc := 58) cx dX8_leastTaken_58 rfl rfl ?_
      refine f_need (fun c6 => ?_)
      refine f_iald (pc := 59) (n := 200) cx (kf_1_8 (kf_7_1 hk_o0)) (by decide) c6 dX8_leastTaken_59 ?_
      refine f_iconst (pc := 60) cx dX8_leastTaken_60 kc_iconst_2 ?_
      refine f_icmp_ne (pc := 61) (tgt := 68) cx dX8_leastTaken_61 (by decide) (fun _ => ?_) (fun _ => ?_)
      · refine f_iconst (pc := 64) cx dX8_leastTaken_64 kc_iconst_1 ?_
        refine f_goto (pc := 65) (tgt := 69) cx dX8_leastTaken_65 (by decide) ?_
        exact f_weak (LSb.s (LSb.s (LSb.s (LSb.s (LSb.n LSb.e))))) (s_X8_leastTaken_69 cx hr hlk _ o0 x1 q.2.1 q.2.2 1 hk_o0 k27 hk27)
      · refine f_iconst (pc := 68) cx dX8_leastTaken_68 kc_iconst_0 ?_
        exact f_weak (LSb.s (LSb.s (LSb.s (LSb.s (LSb.n LSb.e))))) (s_X8_leastTaken_69 cx hr hlk _ o0 x1 q.2.1 q.2.2 0 hk_o0 k27 hk27)
set_option maxRecDepth 4000 in
theorem s_X8_leastTaken {p : Program} {l : Launch} {e : Env} {s : State} {m : MethodId} {args : Array Value} {below : List Frame} {meth : Method} {c : Code} {G : GT} (cx : CX p s m args c cX8_leastTaken 5 RX8 G) (hr : meth.sig.returnType = (some .int)) (hlk : meth.locks = false) (h : Hp) (o0 : Nat) (x1 : Int32) (hk_o0 : kd o0 = 7) : PF p l e (rmc 2 41) s m args below meth c 5 G 0 0 (QI below G args s) 0 [some (.ref (gad G o0)), some (.int x1), none, none, none] [] h (p_X8_leastTaken h o0 x1) := by
  unfold p_X8_leastTaken
  refine f_aload_n (pc := 0) cx dX8_leastTaken_0 rfl rfl ?_
  refine f_iload_n (pc := 1) cx dX8_leastTaken_1 rfl rfl ?_
  refine f_bind (fun r7 hr7 => ?_)
  refine k_X8_137 (pc := 2) cx (c_X8_hasBucket l G _ o0 x1 hk_o0 r7 hr7) hk_o0 ⟨by decide, by decide⟩ ⟨Nat.zero_le _, Nat.zero_le _⟩ (Nat.le_of_ble_eq_true rfl) dX8_leastTaken_2 ?_
  refine f_if_ne (pc := 5) (tgt := 10) cx dX8_leastTaken_5 (by decide) (fun _ => ?_) (fun _ => ?_)
  · refine f_iconst (pc := 8) cx dX8_leastTaken_8 kc_iconst_m1 ?_
    exact f_iret cx hr hlk rfl dX8_leastTaken_9
  · refine f_ldc (pc := 10) cx w_306 dX8_leastTaken_10 ?_
    refine f_istore2 (pc := 12) cx dX8_leastTaken_12 (by decide) rfl ?_
    refine f_aload_n (pc := 13) cx dX8_leastTaken_13 rfl rfl ?_
    refine g_X8_24 (pc := 14) cx hk_o0 dX8_leastTaken_14 ?_
    refine f_iload_n (pc := 17) cx dX8_leastTaken_17 rfl rfl ?_
    refine f_need (fun c8 => ?_)
    refine f_aldB (pc := 18) cx (kf_7_2 hk_o0) c8 dX8_leastTaken_18 ?_
    refine g_X8_339 (pc := 19) cx (ka_b (kf_7_2 hk_o0) c8) dX8_leastTaken_19 ?_
    refine f_iconst (pc := 22) cx dX8_leastTaken_22 kc_iconst_0 ?_
    refine k_X8_156 (pc := 23) cx ⟨by decide, by decide⟩ ⟨Nat.zero_le _, Nat.zero_le _⟩ (Nat.le_of_ble_eq_true rfl) dX8_leastTaken_23 ?_
    refine f_nvi (fun v9 => ?_)
    refine f_istore3 (pc := 26) cx dX8_leastTaken_26 (by decide) rfl ?_
    exact f_weak (LSb.s (LSb.s (LSb.s (LSb.s (LSb.n LSb.e))))) (s_X8_leastTaken_27 cx hr hlk o0 x1 hk_o0 FU (r7.2, 99999999, v9))
set_option maxRecDepth 4000 in
theorem c_X8_leastTaken (l : Launch) (G : GT) (h : Hp) (o0 : Nat) (x1 : Int32) (hk_o0 : kd o0 = 7) : CtI l G yX8_leastTaken cX8_leastTaken 5 (some .int) 2 41 [.ref (gad G o0), .int x1] h (p_X8_leastTaken h o0 x1) := fun a ha => Ct.of (lv := [some (.ref (gad G o0)), some (.int x1), none, none, none]) (by decide) rfl (Nat.le_of_ble_eq_true rfl) rfl (fun p e s m args below meth c cx hr hlk => s_X8_leastTaken cx hr hlk h o0 x1 hk_o0 a ha)
def p_X8_keep (h : Hp) (o0 : Nat) (o1 : Nat) : Option (Int32 × Hp) :=
  Option.bind (p_X8_take h o0 o1) fun r1 => if (r1.2 o1 12) = 0 then (if (r1.2 o0 11) = 0 then (some (r1.1, r1.2)) else (Option.bind (p_X8_dropFirst r1.2 o0 o1 r1.1) fun r2 => some (r2.1, r2.2))) else (if (r1.2 o0 11) = 0 then (nv (hp r1.2 o1 12 0) fun h3 => some (r1.1, h3)) else (Option.bind (p_X8_dropMore r1.2 o0 o1 r1.1) fun r4 => some (r4.1, r4.2)))
set_option maxRecDepth 4000 in
theorem s_X8_keep {p : Program} {l : Launch} {e : Env} {s : State} {m : MethodId} {args : Array Value} {below : List Frame} {meth : Method} {c : Code} {G : GT} (cx : CX p s m args c cX8_keep 3 RX8 G) (hr : meth.sig.returnType = (some .int)) (hlk : meth.locks = false) (h : Hp) (o0 : Nat) (o1 : Nat) (hk_o0 : kd o0 = 7) (hk_o1 : kd o1 = 0) : PF p l e (rmc 3 74) s m args below meth c 3 G 0 0 (QI below G args s) 0 [some (.ref (gad G o0)), some (.ref (gad G o1)), none] [] h (p_X8_keep h o0 o1) := by
  unfold p_X8_keep
  refine f_aload_n (pc := 0) cx dX8_keep_0 rfl rfl ?_
  refine f_aload_n (pc := 1) cx dX8_keep_1 rfl rfl ?_
  refine f_bind (fun r1 hr1 => ?_)
  refine k_X8_227 (pc := 2) cx (c_X8_take l G _ o0 o1 hk_o0 hk_o1 r1 hr1) hk_o0 ⟨by decide, by decide⟩ ⟨Nat.zero_le _, Nat.zero_le _⟩ (Nat.le_of_ble_eq_true rfl) dX8_keep_2 ?_
  refine f_istore2 (pc := 5) cx dX8_keep_5 (by decide) rfl ?_
  refine f_aload_n (pc := 6) cx dX8_keep_6 rfl rfl ?_
  refine g_X8_230 (pc := 7) cx hk_o1 dX8_keep_7 ?_
  refine f_if_eq (pc := 10) (tgt := 34) cx dX8_keep_10 (by decide) (fun _ => ?_) (fun _ => ?_)
  · refine f_aload_n (pc := 34) cx dX8_keep_34 rfl rfl ?_
    refine g_X8_64 (pc := 35) cx hk_o0 dX8_keep_35 ?_
    refine f_if_eq (pc := 38) (tgt := 50) cx dX8_keep_38 (by decide) (fun _ => ?_) (fun _ => ?_)
    · refine f_iload_n (pc := 50) cx dX8_keep_50 rfl rfl ?_
      exact f_iret cx hr hlk rfl dX8_keep_51
    · refine f_aload_n (pc := 41) cx dX8_keep_41 rfl rfl ?_
      refine f_aload_n (pc := 42) cx dX8_keep_42 rfl rfl ?_
      refine f_iload_n (pc := 43) cx dX8_keep_43 rfl rfl ?_
      refine f_bind (fun r2 hr2 => ?_)
      refine k_X8_237 (pc := 44) cx (c_X8_dropFirst l G _ o0 o1 r1.1 hk_o0 hk_o1 r2 hr2) hk_o0 ⟨by decide, by decide⟩ ⟨Nat.zero_le _, Nat.zero_le _⟩ (Nat.le_of_ble_eq_true rfl) dX8_keep_44 ?_
      refine f_goto (pc := 47) (tgt := 51) cx dX8_keep_47 (by decide) ?_
      exact f_iret cx hr hlk rfl dX8_keep_51
  · refine f_aload_n (pc := 13) cx dX8_keep_13 rfl rfl ?_
    refine g_X8_64 (pc := 14) cx hk_o0 dX8_keep_14 ?_
    refine f_if_eq (pc := 17) (tgt := 27) cx dX8_keep_17 (by decide) (fun _ => ?_) (fun _ => ?_)
    · refine f_aload_n (pc := 27) cx dX8_keep_27 rfl rfl ?_
      refine f_iconst (pc := 28) cx dX8_keep_28 kc_iconst_0 ?_
      refine u_X8_230 (pc := 29) cx hk_o1 bb_0 dX8_keep_29 ?_
      refine f_nvh (fun h3 => ?_)
      refine f_iload_n (pc := 32) cx dX8_keep_32 rfl rfl ?_
      exact f_iret cx hr hlk rfl dX8_keep_33
    · refine f_aload_n (pc := 20) cx dX8_keep_20 rfl rfl ?_
      refine f_aload_n (pc := 21) cx dX8_keep_21 rfl rfl ?_
      refine f_iload_n (pc := 22) cx dX8_keep_22 rfl rfl ?_
      refine f_bind (fun r4 hr4 => ?_)
      refine k_X8_233 (pc := 23) cx (c_X8_dropMore l G _ o0 o1 r1.1 hk_o0 hk_o1 r4 hr4) hk_o0 ⟨by decide, by decide⟩ ⟨Nat.zero_le _, Nat.zero_le _⟩ (Nat.le_of_ble_eq_true rfl) dX8_keep_23 ?_
      exact f_iret cx hr hlk rfl dX8_keep_26
set_option maxRecDepth 4000 in
theorem c_X8_keep (l : Launch) (G : GT) (h : Hp) (o0 : Nat) (o1 : Nat) (hk_o0 : kd o0 = 7) (hk_o1 : kd o1 = 0) : CtI l G yX8_keep cX8_keep 3 (some .int) 3 74 [.ref (gad G o0), .ref (gad G o1)] h (p_X8_keep h o0 o1) := fun a ha => Ct.of (lv := [some (.ref (gad G o0)), some (.ref (gad G o1)), none]) (by decide) rfl (Nat.le_of_ble_eq_true rfl) rfl (fun p e s m args below meth c cx hr hlk => s_X8_keep cx hr hlk h o0 o1 hk_o0 hk_o1 a ha)
def b_X8_letSend_9 (o0 : Nat) (x1 : Int32) (o2 : Nat) (k9 : Hp × Int32 → Option Hp) (q : Hp × Int32) : Option Hp :=
  if 200 ≤ q.2 then (some q.1) else (Option.bind (p_X5_hasRoom q.1 o2) fun r1 => if r1.1 = 0 then (some r1.2) else (Option.bind (p_X8_arrive r1.2 o0 (r1.2 o2 0) (r1.2 o2 1) (r1.2 o2 4) x1) fun r2 => if 0 ≤ r2.1 then (nv (hp r2.2 o2 5 ((r2.2 o2 5) + 1)) fun h3 => k9 (h3, q.2 + 1)) else (some r2.2)))
def p_X8_letSend (h : Hp) (o0 : Nat) (x1 : Int32) : Option Hp :=
  if ib x1 4 then (lp (b_X8_letSend_9 o0 x1 (o0 + 35 + 1 + Int32.toNatClampNeg x1)) FU (h, 0)) else none
set_option maxRecDepth 4000 in
theorem s_X8_letSend_9 {p : Program} {l : Launch} {e : Env} {s : State} {m : MethodId} {args : Array Value} {below : List Frame} {meth : Method} {c : Code} {G : GT} (cx : CX p s m args c cX8_letSend 4 RX8 G) (hr : meth.sig.returnType = none) (hlk : meth.locks = false) (o0 : Nat) (x1 : Int32) (o2 : Nat) (hk_o0 : kd o0 = 7) (hk_o2 : kd o2 = 4) : ∀ (n : Nat) (q : Hp × Int32), PF p l e (rmc 4 93) s m args below meth c 4 G 0 0 (QV below G args s) 9 [some (.ref (gad G o0)), some (.int x1), some (.ref (gad G o2)), some (.int q.2)] [] q.1 (lp (b_X8_letSend_9 o0 x1 o2) n q) := by
  refine f_lp (lvf := fun (q : Hp × Int32) => [some (.ref (gad G o0)), some (.int x1), some (.ref (gad G o2)), some (.int q.2)]) (hf := fun (q : Hp × Int32) => q.1) (fun k9 hk9 q => ?_)
  show PF p l e (rmc 4 93) s m args below meth c 4 G 0 0 (QV below G args s) 9 [some (.ref (gad G o0)), some (.int x1), some (.ref (gad G o2)), some (.int q.2)] [] q.1 (b_X8_letSend_9 o0 x1 o2 k9 q)
  unfold b_X8_letSend_9
  refine f_iload_n (pc := 9) cx dX8_letSend_9 rfl rfl ?_
  refine f_sipush (pc := 10) cx dX8_letSend_10 kc_sipush_200 ?_
  refine f_icmp_ge (pc := 13) (tgt := 60) cx dX8_letSend_13 (by decide) (fun _ => ?_) (fun _ => ?_)
  · exact f_vret cx hr hlk dX8_letSend_60
  · refine f_aload_n (pc := 16) cx dX8_letSend_16 rfl rfl ?_
    refine f_bind (fun r1 hr1 => ?_)
    refine k_X8_318 (pc := 17) cx (c_X5_hasRoom l G _ o2 hk_o2 r1 hr1) hk_o2 ⟨by decide, by decide⟩ ⟨Nat.zero_le _, Nat.zero_le _⟩ (Nat.le_of_ble_eq_true rfl) dX8_letSend_17 ?_
    refine f_if_eq (pc := 20) (tgt := 60) cx dX8_letSend_20 (by decide) (fun _ => ?_) (fun _ => ?_)
    · exact f_vret cx hr hlk dX8_letSend_60
    · refine f_aload_n (pc := 23) cx dX8_letSend_23 rfl rfl ?_
      refine f_aload_n (pc := 24) cx dX8_letSend_24 rfl rfl ?_
      refine g_X8_321 (pc := 25) cx hk_o2 dX8_letSend_25 ?_
      refine f_aload_n (pc := 28) cx dX8_letSend_28 rfl rfl ?_
      refine g_X8_323 (pc := 29) cx hk_o2 dX8_letSend_29 ?_
      refine f_aload_n (pc := 32) cx dX8_letSend_32 rfl rfl ?_
      refine g_X8_324 (pc := 33) cx hk_o2 dX8_letSend_33 ?_
      refine f_iload_n (pc := 36) cx dX8_letSend_36 rfl rfl ?_
      refine f_bind (fun r2 hr2 => ?_)
      refine k_X8_326 (pc := 37) cx (c_X8_arrive l G _ o0 (r1.2 o2 0) (r1.2 o2 1) (r1.2 o2 4) x1 hk_o0 r2 hr2) hk_o0 ⟨by decide, by decide⟩ ⟨Nat.zero_le _, Nat.zero_le _⟩ (Nat.le_of_ble_eq_true rfl) dX8_letSend_37 ?_
      refine f_if_ge (pc := 40) (tgt := 44) cx dX8_letSend_40 (by decide) (fun _ => ?_) (fun _ => ?_)
      · refine f_aload_n (pc := 44) cx dX8_letSend_44 rfl rfl ?_
        refine f_dup (pc := 45) cx dX8_letSend_45 rfl ?_
        refine g_X8_330 (pc := 46) cx hk_o2 dX8_letSend_46 ?_
        refine f_iconst (pc := 49) cx dX8_letSend_49 kc_iconst_1 ?_
        refine f_iadd (pc := 50) cx dX8_letSend_50 ?_
        refine u_X8_330 (pc := 51) cx hk_o2 dX8_letSend_51 ?_
        refine f_nvh (fun h3 => ?_)
        refine f_iinc3 (pc := 54) cx dX8_letSend_54 kc_iconst_1 (by decide) rfl ?_
        refine f_goto (pc := 57) (tgt := 9) cx dX8_letSend_57 (by decide) ?_
        exact f_weak (LSb.s (LSb.s (LSb.s (LSb.s LSb.e)))) (hk9 (h3, q.2 + 1))
      · exact f_vret cx hr hlk dX8_letSend_43
set_option maxRecDepth 4000 in
theorem s_X8_letSend {p : Program} {l : Launch} {e : Env} {s : State} {m : MethodId} {args : Array Value} {below : List Frame} {meth : Method} {c : Code} {G : GT} (cx : CX p s m args c cX8_letSend 4 RX8 G) (hr : meth.sig.returnType = none) (hlk : meth.locks = false) (h : Hp) (o0 : Nat) (x1 : Int32) (hk_o0 : kd o0 = 7) : PF p l e (rmc 4 93) s m args below meth c 4 G 0 0 (QV below G args s) 0 [some (.ref (gad G o0)), some (.int x1), none, none] [] h (p_X8_letSend h o0 x1) := by
  unfold p_X8_letSend
  refine f_aload_n (pc := 0) cx dX8_letSend_0 rfl rfl ?_
  refine g_X8_37 (pc := 1) cx hk_o0 dX8_letSend_1 ?_
  refine f_iload_n (pc := 4) cx dX8_letSend_4 rfl rfl ?_
  refine f_need (fun c4 => ?_)
  refine f_aldS (pc := 5) cx (kf_7_4 hk_o0) c4 dX8_letSend_5 ?_
  refine f_astore2 (pc := 6) cx dX8_letSend_6 (by decide) rfl ?_
  refine f_iconst (pc := 7) cx dX8_letSend_7 kc_iconst_0 ?_
  refine f_istore3 (pc := 8) cx dX8_letSend_8 (by decide) rfl ?_
  exact f_weak (LSb.s (LSb.s (LSb.s (LSb.s LSb.e)))) (s_X8_letSend_9 cx hr hlk o0 x1 (o0 + 35 + 1 + Int32.toNatClampNeg x1) hk_o0 (ka_s (kf_7_4 hk_o0) c4) FU (h, 0))
set_option maxRecDepth 4000 in
theorem c_X8_letSend (l : Launch) (G : GT) (h : Hp) (o0 : Nat) (x1 : Int32) (hk_o0 : kd o0 = 7) : CtV l G yX8_letSend cX8_letSend 4 none 4 93 [.ref (gad G o0), .int x1] h (p_X8_letSend h o0 x1) := fun a ha => Ct.of (lv := [some (.ref (gad G o0)), some (.int x1), none, none]) (by decide) rfl (Nat.le_of_ble_eq_true rfl) rfl (fun p e s m args below meth c cx hr hlk => s_X8_letSend cx hr hlk h o0 x1 hk_o0 a ha)
def b_X8_serve_2 (o0 : Nat) (k2 : Hp × Int32 → Option (Int32 × Hp)) (q : Hp × Int32) : Option (Int32 × Hp) :=
  if 1000000 ≤ q.2 then (some ((-2), q.1)) else (Option.bind (p_X2_at q.1 (o0 + 33) 0) fun r1 => Option.bind (p_X8_hasBucket r1.2 o0 r1.1) fun r2 => if r2.1 = 0 then (some ((-2), r2.2)) else (if ib r1.1 16 then (if 0 < (r2.2 (o0 + 16 + 1 + Int32.toNatClampNeg r1.1) 5) then (Option.bind (p_X8_keep r2.2 o0 (o0 + 16 + 1 + Int32.toNatClampNeg r1.1)) fun r4 => Option.bind (p_X1_has r4.2 (o0 + 2) r4.1) fun r5 => if r5.1 = 0 then (if (r5.2 (o0 + 16 + 1 + Int32.toNatClampNeg r1.1) 6) = 1 then (Option.bind (p_X2_hasOld r5.2 (o0 + 33)) fun r6 => if r6.1 = 0 then (Option.bind (p_X8_release r6.2 o0 (o0 + 16 + 1 + Int32.toNatClampNeg r1.1)) fun r7 => k2 (r7, q.2 + 1)) else (Option.bind (p_X8_putBack r6.2 o0 (o0 + 16 + 1 + Int32.toNatClampNeg r1.1)) fun r8 => k2 (r8, q.2 + 1))) else (Option.bind (p_X8_release r5.2 o0 (o0 + 16 + 1 + Int32.toNatClampNeg r1.1)) fun r9 => k2 (r9, q.2 + 1))) else (Option.bind (p_X8_send r5.2 o0 (o0 + 16 + 1 + Int32.toNatClampNeg r1.1) r4.1) fun r10 => some (r4.1, r10))) else (nv (hp r2.2 (o0 + 16 + 1 + Int32.toNatClampNeg r1.1) 5 ((r2.2 (o0 + 16 + 1 + Int32.toNatClampNeg r1.1) 5) + (r2.2 (o0 + 1) 2))) fun h11 => Option.bind (p_X8_putBack h11 o0 (o0 + 16 + 1 + Int32.toNatClampNeg r1.1)) fun r12 => k2 (r12, q.2 + 1))) else none))
def p_X8_serve (h : Hp) (o0 : Nat) : Option (Int32 × Hp) :=
  lp (b_X8_serve_2 o0) FU (h, 0)
set_option maxRecDepth 4000 in
theorem s_X8_serve_2 {p : Program} {l : Launch} {e : Env} {s : State} {m : MethodId} {args : Array Value} {below : List Frame} {meth : Method} {c : Code} {G : GT} (cx : CX p s m args c cX8_serve 5 RX8 G) (hr : meth.sig.returnType = (some .int)) (hlk : meth.locks = false) (o0 : Nat) (hk_o0 : kd o0 = 7) : ∀ (n : Nat) (q : Hp × Int32), PF p l e (rmc 4 96) s m args below meth c 5 G 0 0 (QI below G args s) 2 [some (.ref (gad G o0)), some (.int q.2), none, none, none] [] q.1 (lp (b_X8_serve_2 o0) n q) := by
  refine f_lp (lvf := fun (q : Hp × Int32) => [some (.ref (gad G o0)), some (.int q.2), none, none, none]) (hf := fun (q : Hp × Int32) => q.1) (fun k2 hk2 q => ?_)
  show PF p l e (rmc 4 96) s m args below meth c 5 G 0 0 (QI below G args s) 2 [some (.ref (gad G o0)), some (.int q.2), none, none, none] [] q.1 (b_X8_serve_2 o0 k2 q)
  unfold b_X8_serve_2
  refine f_iload_n (pc := 2) cx dX8_serve_2 rfl rfl ?_
  refine f_ldc (pc := 3) cx w_749 dX8_serve_3 ?_
  refine f_icmp_ge (pc := 5) (tgt := 131) cx dX8_serve_5 (by decide) (fun _ => ?_) (fun _ => ?_)
  · refine f_bipush (pc := 131) cx dX8_serve_131 kc_bipush_m2 ?_
    exact f_iret cx hr hlk rfl dX8_serve_133
  · refine f_aload_n (pc := 8) cx dX8_serve_8 rfl rfl ?_
    refine g_X8_31 (pc := 9) cx hk_o0 dX8_serve_9 ?_
    refine f_iconst (pc := 12) cx dX8_serve_12 kc_iconst_0 ?_
    refine f_bind (fun r1 hr1 => ?_)
    refine k_X8_193 (pc := 13) cx (c_X2_at l G _ (o0 + 33) 0 (kf_7_3 hk_o0) r1 hr1) (kf_7_3 hk_o0) ⟨by decide, by decide⟩ ⟨Nat.zero_le _, Nat.zero_le _⟩ (Nat.le_of_ble_eq_true rfl) dX8_serve_13 ?_
    refine f_istore2 (pc := 16) cx dX8_serve_16 (by decide) rfl ?_
    refine f_aload_n (pc := 17) cx dX8_serve_17 rfl rfl ?_
    refine f_iload_n (pc := 18) cx dX8_serve_18 rfl rfl ?_
    refine f_bind (fun r2 hr2 => ?_)
    refine k_X8_137 (pc := 19) cx (c_X8_hasBucket l G _ o0 r1.1 hk_o0 r2 hr2) hk_o0 ⟨by decide, by decide⟩ ⟨Nat.zero_le _, Nat.zero_le _⟩ (Nat.le_of_ble_eq_true rfl) dX8_serve_19 ?_
    refine f_if_ne (pc := 22) (tgt := 28) cx dX8_serve_22 (by decide) (fun _ => ?_) (fun _ => ?_)
    · refine f_bipush (pc := 25) cx dX8_serve_25 kc_bipush_m2 ?_
      exact f_iret cx hr hlk rfl dX8_serve_27
    · refine f_aload_n (pc := 28) cx dX8_serve_28 rfl rfl ?_
      refine g_X8_24 (pc := 29) cx hk_o0 dX8_serve_29 ?_
      refine f_iload_n (pc := 32) cx dX8_serve_32 rfl rfl ?_
      refine f_need (fun c3 => ?_)
      refine f_aldB (pc := 33) cx (kf_7_2 hk_o0) c3 dX8_serve_33 ?_
      refine f_astore3 (pc := 34) cx dX8_serve_34 (by decide) rfl ?_
      refine f_aload_n (pc := 35) cx dX8_serve_35 rfl rfl ?_
      refine g_X8_196 (pc := 36) cx (ka_b (kf_7_2 hk_o0) c3) dX8_serve_36 ?_
      refine f_if_gt (pc := 39) (tgt := 65) cx dX8_serve_39 (by decide) (fun _ => ?_) (fun _ => ?_)
      · refine f_aload_n (pc := 65) cx dX8_serve_65 rfl rfl ?_
        refine f_aload_n (pc := 66) cx dX8_serve_66 rfl rfl ?_
        refine f_bind (fun r4 hr4 => ?_)
        refine k_X8_202 (pc := 67) cx (c_X8_keep l G _ o0 (o0 + 16 + 1 + Int32.toNatClampNeg r1.1) hk_o0 (ka_b (kf_7_2 hk_o0) c3) r4 hr4) hk_o0 ⟨by decide, by decide⟩ ⟨Nat.zero_le _, Nat.zero_le _⟩ (Nat.le_of_ble_eq_true rfl) dX8_serve_67 ?_
        refine f_istore4 (pc := 70) cx dX8_serve_70 (by decide) rfl ?_
        refine f_aload_n (pc := 72) cx dX8_serve_72 rfl rfl ?_
        refine g_X8_18 (pc := 73) cx hk_o0 dX8_serve_73 ?_
        refine f_iload (pc := 76) cx dX8_serve_76 rfl ?_
        refine f_bind (fun r5 hr5 => ?_)
        refine k_X8_162 (pc := 78) cx (c_X1_has l G _ (o0 + 2) r4.1 (kf_7_1 hk_o0) r5 hr5) (kf_7_1 hk_o0) ⟨by decide, by decide⟩ ⟨Nat.zero_le _, Nat.zero_le _⟩ (Nat.le_of_ble_eq_true rfl) dX8_serve_78 ?_
        refine f_if_eq (pc := 81) (tgt := 94) cx dX8_serve_81 (by decide) (fun _ => ?_) (fun _ => ?_)
        · refine f_aload_n (pc := 94) cx dX8_serve_94 rfl rfl ?_
          refine g_X8_123 (pc := 95) cx (ka_b (kf_7_2 hk_o0) c3) dX8_serve_95 ?_
          refine f_iconst (pc := 98) cx dX8_serve_98 kc_iconst_1 ?_
          refine f_icmp_ne (pc := 99) (tgt := 120) cx dX8_serve_99 (by decide) (fun _ => ?_) (fun _ => ?_)
          · refine f_aload_n (pc := 102) cx dX8_serve_102 rfl rfl ?_
            refine g_X8_31 (pc := 103) cx hk_o0 dX8_serve_103 ?_
            refine f_bind (fun r6 hr6 => ?_)
            refine k_X8_208 (pc := 106) cx (c_X2_hasOld l G _ (o0 + 33) (kf_7_3 hk_o0) r6 hr6) (kf_7_3 hk_o0) ⟨by decide, by decide⟩ ⟨Nat.zero_le _, Nat.zero_le _⟩ (Nat.le_of_ble_eq_true rfl) dX8_serve_106 ?_
            refine f_if_eq (pc := 109) (tgt := 120) cx dX8_serve_109 (by decide) (fun _ => ?_) (fun _ => ?_)
            · refine f_aload_n (pc := 120) cx dX8_serve_120 rfl rfl ?_
              refine f_aload_n (pc := 121) cx dX8_serve_121 rfl rfl ?_
              refine f_bind (fun r7 hr7 => ?_)
              refine k_X8_212 (pc := 122) cx (c_X8_release l G _ o0 (o0 + 16 + 1 + Int32.toNatClampNeg r1.1) hk_o0 (ka_b (kf_7_2 hk_o0) c3) r7 hr7) hk_o0 ⟨by decide, by decide⟩ ⟨Nat.zero_le _, Nat.zero_le _⟩ (Nat.le_of_ble_eq_true rfl) dX8_serve_122 ?_
              refine f_iinc1 (pc := 125) cx dX8_serve_125 kc_iconst_1 (by decide) rfl ?_
              refine f_goto (pc := 128) (tgt := 2) cx dX8_serve_128 (by decide) ?_
              exact f_weak (LSb.s (LSb.s (LSb.n (LSb.n (LSb.n LSb.e))))) (hk2 (r7, q.2 + 1))
            · refine f_aload_n (pc := 112) cx dX8_serve_112 rfl rfl ?_
              refine f_aload_n (pc := 113) cx dX8_serve_113 rfl rfl ?_
              refine f_bind (fun r8 hr8 => ?_)
              refine k_X8_199 (pc := 114) cx (c_X8_putBack l G _ o0 (o0 + 16 + 1 + Int32.toNatClampNeg r1.1) hk_o0 (ka_b (kf_7_2 hk_o0) c3) r8 hr8) hk_o0 ⟨by decide, by decide⟩ ⟨Nat.zero_le _, Nat.zero_le _⟩ (Nat.le_of_ble_eq_true rfl) dX8_serve_114 ?_
              refine f_goto (pc := 117) (tgt := 125) cx dX8_serve_117 (by decide) ?_
              refine f_iinc1 (pc := 125) cx dX8_serve_125 kc_iconst_1 (by decide) rfl ?_
              refine f_goto (pc := 128) (tgt := 2) cx dX8_serve_128 (by decide) ?_
              exact f_weak (LSb.s (LSb.s (LSb.n (LSb.n (LSb.n LSb.e))))) (hk2 (r8, q.2 + 1))
          · refine f_aload_n (pc := 120) cx dX8_serve_120 rfl rfl ?_
            refine f_aload_n (pc := 121) cx dX8_serve_121 rfl rfl ?_
            refine f_bind (fun r9 hr9 => ?_)
            refine k_X8_212 (pc := 122) cx (c_X8_release l G _ o0 (o0 + 16 + 1 + Int32.toNatClampNeg r1.1) hk_o0 (ka_b (kf_7_2 hk_o0) c3) r9 hr9) hk_o0 ⟨by decide, by decide⟩ ⟨Nat.zero_le _, Nat.zero_le _⟩ (Nat.le_of_ble_eq_true rfl) dX8_serve_122 ?_
            refine f_iinc1 (pc := 125) cx dX8_serve_125 kc_iconst_1 (by decide) rfl ?_
            refine f_goto (pc := 128) (tgt := 2) cx dX8_serve_128 (by decide) ?_
            exact f_weak (LSb.s (LSb.s (LSb.n (LSb.n (LSb.n LSb.e))))) (hk2 (r9, q.2 + 1))
        · refine f_aload_n (pc := 84) cx dX8_serve_84 rfl rfl ?_
          refine f_aload_n (pc := 85) cx dX8_serve_85 rfl rfl ?_
          refine f_iload (pc := 86) cx dX8_serve_86 rfl ?_
          refine f_bind (fun r10 hr10 => ?_)
          refine k_X8_205 (pc := 88) cx (c_X8_send l G _ o0 (o0 + 16 + 1 + Int32.toNatClampNeg r1.1) r4.1 hk_o0 (ka_b (kf_7_2 hk_o0) c3) r10 hr10) hk_o0 ⟨by decide, by decide⟩ ⟨Nat.zero_le _, Nat.zero_le _⟩ (Nat.le_of_ble_eq_true rfl) dX8_serve_88 ?_
          refine f_iload (pc := 91) cx dX8_serve_91 rfl ?_
          exact f_iret cx hr hlk rfl dX8_serve_93
      · refine f_aload_n (pc := 42) cx dX8_serve_42 rfl rfl ?_
        refine f_dup (pc := 43) cx dX8_serve_43 rfl ?_
        refine g_X8_196 (pc := 44) cx (ka_b (kf_7_2 hk_o0) c3) dX8_serve_44 ?_
        refine f_aload_n (pc := 47) cx dX8_serve_47 rfl rfl ?_
        refine g_X8_9 (pc := 48) cx hk_o0 dX8_serve_48 ?_
        refine f_iconst (pc := 51) cx dX8_serve_51 kc_iconst_2 ?_
        refine f_ialdk (pc := 52) (j := 2) (n := 8) cx (kf_7_0 hk_o0) (by decide) (by decide) kl_2 dX8_serve_52 ?_
        refine f_iadd (pc := 53) cx dX8_serve_53 ?_
        refine u_X8_196 (pc := 54) cx (ka_b (kf_7_2 hk_o0) c3) dX8_serve_54 ?_
        refine f_nvh (fun h11 => ?_)
        refine f_aload_n (pc := 57) cx dX8_serve_57 rfl rfl ?_
        refine f_aload_n (pc := 58) cx dX8_serve_58 rfl rfl ?_
        refine f_bind (fun r12 hr12 => ?_)
        refine k_X8_199 (pc := 59) cx (c_X8_putBack l G _ o0 (o0 + 16 + 1 + Int32.toNatClampNeg r1.1) hk_o0 (ka_b (kf_7_2 hk_o0) c3) r12 hr12) hk_o0 ⟨by decide, by decide⟩ ⟨Nat.zero_le _, Nat.zero_le _⟩ (Nat.le_of_ble_eq_true rfl) dX8_serve_59 ?_
        refine f_goto (pc := 62) (tgt := 125) cx dX8_serve_62 (by decide) ?_
        refine f_iinc1 (pc := 125) cx dX8_serve_125 kc_iconst_1 (by decide) rfl ?_
        refine f_goto (pc := 128) (tgt := 2) cx dX8_serve_128 (by decide) ?_
        exact f_weak (LSb.s (LSb.s (LSb.n (LSb.n (LSb.n LSb.e))))) (hk2 (r12, q.2 + 1))
set_option maxRecDepth 4000 in
theorem s_X8_serve {p : Program} {l : Launch} {e : Env} {s : State} {m : MethodId} {args : Array Value} {below : List Frame} {meth : Method} {c : Code} {G : GT} (cx : CX p s m args c cX8_serve 5 RX8 G) (hr : meth.sig.returnType = (some .int)) (hlk : meth.locks = false) (h : Hp) (o0 : Nat) (hk_o0 : kd o0 = 7) : PF p l e (rmc 4 96) s m args below meth c 5 G 0 0 (QI below G args s) 0 [some (.ref (gad G o0)), none, none, none, none] [] h (p_X8_serve h o0) := by
  unfold p_X8_serve
  refine f_iconst (pc := 0) cx dX8_serve_0 kc_iconst_0 ?_
  refine f_istore1 (pc := 1) cx dX8_serve_1 (by decide) rfl ?_
  exact f_weak (LSb.s (LSb.s (LSb.n (LSb.n (LSb.n LSb.e))))) (s_X8_serve_2 cx hr hlk o0 hk_o0 FU (h, 0))
set_option maxRecDepth 4000 in
theorem c_X8_serve (l : Launch) (G : GT) (h : Hp) (o0 : Nat) (hk_o0 : kd o0 = 7) : CtI l G yX8_serve cX8_serve 5 (some .int) 4 96 [.ref (gad G o0)] h (p_X8_serve h o0) := fun a ha => Ct.of (lv := [some (.ref (gad G o0)), none, none, none, none]) (by decide) rfl (Nat.le_of_ble_eq_true rfl) rfl (fun p e s m args below meth c cx hr hlk => s_X8_serve cx hr hlk h o0 hk_o0 a ha)
def b_X8_tick_23 (o0 : Nat) (k23 : Hp × Int32 → Option Hp) (q : Hp × Int32) : Option Hp :=
  if (q.1 o0 6) ≤ q.2 then (Option.bind (p_X8_serve q.1 o0) fun r1 => nv (hp r1.2 o0 7 ((r1.2 o0 7) + 1)) fun h2 => some h2) else (Option.bind (p_X8_letSend q.1 o0 q.2) fun r3 => k23 (r3, q.2 + 1))
def b_X8_tick_2 (o0 : Nat) (k2 : Hp × Int32 → Option Hp) (q : Hp × Int32) : Option Hp :=
  if (q.1 o0 6) ≤ q.2 then (lp (b_X8_tick_23 o0) FU (q.1, 0)) else (Option.bind (p_X8_letHear q.1 o0 q.2) fun r4 => k2 (r4, q.2 + 1))
def p_X8_tick (h : Hp) (o0 : Nat) : Option Hp :=
  lp (b_X8_tick_2 o0) FU (h, 0)
set_option maxRecDepth 4000 in
theorem s_X8_tick_23 {p : Program} {l : Launch} {e : Env} {s : State} {m : MethodId} {args : Array Value} {below : List Frame} {meth : Method} {c : Code} {G : GT} (cx : CX p s m args c cX8_tick 2 RX8 G) (hr : meth.sig.returnType = none) (hlk : meth.locks = false) (o0 : Nat) (hk_o0 : kd o0 = 7) : ∀ (n : Nat) (q : Hp × Int32), PF p l e (rmc 5 120) s m args below meth c 2 G 0 0 (QV below G args s) 23 [some (.ref (gad G o0)), some (.int q.2)] [] q.1 (lp (b_X8_tick_23 o0) n q) := by
  refine f_lp (lvf := fun (q : Hp × Int32) => [some (.ref (gad G o0)), some (.int q.2)]) (hf := fun (q : Hp × Int32) => q.1) (fun k23 hk23 q => ?_)
  show PF p l e (rmc 5 120) s m args below meth c 2 G 0 0 (QV below G args s) 23 [some (.ref (gad G o0)), some (.int q.2)] [] q.1 (b_X8_tick_23 o0 k23 q)
  unfold b_X8_tick_23
  refine f_iload_n (pc := 23) cx dX8_tick_23 rfl rfl ?_
  refine f_aload_n (pc := 24) cx dX8_tick_24 rfl rfl ?_
  refine g_X8_48 (pc := 25) cx hk_o0 dX8_tick_25 ?_
  refine f_icmp_ge (pc := 28) (tgt := 42) cx dX8_tick_28 (by decide) (fun _ => ?_) (fun _ => ?_)
  · refine f_aload_n (pc := 42) cx dX8_tick_42 rfl rfl ?_
    refine f_bind (fun r1 hr1 => ?_)
    refine k_X8_290 (pc := 43) cx (c_X8_serve l G _ o0 hk_o0 r1 hr1) hk_o0 ⟨by decide, by decide⟩ ⟨Nat.zero_le _, Nat.zero_le _⟩ (Nat.le_of_ble_eq_true rfl) dX8_tick_43 ?_
    refine f_pop (pc := 46) cx dX8_tick_46 rfl ?_
    refine f_aload_n (pc := 47) cx dX8_tick_47 rfl rfl ?_
    refine f_dup (pc := 48) cx dX8_tick_48 rfl ?_
    refine g_X8_52 (pc := 49) cx hk_o0 dX8_tick_49 ?_
    refine f_iconst (pc := 52) cx dX8_tick_52 kc_iconst_1 ?_
    refine f_iadd (pc := 53) cx dX8_tick_53 ?_
    refine u_X8_52 (pc := 54) cx hk_o0 dX8_tick_54 ?_
    refine f_nvh (fun h2 => ?_)
    exact f_vret cx hr hlk dX8_tick_57
  · refine f_aload_n (pc := 31) cx dX8_tick_31 rfl rfl ?_
    refine f_iload_n (pc := 32) cx dX8_tick_32 rfl rfl ?_
    refine f_bind (fun r3 hr3 => ?_)
    refine k_X8_287 (pc := 33) cx (c_X8_letSend l G _ o0 q.2 hk_o0 r3 hr3) hk_o0 ⟨by decide, by decide⟩ ⟨Nat.zero_le _, Nat.zero_le _⟩ (Nat.le_of_ble_eq_true rfl) dX8_tick_33 ?_
    refine f_iinc1 (pc := 36) cx dX8_tick_36 kc_iconst_1 (by decide) rfl ?_
    refine f_goto (pc := 39) (tgt := 23) cx dX8_tick_39 (by decide) ?_
    exact f_weak (LSb.s (LSb.s LSb.e)) (hk23 (r3, q.2 + 1))
set_option maxRecDepth 4000 in
theorem s_X8_tick_2 {p : Program} {l : Launch} {e : Env} {s : State} {m : MethodId} {args : Array Value} {below : List Frame} {meth : Method} {c : Code} {G : GT} (cx : CX p s m args c cX8_tick 2 RX8 G) (hr : meth.sig.returnType = none) (hlk : meth.locks = false) (o0 : Nat) (hk_o0 : kd o0 = 7) : ∀ (n : Nat) (q : Hp × Int32), PF p l e (rmc 5 120) s m args below meth c 2 G 0 0 (QV below G args s) 2 [some (.ref (gad G o0)), some (.int q.2)] [] q.1 (lp (b_X8_tick_2 o0) n q) := by
  refine f_lp (lvf := fun (q : Hp × Int32) => [some (.ref (gad G o0)), some (.int q.2)]) (hf := fun (q : Hp × Int32) => q.1) (fun k2 hk2 q => ?_)
  show PF p l e (rmc 5 120) s m args below meth c 2 G 0 0 (QV below G args s) 2 [some (.ref (gad G o0)), some (.int q.2)] [] q.1 (b_X8_tick_2 o0 k2 q)
  unfold b_X8_tick_2
  refine f_iload_n (pc := 2) cx dX8_tick_2 rfl rfl ?_
  refine f_aload_n (pc := 3) cx dX8_tick_3 rfl rfl ?_
  refine g_X8_48 (pc := 4) cx hk_o0 dX8_tick_4 ?_
  refine f_icmp_ge (pc := 7) (tgt := 21) cx dX8_tick_7 (by decide) (fun _ => ?_) (fun _ => ?_)
  · refine f_iconst (pc := 21) cx dX8_tick_21 kc_iconst_0 ?_
    refine f_istore1 (pc := 22) cx dX8_tick_22 (by decide) rfl ?_
    exact f_weak (LSb.s (LSb.s LSb.e)) (s_X8_tick_23 cx hr hlk o0 hk_o0 FU (q.1, 0))
  · refine f_aload_n (pc := 10) cx dX8_tick_10 rfl rfl ?_
    refine f_iload_n (pc := 11) cx dX8_tick_11 rfl rfl ?_
    refine f_bind (fun r4 hr4 => ?_)
    refine k_X8_284 (pc := 12) cx (c_X8_letHear l G _ o0 q.2 hk_o0 r4 hr4) hk_o0 ⟨by decide, by decide⟩ ⟨Nat.zero_le _, Nat.zero_le _⟩ (Nat.le_of_ble_eq_true rfl) dX8_tick_12 ?_
    refine f_iinc1 (pc := 15) cx dX8_tick_15 kc_iconst_1 (by decide) rfl ?_
    refine f_goto (pc := 18) (tgt := 2) cx dX8_tick_18 (by decide) ?_
    exact f_weak (LSb.s (LSb.s LSb.e)) (hk2 (r4, q.2 + 1))
set_option maxRecDepth 4000 in
theorem s_X8_tick {p : Program} {l : Launch} {e : Env} {s : State} {m : MethodId} {args : Array Value} {below : List Frame} {meth : Method} {c : Code} {G : GT} (cx : CX p s m args c cX8_tick 2 RX8 G) (hr : meth.sig.returnType = none) (hlk : meth.locks = false) (h : Hp) (o0 : Nat) (hk_o0 : kd o0 = 7) : PF p l e (rmc 5 120) s m args below meth c 2 G 0 0 (QV below G args s) 0 [some (.ref (gad G o0)), none] [] h (p_X8_tick h o0) := by
  unfold p_X8_tick
  refine f_iconst (pc := 0) cx dX8_tick_0 kc_iconst_0 ?_
  refine f_istore1 (pc := 1) cx dX8_tick_1 (by decide) rfl ?_
  exact f_weak (LSb.s (LSb.s LSb.e)) (s_X8_tick_2 cx hr hlk o0 hk_o0 FU (h, 0))
set_option maxRecDepth 4000 in
theorem c_X8_tick (l : Launch) (G : GT) (h : Hp) (o0 : Nat) (hk_o0 : kd o0 = 7) : CtV l G yX8_tick cX8_tick 2 none 5 120 [.ref (gad G o0)] h (p_X8_tick h o0) := fun a ha => Ct.of (lv := [some (.ref (gad G o0)), none]) (by decide) rfl (Nat.le_of_ble_eq_true rfl) rfl (fun p e s m args below meth c cx hr hlk => s_X8_tick cx hr hlk h o0 hk_o0 a ha)
