theorem kc_bipush_50 : (Int8.ofInt (50)).toInt32 = 50 := by decide
theorem kc_iconst_50 : Int32.ofInt (50) = 50 := by decide
theorem kt_5 : Int32.ofNat (tbl 5).length = 4 := by decide
theorem dX6_begin_0 : decode cX6_begin 0 = .ok (.aload_n 0, 1) := by decide +kernel
theorem dX6_begin_1 : decode cX6_begin 1 = .ok (.getfield 12, 3) := by decide +kernel
theorem dX6_begin_4 : decode cX6_begin 4 = .ok (.aload_n 1, 1) := by decide +kernel
theorem dX6_begin_5 : decode cX6_begin 5 = .ok (.invokevirtual 22, 3) := by decide +kernel
theorem dX6_begin_8 : decode cX6_begin 8 = .ok (.aload_n 0, 1) := by decide +kernel
theorem dX6_begin_9 : decode cX6_begin 9 = .ok (.getfield 12, 3) := by decide +kernel
theorem dX6_begin_12 : decode cX6_begin 12 = .ok (.iconst 0, 1) := by decide +kernel
theorem dX6_begin_13 : decode cX6_begin 13 = .ok (.putfield 26, 3) := by decide +kernel
theorem dX6_begin_16 : decode cX6_begin 16 = .ok (.aload_n 0, 1) := by decide +kernel
theorem dX6_begin_17 : decode cX6_begin 17 = .ok (.getfield 12, 3) := by decide +kernel
theorem dX6_begin_20 : decode cX6_begin 20 = .ok (.ldc 29, 2) := by decide +kernel
theorem dX6_begin_22 : decode cX6_begin 22 = .ok (.putfield 30, 3) := by decide +kernel
theorem dX6_begin_25 : decode cX6_begin 25 = .ok (.iconst 0, 1) := by decide +kernel
theorem dX6_begin_26 : decode cX6_begin 26 = .ok (.istore_n 2, 1) := by decide +kernel
theorem dX6_begin_27 : decode cX6_begin 27 = .ok (.iload_n 2, 1) := by decide +kernel
theorem dX6_begin_28 : decode cX6_begin 28 = .ok (.iconst 5, 1) := by decide +kernel
theorem dX6_begin_29 : decode cX6_begin 29 = .ok (.if_icmp .ge 22, 3) := by decide +kernel
theorem dX6_begin_32 : decode cX6_begin 32 = .ok (.aload_n 0, 1) := by decide +kernel
theorem dX6_begin_33 : decode cX6_begin 33 = .ok (.getfield 12, 3) := by decide +kernel
theorem dX6_begin_36 : decode cX6_begin 36 = .ok (.getfield 33, 3) := by decide +kernel
theorem dX6_begin_39 : decode cX6_begin 39 = .ok (.getfield 37, 3) := by decide +kernel
theorem dX6_begin_42 : decode cX6_begin 42 = .ok (.iload_n 2, 1) := by decide +kernel
theorem dX6_begin_43 : decode cX6_begin 43 = .ok (.iconst 0, 1) := by decide +kernel
theorem dX6_begin_44 : decode cX6_begin 44 = .ok (.iastore, 1) := by decide +kernel
theorem dX6_begin_45 : decode cX6_begin 45 = .ok (.iinc 2 1, 3) := by decide +kernel
theorem dX6_begin_48 : decode cX6_begin 48 = .ok (.goto (-21), 3) := by decide +kernel
theorem dX6_begin_51 : decode cX6_begin 51 = .ok (.aload_n 0, 1) := by decide +kernel
theorem dX6_begin_52 : decode cX6_begin 52 = .ok (.aload_n 0, 1) := by decide +kernel
theorem dX6_begin_53 : decode cX6_begin 53 = .ok (.getfield 12, 3) := by decide +kernel
theorem dX6_begin_56 : decode cX6_begin 56 = .ok (.getfield 33, 3) := by decide +kernel
theorem dX6_begin_59 : decode cX6_begin 59 = .ok (.getfield 43, 3) := by decide +kernel
theorem dX6_begin_62 : decode cX6_begin 62 = .ok (.putfield 18, 3) := by decide +kernel
theorem dX6_begin_65 : decode cX6_begin 65 = .ok (.return_, 1) := by decide +kernel
theorem dX6_tallyOf_0 : decode cX6_tallyOf 0 = .ok (.iload_n 1, 1) := by decide +kernel
theorem dX6_tallyOf_1 : decode cX6_tallyOf 1 = .ok (.ifCond .lt 11, 3) := by decide +kernel
theorem dX6_tallyOf_4 : decode cX6_tallyOf 4 = .ok (.iload_n 1, 1) := by decide +kernel
theorem dX6_tallyOf_5 : decode cX6_tallyOf 5 = .ok (.getstatic 63, 3) := by decide +kernel
theorem dX6_tallyOf_8 : decode cX6_tallyOf 8 = .ok (.arraylength, 1) := by decide +kernel
theorem dX6_tallyOf_9 : decode cX6_tallyOf 9 = .ok (.if_icmp .lt 7, 3) := by decide +kernel
theorem dX6_tallyOf_12 : decode cX6_tallyOf 12 = .ok (.iconst (-1), 1) := by decide +kernel
theorem dX6_tallyOf_13 : decode cX6_tallyOf 13 = .ok (.goto 8, 3) := by decide +kernel
theorem dX6_tallyOf_16 : decode cX6_tallyOf 16 = .ok (.getstatic 63, 3) := by decide +kernel
theorem dX6_tallyOf_19 : decode cX6_tallyOf 19 = .ok (.iload_n 1, 1) := by decide +kernel
theorem dX6_tallyOf_20 : decode cX6_tallyOf 20 = .ok (.iaload, 1) := by decide +kernel
theorem dX6_tallyOf_21 : decode cX6_tallyOf 21 = .ok (.istore_n 2, 1) := by decide +kernel
theorem dX6_tallyOf_22 : decode cX6_tallyOf 22 = .ok (.iload_n 2, 1) := by decide +kernel
theorem dX6_tallyOf_23 : decode cX6_tallyOf 23 = .ok (.ifCond .lt 8, 3) := by decide +kernel
theorem dX6_tallyOf_26 : decode cX6_tallyOf 26 = .ok (.iload_n 2, 1) := by decide +kernel
theorem dX6_tallyOf_27 : decode cX6_tallyOf 27 = .ok (.iconst 5, 1) := by decide +kernel
theorem dX6_tallyOf_28 : decode cX6_tallyOf 28 = .ok (.if_icmp .lt 7, 3) := by decide +kernel
theorem dX6_tallyOf_31 : decode cX6_tallyOf 31 = .ok (.iconst (-1), 1) := by decide +kernel
theorem dX6_tallyOf_32 : decode cX6_tallyOf 32 = .ok (.goto 15, 3) := by decide +kernel
theorem dX6_tallyOf_35 : decode cX6_tallyOf 35 = .ok (.aload_n 0, 1) := by decide +kernel
theorem dX6_tallyOf_36 : decode cX6_tallyOf 36 = .ok (.getfield 12, 3) := by decide +kernel
theorem dX6_tallyOf_39 : decode cX6_tallyOf 39 = .ok (.getfield 33, 3) := by decide +kernel
theorem dX6_tallyOf_42 : decode cX6_tallyOf 42 = .ok (.getfield 37, 3) := by decide +kernel
theorem dX6_tallyOf_45 : decode cX6_tallyOf 45 = .ok (.iload_n 2, 1) := by decide +kernel
theorem dX6_tallyOf_46 : decode cX6_tallyOf 46 = .ok (.iaload, 1) := by decide +kernel
theorem dX6_tallyOf_47 : decode cX6_tallyOf 47 = .ok (.ireturn, 1) := by decide +kernel
theorem dX6_drainCopy_0 : decode cX6_drainCopy 0 = .ok (.iconst 0, 1) := by decide +kernel
theorem dX6_drainCopy_1 : decode cX6_drainCopy 1 = .ok (.istore_n 2, 1) := by decide +kernel
theorem dX6_drainCopy_2 : decode cX6_drainCopy 2 = .ok (.iload_n 2, 1) := by decide +kernel
theorem dX6_drainCopy_3 : decode cX6_drainCopy 3 = .ok (.sipush 200, 3) := by decide +kernel
theorem dX6_drainCopy_6 : decode cX6_drainCopy 6 = .ok (.if_icmp .ge 40, 3) := by decide +kernel
theorem dX6_drainCopy_9 : decode cX6_drainCopy 9 = .ok (.aload_n 0, 1) := by decide +kernel
theorem dX6_drainCopy_10 : decode cX6_drainCopy 10 = .ok (.getfield 12, 3) := by decide +kernel
theorem dX6_drainCopy_13 : decode cX6_drainCopy 13 = .ok (.getfield 87, 3) := by decide +kernel
theorem dX6_drainCopy_16 : decode cX6_drainCopy 16 = .ok (.ifCond .le 30, 3) := by decide +kernel
theorem dX6_drainCopy_19 : decode cX6_drainCopy 19 = .ok (.aload_n 0, 1) := by decide +kernel
theorem dX6_drainCopy_20 : decode cX6_drainCopy 20 = .ok (.getfield 12, 3) := by decide +kernel
theorem dX6_drainCopy_23 : decode cX6_drainCopy 23 = .ok (.invokevirtual 90, 3) := by decide +kernel
theorem dX6_drainCopy_26 : decode cX6_drainCopy 26 = .ok (.pop, 1) := by decide +kernel
theorem dX6_drainCopy_27 : decode cX6_drainCopy 27 = .ok (.aload_n 0, 1) := by decide +kernel
theorem dX6_drainCopy_28 : decode cX6_drainCopy 28 = .ok (.getfield 12, 3) := by decide +kernel
theorem dX6_drainCopy_31 : decode cX6_drainCopy 31 = .ok (.dup, 1) := by decide +kernel
theorem dX6_drainCopy_32 : decode cX6_drainCopy 32 = .ok (.getfield 52, 3) := by decide +kernel
theorem dX6_drainCopy_35 : decode cX6_drainCopy 35 = .ok (.iload_n 1, 1) := by decide +kernel
theorem dX6_drainCopy_36 : decode cX6_drainCopy 36 = .ok (.iadd, 1) := by decide +kernel
theorem dX6_drainCopy_37 : decode cX6_drainCopy 37 = .ok (.putfield 52, 3) := by decide +kernel
theorem dX6_drainCopy_40 : decode cX6_drainCopy 40 = .ok (.iinc 2 1, 3) := by decide +kernel
theorem dX6_drainCopy_43 : decode cX6_drainCopy 43 = .ok (.goto (-41), 3) := by decide +kernel
theorem dX6_drainCopy_46 : decode cX6_drainCopy 46 = .ok (.return_, 1) := by decide +kernel
theorem dX6_afterTicks_0 : decode cX6_afterTicks 0 = .ok (.aload_n 0, 1) := by decide +kernel
theorem dX6_afterTicks_1 : decode cX6_afterTicks 1 = .ok (.aload_n 1, 1) := by decide +kernel
theorem dX6_afterTicks_2 : decode cX6_afterTicks 2 = .ok (.invokevirtual 46, 3) := by decide +kernel
theorem dX6_afterTicks_5 : decode cX6_afterTicks 5 = .ok (.iconst 0, 1) := by decide +kernel
theorem dX6_afterTicks_6 : decode cX6_afterTicks 6 = .ok (.istore 4, 2) := by decide +kernel
theorem dX6_afterTicks_8 : decode cX6_afterTicks 8 = .ok (.iload 4, 2) := by decide +kernel
theorem dX6_afterTicks_10 : decode cX6_afterTicks 10 = .ok (.iload_n 2, 1) := by decide +kernel
theorem dX6_afterTicks_11 : decode cX6_afterTicks 11 = .ok (.if_icmp .ge 16, 3) := by decide +kernel
theorem dX6_afterTicks_14 : decode cX6_afterTicks 14 = .ok (.aload_n 0, 1) := by decide +kernel
theorem dX6_afterTicks_15 : decode cX6_afterTicks 15 = .ok (.getfield 12, 3) := by decide +kernel
theorem dX6_afterTicks_18 : decode cX6_afterTicks 18 = .ok (.invokevirtual 49, 3) := by decide +kernel
theorem dX6_afterTicks_21 : decode cX6_afterTicks 21 = .ok (.iinc 4 1, 3) := by decide +kernel
theorem dX6_afterTicks_24 : decode cX6_afterTicks 24 = .ok (.goto (-16), 3) := by decide +kernel
theorem dX6_afterTicks_27 : decode cX6_afterTicks 27 = .ok (.iload_n 3, 1) := by decide +kernel
theorem dX6_afterTicks_28 : decode cX6_afterTicks 28 = .ok (.iconst 4, 1) := by decide +kernel
theorem dX6_afterTicks_29 : decode cX6_afterTicks 29 = .ok (.if_icmp .ne 11, 3) := by decide +kernel
theorem dX6_afterTicks_32 : decode cX6_afterTicks 32 = .ok (.aload_n 0, 1) := by decide +kernel
theorem dX6_afterTicks_33 : decode cX6_afterTicks 33 = .ok (.getfield 12, 3) := by decide +kernel
theorem dX6_afterTicks_36 : decode cX6_afterTicks 36 = .ok (.getfield 52, 3) := by decide +kernel
theorem dX6_afterTicks_39 : decode cX6_afterTicks 39 = .ok (.ireturn, 1) := by decide +kernel
theorem dX6_afterTicks_40 : decode cX6_afterTicks 40 = .ok (.iload_n 3, 1) := by decide +kernel
theorem dX6_afterTicks_41 : decode cX6_afterTicks 41 = .ok (.iconst 5, 1) := by decide +kernel
theorem dX6_afterTicks_42 : decode cX6_afterTicks 42 = .ok (.if_icmp .ne 13, 3) := by decide +kernel
theorem dX6_afterTicks_45 : decode cX6_afterTicks 45 = .ok (.aload_n 0, 1) := by decide +kernel
theorem dX6_afterTicks_46 : decode cX6_afterTicks 46 = .ok (.getfield 12, 3) := by decide +kernel
theorem dX6_afterTicks_49 : decode cX6_afterTicks 49 = .ok (.invokevirtual 55, 3) := by decide +kernel
theorem dX6_afterTicks_52 : decode cX6_afterTicks 52 = .ok (.goto 8, 3) := by decide +kernel
theorem dX6_afterTicks_55 : decode cX6_afterTicks 55 = .ok (.aload_n 0, 1) := by decide +kernel
theorem dX6_afterTicks_56 : decode cX6_afterTicks 56 = .ok (.iload_n 3, 1) := by decide +kernel
theorem dX6_afterTicks_57 : decode cX6_afterTicks 57 = .ok (.invokevirtual 59, 3) := by decide +kernel
theorem dX6_afterTicks_60 : decode cX6_afterTicks 60 = .ok (.ireturn, 1) := by decide +kernel
theorem dX6_tickOfFirstCut_0 : decode cX6_tickOfFirstCut 0 = .ok (.aload_n 0, 1) := by decide +kernel
theorem dX6_tickOfFirstCut_1 : decode cX6_tickOfFirstCut 1 = .ok (.aload_n 1, 1) := by decide +kernel
theorem dX6_tickOfFirstCut_2 : decode cX6_tickOfFirstCut 2 = .ok (.invokevirtual 46, 3) := by decide +kernel
theorem dX6_tickOfFirstCut_5 : decode cX6_tickOfFirstCut 5 = .ok (.aload_n 0, 1) := by decide +kernel
theorem dX6_tickOfFirstCut_6 : decode cX6_tickOfFirstCut 6 = .ok (.getfield 12, 3) := by decide +kernel
theorem dX6_tickOfFirstCut_9 : decode cX6_tickOfFirstCut 9 = .ok (.invokevirtual 66, 3) := by decide +kernel
theorem dX6_tickOfFirstCut_12 : decode cX6_tickOfFirstCut 12 = .ok (.istore_n 3, 1) := by decide +kernel
theorem dX6_tickOfFirstCut_13 : decode cX6_tickOfFirstCut 13 = .ok (.iconst 1, 1) := by decide +kernel
theorem dX6_tickOfFirstCut_14 : decode cX6_tickOfFirstCut 14 = .ok (.istore 4, 2) := by decide +kernel
theorem dX6_tickOfFirstCut_16 : decode cX6_tickOfFirstCut 16 = .ok (.iload 4, 2) := by decide +kernel
theorem dX6_tickOfFirstCut_18 : decode cX6_tickOfFirstCut 18 = .ok (.iload_n 2, 1) := by decide +kernel
theorem dX6_tickOfFirstCut_19 : decode cX6_tickOfFirstCut 19 = .ok (.if_icmp .gt 30, 3) := by decide +kernel
theorem dX6_tickOfFirstCut_22 : decode cX6_tickOfFirstCut 22 = .ok (.aload_n 0, 1) := by decide +kernel
theorem dX6_tickOfFirstCut_23 : decode cX6_tickOfFirstCut 23 = .ok (.getfield 12, 3) := by decide +kernel
theorem dX6_tickOfFirstCut_26 : decode cX6_tickOfFirstCut 26 = .ok (.invokevirtual 49, 3) := by decide +kernel
theorem dX6_tickOfFirstCut_29 : decode cX6_tickOfFirstCut 29 = .ok (.aload_n 0, 1) := by decide +kernel
theorem dX6_tickOfFirstCut_30 : decode cX6_tickOfFirstCut 30 = .ok (.getfield 12, 3) := by decide +kernel
theorem dX6_tickOfFirstCut_33 : decode cX6_tickOfFirstCut 33 = .ok (.invokevirtual 66, 3) := by decide +kernel
theorem dX6_tickOfFirstCut_36 : decode cX6_tickOfFirstCut 36 = .ok (.iload_n 3, 1) := by decide +kernel
theorem dX6_tickOfFirstCut_37 : decode cX6_tickOfFirstCut 37 = .ok (.if_icmp .le 6, 3) := by decide +kernel
theorem dX6_tickOfFirstCut_40 : decode cX6_tickOfFirstCut 40 = .ok (.iload 4, 2) := by decide +kernel
theorem dX6_tickOfFirstCut_42 : decode cX6_tickOfFirstCut 42 = .ok (.ireturn, 1) := by decide +kernel
theorem dX6_tickOfFirstCut_43 : decode cX6_tickOfFirstCut 43 = .ok (.iinc 4 1, 3) := by decide +kernel
theorem dX6_tickOfFirstCut_46 : decode cX6_tickOfFirstCut 46 = .ok (.goto (-30), 3) := by decide +kernel
theorem dX6_tickOfFirstCut_49 : decode cX6_tickOfFirstCut 49 = .ok (.bipush (-2), 2) := by decide +kernel
theorem dX6_tickOfFirstCut_51 : decode cX6_tickOfFirstCut 51 = .ok (.ireturn, 1) := by decide +kernel
theorem dX6_limitWithoutPushes_0 : decode cX6_limitWithoutPushes 0 = .ok (.aload_n 0, 1) := by decide +kernel
theorem dX6_limitWithoutPushes_1 : decode cX6_limitWithoutPushes 1 = .ok (.aload_n 1, 1) := by decide +kernel
theorem dX6_limitWithoutPushes_2 : decode cX6_limitWithoutPushes 2 = .ok (.invokevirtual 46, 3) := by decide +kernel
theorem dX6_limitWithoutPushes_5 : decode cX6_limitWithoutPushes 5 = .ok (.aload_n 0, 1) := by decide +kernel
theorem dX6_limitWithoutPushes_6 : decode cX6_limitWithoutPushes 6 = .ok (.getfield 12, 3) := by decide +kernel
theorem dX6_limitWithoutPushes_9 : decode cX6_limitWithoutPushes 9 = .ok (.getfield 69, 3) := by decide +kernel
theorem dX6_limitWithoutPushes_12 : decode cX6_limitWithoutPushes 12 = .ok (.iconst 5, 1) := by decide +kernel
theorem dX6_limitWithoutPushes_13 : decode cX6_limitWithoutPushes 13 = .ok (.sipush 200, 3) := by decide +kernel
theorem dX6_limitWithoutPushes_16 : decode cX6_limitWithoutPushes 16 = .ok (.iastore, 1) := by decide +kernel
theorem dX6_limitWithoutPushes_17 : decode cX6_limitWithoutPushes 17 = .ok (.iconst 0, 1) := by decide +kernel
theorem dX6_limitWithoutPushes_18 : decode cX6_limitWithoutPushes 18 = .ok (.istore_n 3, 1) := by decide +kernel
theorem dX6_limitWithoutPushes_19 : decode cX6_limitWithoutPushes 19 = .ok (.iload_n 3, 1) := by decide +kernel
theorem dX6_limitWithoutPushes_20 : decode cX6_limitWithoutPushes 20 = .ok (.iload_n 2, 1) := by decide +kernel
theorem dX6_limitWithoutPushes_21 : decode cX6_limitWithoutPushes 21 = .ok (.if_icmp .ge 16, 3) := by decide +kernel
theorem dX6_limitWithoutPushes_24 : decode cX6_limitWithoutPushes 24 = .ok (.aload_n 0, 1) := by decide +kernel
theorem dX6_limitWithoutPushes_25 : decode cX6_limitWithoutPushes 25 = .ok (.getfield 12, 3) := by decide +kernel
theorem dX6_limitWithoutPushes_28 : decode cX6_limitWithoutPushes 28 = .ok (.invokevirtual 49, 3) := by decide +kernel
theorem dX6_limitWithoutPushes_31 : decode cX6_limitWithoutPushes 31 = .ok (.iinc 3 1, 3) := by decide +kernel
theorem dX6_limitWithoutPushes_34 : decode cX6_limitWithoutPushes 34 = .ok (.goto (-15), 3) := by decide +kernel
theorem dX6_limitWithoutPushes_37 : decode cX6_limitWithoutPushes 37 = .ok (.aload_n 0, 1) := by decide +kernel
theorem dX6_limitWithoutPushes_38 : decode cX6_limitWithoutPushes 38 = .ok (.getfield 12, 3) := by decide +kernel
theorem dX6_limitWithoutPushes_41 : decode cX6_limitWithoutPushes 41 = .ok (.getfield 26, 3) := by decide +kernel
theorem dX6_limitWithoutPushes_44 : decode cX6_limitWithoutPushes 44 = .ok (.getstatic 72, 3) := by decide +kernel
theorem dX6_limitWithoutPushes_47 : decode cX6_limitWithoutPushes 47 = .ok (.iconst 5, 1) := by decide +kernel
theorem dX6_limitWithoutPushes_48 : decode cX6_limitWithoutPushes 48 = .ok (.iaload, 1) := by decide +kernel
theorem dX6_limitWithoutPushes_49 : decode cX6_limitWithoutPushes 49 = .ok (.invokestatic 75, 3) := by decide +kernel
theorem dX6_limitWithoutPushes_52 : decode cX6_limitWithoutPushes 52 = .ok (.istore_n 3, 1) := by decide +kernel
theorem dX6_limitWithoutPushes_53 : decode cX6_limitWithoutPushes 53 = .ok (.iload_n 3, 1) := by decide +kernel
theorem dX6_limitWithoutPushes_54 : decode cX6_limitWithoutPushes 54 = .ok (.getstatic 81, 3) := by decide +kernel
theorem dX6_limitWithoutPushes_57 : decode cX6_limitWithoutPushes 57 = .ok (.iconst 5, 1) := by decide +kernel
theorem dX6_limitWithoutPushes_58 : decode cX6_limitWithoutPushes 58 = .ok (.iaload, 1) := by decide +kernel
theorem dX6_limitWithoutPushes_59 : decode cX6_limitWithoutPushes 59 = .ok (.if_icmp .gt 7, 3) := by decide +kernel
theorem dX6_limitWithoutPushes_62 : decode cX6_limitWithoutPushes 62 = .ok (.iload_n 3, 1) := by decide +kernel
theorem dX6_limitWithoutPushes_63 : decode cX6_limitWithoutPushes 63 = .ok (.goto 5, 3) := by decide +kernel
theorem dX6_limitWithoutPushes_66 : decode cX6_limitWithoutPushes 66 = .ok (.bipush (-2), 2) := by decide +kernel
theorem dX6_limitWithoutPushes_68 : decode cX6_limitWithoutPushes 68 = .ok (.ireturn, 1) := by decide +kernel
theorem dX6_targetOfMostBytes_0 : decode cX6_targetOfMostBytes 0 = .ok (.getstatic 72, 3) := by decide +kernel
theorem dX6_targetOfMostBytes_3 : decode cX6_targetOfMostBytes 3 = .ok (.iconst 0, 1) := by decide +kernel
theorem dX6_targetOfMostBytes_4 : decode cX6_targetOfMostBytes 4 = .ok (.iaload, 1) := by decide +kernel
theorem dX6_targetOfMostBytes_5 : decode cX6_targetOfMostBytes 5 = .ok (.istore_n 3, 1) := by decide +kernel
theorem dX6_targetOfMostBytes_6 : decode cX6_targetOfMostBytes 6 = .ok (.iconst (-1), 1) := by decide +kernel
theorem dX6_targetOfMostBytes_7 : decode cX6_targetOfMostBytes 7 = .ok (.istore 4, 2) := by decide +kernel
theorem dX6_targetOfMostBytes_9 : decode cX6_targetOfMostBytes 9 = .ok (.iload_n 3, 1) := by decide +kernel
theorem dX6_targetOfMostBytes_10 : decode cX6_targetOfMostBytes 10 = .ok (.istore 5, 2) := by decide +kernel
theorem dX6_targetOfMostBytes_12 : decode cX6_targetOfMostBytes 12 = .ok (.iconst 0, 1) := by decide +kernel
theorem dX6_targetOfMostBytes_13 : decode cX6_targetOfMostBytes 13 = .ok (.istore 6, 2) := by decide +kernel
theorem dX6_targetOfMostBytes_15 : decode cX6_targetOfMostBytes 15 = .ok (.iload 6, 2) := by decide +kernel
theorem dX6_targetOfMostBytes_17 : decode cX6_targetOfMostBytes 17 = .ok (.getstatic 81, 3) := by decide +kernel
theorem dX6_targetOfMostBytes_20 : decode cX6_targetOfMostBytes 20 = .ok (.iconst 0, 1) := by decide +kernel
theorem dX6_targetOfMostBytes_21 : decode cX6_targetOfMostBytes 21 = .ok (.iaload, 1) := by decide +kernel
theorem dX6_targetOfMostBytes_22 : decode cX6_targetOfMostBytes 22 = .ok (.if_icmp .ge 98, 3) := by decide +kernel
theorem dX6_targetOfMostBytes_25 : decode cX6_targetOfMostBytes 25 = .ok (.iload 5, 2) := by decide +kernel
theorem dX6_targetOfMostBytes_27 : decode cX6_targetOfMostBytes 27 = .ok (.getstatic 81, 3) := by decide +kernel
theorem dX6_targetOfMostBytes_30 : decode cX6_targetOfMostBytes 30 = .ok (.iconst 0, 1) := by decide +kernel
theorem dX6_targetOfMostBytes_31 : decode cX6_targetOfMostBytes 31 = .ok (.iaload, 1) := by decide +kernel
theorem dX6_targetOfMostBytes_32 : decode cX6_targetOfMostBytes 32 = .ok (.if_icmp .gt 88, 3) := by decide +kernel
theorem dX6_targetOfMostBytes_35 : decode cX6_targetOfMostBytes 35 = .ok (.aload_n 0, 1) := by decide +kernel
theorem dX6_targetOfMostBytes_36 : decode cX6_targetOfMostBytes 36 = .ok (.aload_n 1, 1) := by decide +kernel
theorem dX6_targetOfMostBytes_37 : decode cX6_targetOfMostBytes 37 = .ok (.invokevirtual 46, 3) := by decide +kernel
theorem dX6_targetOfMostBytes_40 : decode cX6_targetOfMostBytes 40 = .ok (.aload_n 0, 1) := by decide +kernel
theorem dX6_targetOfMostBytes_41 : decode cX6_targetOfMostBytes 41 = .ok (.getfield 12, 3) := by decide +kernel
theorem dX6_targetOfMostBytes_44 : decode cX6_targetOfMostBytes 44 = .ok (.getfield 69, 3) := by decide +kernel
theorem dX6_targetOfMostBytes_47 : decode cX6_targetOfMostBytes 47 = .ok (.iconst 0, 1) := by decide +kernel
theorem dX6_targetOfMostBytes_48 : decode cX6_targetOfMostBytes 48 = .ok (.iload 5, 2) := by decide +kernel
theorem dX6_targetOfMostBytes_50 : decode cX6_targetOfMostBytes 50 = .ok (.iastore, 1) := by decide +kernel
theorem dX6_targetOfMostBytes_51 : decode cX6_targetOfMostBytes 51 = .ok (.iconst 0, 1) := by decide +kernel
theorem dX6_targetOfMostBytes_52 : decode cX6_targetOfMostBytes 52 = .ok (.istore 7, 2) := by decide +kernel
theorem dX6_targetOfMostBytes_54 : decode cX6_targetOfMostBytes 54 = .ok (.iload 7, 2) := by decide +kernel
theorem dX6_targetOfMostBytes_56 : decode cX6_targetOfMostBytes 56 = .ok (.iload_n 2, 1) := by decide +kernel
theorem dX6_targetOfMostBytes_57 : decode cX6_targetOfMostBytes 57 = .ok (.if_icmp .ge 16, 3) := by decide +kernel
theorem dX6_targetOfMostBytes_60 : decode cX6_targetOfMostBytes 60 = .ok (.aload_n 0, 1) := by decide +kernel
theorem dX6_targetOfMostBytes_61 : decode cX6_targetOfMostBytes 61 = .ok (.getfield 12, 3) := by decide +kernel
theorem dX6_targetOfMostBytes_64 : decode cX6_targetOfMostBytes 64 = .ok (.invokevirtual 49, 3) := by decide +kernel
theorem dX6_targetOfMostBytes_67 : decode cX6_targetOfMostBytes 67 = .ok (.iinc 7 1, 3) := by decide +kernel
theorem dX6_targetOfMostBytes_70 : decode cX6_targetOfMostBytes 70 = .ok (.goto (-16), 3) := by decide +kernel
theorem dX6_targetOfMostBytes_73 : decode cX6_targetOfMostBytes 73 = .ok (.aload_n 0, 1) := by decide +kernel
theorem dX6_targetOfMostBytes_74 : decode cX6_targetOfMostBytes 74 = .ok (.getfield 12, 3) := by decide +kernel
theorem dX6_targetOfMostBytes_77 : decode cX6_targetOfMostBytes 77 = .ok (.getfield 33, 3) := by decide +kernel
theorem dX6_targetOfMostBytes_80 : decode cX6_targetOfMostBytes 80 = .ok (.aload_n 0, 1) := by decide +kernel
theorem dX6_targetOfMostBytes_81 : decode cX6_targetOfMostBytes 81 = .ok (.getfield 18, 3) := by decide +kernel
theorem dX6_targetOfMostBytes_84 : decode cX6_targetOfMostBytes 84 = .ok (.invokevirtual 84, 3) := by decide +kernel
theorem dX6_targetOfMostBytes_87 : decode cX6_targetOfMostBytes 87 = .ok (.istore 7, 2) := by decide +kernel
theorem dX6_targetOfMostBytes_89 : decode cX6_targetOfMostBytes 89 = .ok (.iload 7, 2) := by decide +kernel
theorem dX6_targetOfMostBytes_91 : decode cX6_targetOfMostBytes 91 = .ok (.iload 4, 2) := by decide +kernel
theorem dX6_targetOfMostBytes_93 : decode cX6_targetOfMostBytes 93 = .ok (.if_icmp .le 10, 3) := by decide +kernel
theorem dX6_targetOfMostBytes_96 : decode cX6_targetOfMostBytes 96 = .ok (.iload 7, 2) := by decide +kernel
theorem dX6_targetOfMostBytes_98 : decode cX6_targetOfMostBytes 98 = .ok (.istore 4, 2) := by decide +kernel
theorem dX6_targetOfMostBytes_100 : decode cX6_targetOfMostBytes 100 = .ok (.iload 5, 2) := by decide +kernel
theorem dX6_targetOfMostBytes_102 : decode cX6_targetOfMostBytes 102 = .ok (.istore_n 3, 1) := by decide +kernel
theorem dX6_targetOfMostBytes_103 : decode cX6_targetOfMostBytes 103 = .ok (.aload_n 0, 1) := by decide +kernel
theorem dX6_targetOfMostBytes_104 : decode cX6_targetOfMostBytes 104 = .ok (.getfield 12, 3) := by decide +kernel
theorem dX6_targetOfMostBytes_107 : decode cX6_targetOfMostBytes 107 = .ok (.getfield 30, 3) := by decide +kernel
theorem dX6_targetOfMostBytes_110 : decode cX6_targetOfMostBytes 110 = .ok (.iconst 1, 1) := by decide +kernel
theorem dX6_targetOfMostBytes_111 : decode cX6_targetOfMostBytes 111 = .ok (.iadd, 1) := by decide +kernel
theorem dX6_targetOfMostBytes_112 : decode cX6_targetOfMostBytes 112 = .ok (.istore 5, 2) := by decide +kernel
theorem dX6_targetOfMostBytes_114 : decode cX6_targetOfMostBytes 114 = .ok (.iinc 6 1, 3) := by decide +kernel
theorem dX6_targetOfMostBytes_117 : decode cX6_targetOfMostBytes 117 = .ok (.goto (-102), 3) := by decide +kernel
theorem dX6_targetOfMostBytes_120 : decode cX6_targetOfMostBytes 120 = .ok (.iload_n 3, 1) := by decide +kernel
theorem dX6_targetOfMostBytes_121 : decode cX6_targetOfMostBytes 121 = .ok (.ireturn, 1) := by decide +kernel
theorem dX6_sentInTurn_0 : decode cX6_sentInTurn 0 = .ok (.aload_n 0, 1) := by decide +kernel
theorem dX6_sentInTurn_1 : decode cX6_sentInTurn 1 = .ok (.aload_n 1, 1) := by decide +kernel
theorem dX6_sentInTurn_2 : decode cX6_sentInTurn 2 = .ok (.invokevirtual 46, 3) := by decide +kernel
theorem dX6_sentInTurn_5 : decode cX6_sentInTurn 5 = .ok (.iconst 0, 1) := by decide +kernel
theorem dX6_sentInTurn_6 : decode cX6_sentInTurn 6 = .ok (.istore_n 3, 1) := by decide +kernel
theorem dX6_sentInTurn_7 : decode cX6_sentInTurn 7 = .ok (.iload_n 3, 1) := by decide +kernel
theorem dX6_sentInTurn_8 : decode cX6_sentInTurn 8 = .ok (.sipush 200, 3) := by decide +kernel
theorem dX6_sentInTurn_11 : decode cX6_sentInTurn 11 = .ok (.if_icmp .ge 41, 3) := by decide +kernel
theorem dX6_sentInTurn_14 : decode cX6_sentInTurn 14 = .ok (.aload_n 0, 1) := by decide +kernel
theorem dX6_sentInTurn_15 : decode cX6_sentInTurn 15 = .ok (.getfield 12, 3) := by decide +kernel
theorem dX6_sentInTurn_18 : decode cX6_sentInTurn 18 = .ok (.getfield 87, 3) := by decide +kernel
theorem dX6_sentInTurn_21 : decode cX6_sentInTurn 21 = .ok (.ifCond .le 31, 3) := by decide +kernel
theorem dX6_sentInTurn_24 : decode cX6_sentInTurn 24 = .ok (.aload_n 0, 1) := by decide +kernel
theorem dX6_sentInTurn_25 : decode cX6_sentInTurn 25 = .ok (.getfield 12, 3) := by decide +kernel
theorem dX6_sentInTurn_28 : decode cX6_sentInTurn 28 = .ok (.invokevirtual 90, 3) := by decide +kernel
theorem dX6_sentInTurn_31 : decode cX6_sentInTurn 31 = .ok (.istore 4, 2) := by decide +kernel
theorem dX6_sentInTurn_33 : decode cX6_sentInTurn 33 = .ok (.iload 4, 2) := by decide +kernel
theorem dX6_sentInTurn_35 : decode cX6_sentInTurn 35 = .ok (.ifCond .lt 11, 3) := by decide +kernel
theorem dX6_sentInTurn_38 : decode cX6_sentInTurn 38 = .ok (.iload_n 3, 1) := by decide +kernel
theorem dX6_sentInTurn_39 : decode cX6_sentInTurn 39 = .ok (.iload_n 2, 1) := by decide +kernel
theorem dX6_sentInTurn_40 : decode cX6_sentInTurn 40 = .ok (.if_icmp .ne 6, 3) := by decide +kernel
theorem dX6_sentInTurn_43 : decode cX6_sentInTurn 43 = .ok (.iload 4, 2) := by decide +kernel
theorem dX6_sentInTurn_45 : decode cX6_sentInTurn 45 = .ok (.ireturn, 1) := by decide +kernel
theorem dX6_sentInTurn_46 : decode cX6_sentInTurn 46 = .ok (.iinc 3 1, 3) := by decide +kernel
theorem dX6_sentInTurn_49 : decode cX6_sentInTurn 49 = .ok (.goto (-42), 3) := by decide +kernel
theorem dX6_sentInTurn_52 : decode cX6_sentInTurn 52 = .ok (.bipush (-2), 2) := by decide +kernel
theorem dX6_sentInTurn_54 : decode cX6_sentInTurn 54 = .ok (.ireturn, 1) := by decide +kernel
theorem dX6_afterDrain_0 : decode cX6_afterDrain 0 = .ok (.aload_n 0, 1) := by decide +kernel
theorem dX6_afterDrain_1 : decode cX6_afterDrain 1 = .ok (.aload_n 1, 1) := by decide +kernel
theorem dX6_afterDrain_2 : decode cX6_afterDrain 2 = .ok (.invokevirtual 46, 3) := by decide +kernel
theorem dX6_afterDrain_5 : decode cX6_afterDrain 5 = .ok (.aload_n 0, 1) := by decide +kernel
theorem dX6_afterDrain_6 : decode cX6_afterDrain 6 = .ok (.iload_n 2, 1) := by decide +kernel
theorem dX6_afterDrain_7 : decode cX6_afterDrain 7 = .ok (.invokevirtual 93, 3) := by decide +kernel
theorem dX6_afterDrain_10 : decode cX6_afterDrain 10 = .ok (.iload_n 3, 1) := by decide +kernel
theorem dX6_afterDrain_11 : decode cX6_afterDrain 11 = .ok (.iconst 3, 1) := by decide +kernel
theorem dX6_afterDrain_12 : decode cX6_afterDrain 12 = .ok (.if_icmp .ne 11, 3) := by decide +kernel
theorem dX6_afterDrain_15 : decode cX6_afterDrain 15 = .ok (.aload_n 0, 1) := by decide +kernel
theorem dX6_afterDrain_16 : decode cX6_afterDrain 16 = .ok (.getfield 12, 3) := by decide +kernel
theorem dX6_afterDrain_19 : decode cX6_afterDrain 19 = .ok (.getfield 52, 3) := by decide +kernel
theorem dX6_afterDrain_22 : decode cX6_afterDrain 22 = .ok (.ireturn, 1) := by decide +kernel
theorem dX6_afterDrain_23 : decode cX6_afterDrain 23 = .ok (.iload_n 3, 1) := by decide +kernel
theorem dX6_afterDrain_24 : decode cX6_afterDrain 24 = .ok (.iconst 4, 1) := by decide +kernel
theorem dX6_afterDrain_25 : decode cX6_afterDrain 25 = .ok (.if_icmp .ne 20, 3) := by decide +kernel
theorem dX6_afterDrain_28 : decode cX6_afterDrain 28 = .ok (.aload_n 0, 1) := by decide +kernel
theorem dX6_afterDrain_29 : decode cX6_afterDrain 29 = .ok (.getfield 12, 3) := by decide +kernel
theorem dX6_afterDrain_32 : decode cX6_afterDrain 32 = .ok (.getfield 33, 3) := by decide +kernel
theorem dX6_afterDrain_35 : decode cX6_afterDrain 35 = .ok (.aload_n 0, 1) := by decide +kernel
theorem dX6_afterDrain_36 : decode cX6_afterDrain 36 = .ok (.getfield 18, 3) := by decide +kernel
theorem dX6_afterDrain_39 : decode cX6_afterDrain 39 = .ok (.invokevirtual 97, 3) := by decide +kernel
theorem dX6_afterDrain_42 : decode cX6_afterDrain 42 = .ok (.goto 8, 3) := by decide +kernel
theorem dX6_afterDrain_45 : decode cX6_afterDrain 45 = .ok (.aload_n 0, 1) := by decide +kernel
theorem dX6_afterDrain_46 : decode cX6_afterDrain 46 = .ok (.iload_n 3, 1) := by decide +kernel
theorem dX6_afterDrain_47 : decode cX6_afterDrain 47 = .ok (.invokevirtual 59, 3) := by decide +kernel
theorem dX6_afterDrain_50 : decode cX6_afterDrain 50 = .ok (.ireturn, 1) := by decide +kernel
theorem dX6_targetWithoutDrops_0 : decode cX6_targetWithoutDrops 0 = .ok (.getstatic 72, 3) := by decide +kernel
theorem dX6_targetWithoutDrops_3 : decode cX6_targetWithoutDrops 3 = .ok (.iconst 0, 1) := by decide +kernel
theorem dX6_targetWithoutDrops_4 : decode cX6_targetWithoutDrops 4 = .ok (.iaload, 1) := by decide +kernel
theorem dX6_targetWithoutDrops_5 : decode cX6_targetWithoutDrops 5 = .ok (.istore_n 3, 1) := by decide +kernel
theorem dX6_targetWithoutDrops_6 : decode cX6_targetWithoutDrops 6 = .ok (.iconst 0, 1) := by decide +kernel
theorem dX6_targetWithoutDrops_7 : decode cX6_targetWithoutDrops 7 = .ok (.istore 4, 2) := by decide +kernel
theorem dX6_targetWithoutDrops_9 : decode cX6_targetWithoutDrops 9 = .ok (.iload 4, 2) := by decide +kernel
theorem dX6_targetWithoutDrops_11 : decode cX6_targetWithoutDrops 11 = .ok (.getstatic 81, 3) := by decide +kernel
theorem dX6_targetWithoutDrops_14 : decode cX6_targetWithoutDrops 14 = .ok (.iconst 0, 1) := by decide +kernel
theorem dX6_targetWithoutDrops_15 : decode cX6_targetWithoutDrops 15 = .ok (.iaload, 1) := by decide +kernel
theorem dX6_targetWithoutDrops_16 : decode cX6_targetWithoutDrops 16 = .ok (.if_icmp .ge 80, 3) := by decide +kernel
theorem dX6_targetWithoutDrops_19 : decode cX6_targetWithoutDrops 19 = .ok (.iload_n 3, 1) := by decide +kernel
theorem dX6_targetWithoutDrops_20 : decode cX6_targetWithoutDrops 20 = .ok (.getstatic 81, 3) := by decide +kernel
theorem dX6_targetWithoutDrops_23 : decode cX6_targetWithoutDrops 23 = .ok (.iconst 0, 1) := by decide +kernel
theorem dX6_targetWithoutDrops_24 : decode cX6_targetWithoutDrops 24 = .ok (.iaload, 1) := by decide +kernel
theorem dX6_targetWithoutDrops_25 : decode cX6_targetWithoutDrops 25 = .ok (.if_icmp .gt 71, 3) := by decide +kernel
theorem dX6_targetWithoutDrops_28 : decode cX6_targetWithoutDrops 28 = .ok (.aload_n 0, 1) := by decide +kernel
theorem dX6_targetWithoutDrops_29 : decode cX6_targetWithoutDrops 29 = .ok (.aload_n 1, 1) := by decide +kernel
theorem dX6_targetWithoutDrops_30 : decode cX6_targetWithoutDrops 30 = .ok (.invokevirtual 46, 3) := by decide +kernel
theorem dX6_targetWithoutDrops_33 : decode cX6_targetWithoutDrops 33 = .ok (.aload_n 0, 1) := by decide +kernel
theorem dX6_targetWithoutDrops_34 : decode cX6_targetWithoutDrops 34 = .ok (.getfield 12, 3) := by decide +kernel
theorem dX6_targetWithoutDrops_37 : decode cX6_targetWithoutDrops 37 = .ok (.getfield 69, 3) := by decide +kernel
theorem dX6_targetWithoutDrops_40 : decode cX6_targetWithoutDrops 40 = .ok (.iconst 0, 1) := by decide +kernel
theorem dX6_targetWithoutDrops_41 : decode cX6_targetWithoutDrops 41 = .ok (.iload_n 3, 1) := by decide +kernel
theorem dX6_targetWithoutDrops_42 : decode cX6_targetWithoutDrops 42 = .ok (.iastore, 1) := by decide +kernel
theorem dX6_targetWithoutDrops_43 : decode cX6_targetWithoutDrops 43 = .ok (.aload_n 0, 1) := by decide +kernel
theorem dX6_targetWithoutDrops_44 : decode cX6_targetWithoutDrops 44 = .ok (.iload_n 2, 1) := by decide +kernel
theorem dX6_targetWithoutDrops_45 : decode cX6_targetWithoutDrops 45 = .ok (.invokevirtual 93, 3) := by decide +kernel
theorem dX6_targetWithoutDrops_48 : decode cX6_targetWithoutDrops 48 = .ok (.aload_n 0, 1) := by decide +kernel
theorem dX6_targetWithoutDrops_49 : decode cX6_targetWithoutDrops 49 = .ok (.getfield 12, 3) := by decide +kernel
theorem dX6_targetWithoutDrops_52 : decode cX6_targetWithoutDrops 52 = .ok (.getfield 33, 3) := by decide +kernel
theorem dX6_targetWithoutDrops_55 : decode cX6_targetWithoutDrops 55 = .ok (.getfield 37, 3) := by decide +kernel
theorem dX6_targetWithoutDrops_58 : decode cX6_targetWithoutDrops 58 = .ok (.iconst 2, 1) := by decide +kernel
theorem dX6_targetWithoutDrops_59 : decode cX6_targetWithoutDrops 59 = .ok (.iaload, 1) := by decide +kernel
theorem dX6_targetWithoutDrops_60 : decode cX6_targetWithoutDrops 60 = .ok (.ifCond .ne 20, 3) := by decide +kernel
theorem dX6_targetWithoutDrops_63 : decode cX6_targetWithoutDrops 63 = .ok (.aload_n 0, 1) := by decide +kernel
theorem dX6_targetWithoutDrops_64 : decode cX6_targetWithoutDrops 64 = .ok (.getfield 12, 3) := by decide +kernel
theorem dX6_targetWithoutDrops_67 : decode cX6_targetWithoutDrops 67 = .ok (.getfield 33, 3) := by decide +kernel
theorem dX6_targetWithoutDrops_70 : decode cX6_targetWithoutDrops 70 = .ok (.getfield 37, 3) := by decide +kernel
theorem dX6_targetWithoutDrops_73 : decode cX6_targetWithoutDrops 73 = .ok (.iconst 4, 1) := by decide +kernel
theorem dX6_targetWithoutDrops_74 : decode cX6_targetWithoutDrops 74 = .ok (.iaload, 1) := by decide +kernel
theorem dX6_targetWithoutDrops_75 : decode cX6_targetWithoutDrops 75 = .ok (.ifCond .ne 5, 3) := by decide +kernel
theorem dX6_targetWithoutDrops_78 : decode cX6_targetWithoutDrops 78 = .ok (.iload_n 3, 1) := by decide +kernel
theorem dX6_targetWithoutDrops_79 : decode cX6_targetWithoutDrops 79 = .ok (.ireturn, 1) := by decide +kernel
theorem dX6_targetWithoutDrops_80 : decode cX6_targetWithoutDrops 80 = .ok (.aload_n 0, 1) := by decide +kernel
theorem dX6_targetWithoutDrops_81 : decode cX6_targetWithoutDrops 81 = .ok (.getfield 12, 3) := by decide +kernel
theorem dX6_targetWithoutDrops_84 : decode cX6_targetWithoutDrops 84 = .ok (.getfield 30, 3) := by decide +kernel
theorem dX6_targetWithoutDrops_87 : decode cX6_targetWithoutDrops 87 = .ok (.iconst 1, 1) := by decide +kernel
theorem dX6_targetWithoutDrops_88 : decode cX6_targetWithoutDrops 88 = .ok (.iadd, 1) := by decide +kernel
theorem dX6_targetWithoutDrops_89 : decode cX6_targetWithoutDrops 89 = .ok (.istore_n 3, 1) := by decide +kernel
theorem dX6_targetWithoutDrops_90 : decode cX6_targetWithoutDrops 90 = .ok (.iinc 4 1, 3) := by decide +kernel
theorem dX6_targetWithoutDrops_93 : decode cX6_targetWithoutDrops 93 = .ok (.goto (-84), 3) := by decide +kernel
theorem dX6_targetWithoutDrops_96 : decode cX6_targetWithoutDrops 96 = .ok (.bipush (-2), 2) := by decide +kernel
theorem dX6_targetWithoutDrops_98 : decode cX6_targetWithoutDrops 98 = .ok (.ireturn, 1) := by decide +kernel
theorem dX6_quantumOfLeastWaits_0 : decode cX6_quantumOfLeastWaits 0 = .ok (.iconst 0, 1) := by decide +kernel
theorem dX6_quantumOfLeastWaits_1 : decode cX6_quantumOfLeastWaits 1 = .ok (.istore_n 3, 1) := by decide +kernel
theorem dX6_quantumOfLeastWaits_2 : decode cX6_quantumOfLeastWaits 2 = .ok (.iconst 0, 1) := by decide +kernel
theorem dX6_quantumOfLeastWaits_3 : decode cX6_quantumOfLeastWaits 3 = .ok (.istore 4, 2) := by decide +kernel
theorem dX6_quantumOfLeastWaits_5 : decode cX6_quantumOfLeastWaits 5 = .ok (.bipush 50, 2) := by decide +kernel
theorem dX6_quantumOfLeastWaits_7 : decode cX6_quantumOfLeastWaits 7 = .ok (.istore 5, 2) := by decide +kernel
theorem dX6_quantumOfLeastWaits_9 : decode cX6_quantumOfLeastWaits 9 = .ok (.iload 5, 2) := by decide +kernel
theorem dX6_quantumOfLeastWaits_11 : decode cX6_quantumOfLeastWaits 11 = .ok (.getstatic 81, 3) := by decide +kernel
theorem dX6_quantumOfLeastWaits_14 : decode cX6_quantumOfLeastWaits 14 = .ok (.iconst 2, 1) := by decide +kernel
theorem dX6_quantumOfLeastWaits_15 : decode cX6_quantumOfLeastWaits 15 = .ok (.iaload, 1) := by decide +kernel
theorem dX6_quantumOfLeastWaits_16 : decode cX6_quantumOfLeastWaits 16 = .ok (.if_icmp .gt 64, 3) := by decide +kernel
theorem dX6_quantumOfLeastWaits_19 : decode cX6_quantumOfLeastWaits 19 = .ok (.aload_n 0, 1) := by decide +kernel
theorem dX6_quantumOfLeastWaits_20 : decode cX6_quantumOfLeastWaits 20 = .ok (.aload_n 1, 1) := by decide +kernel
theorem dX6_quantumOfLeastWaits_21 : decode cX6_quantumOfLeastWaits 21 = .ok (.invokevirtual 46, 3) := by decide +kernel
theorem dX6_quantumOfLeastWaits_24 : decode cX6_quantumOfLeastWaits 24 = .ok (.aload_n 0, 1) := by decide +kernel
theorem dX6_quantumOfLeastWaits_25 : decode cX6_quantumOfLeastWaits 25 = .ok (.getfield 12, 3) := by decide +kernel
theorem dX6_quantumOfLeastWaits_28 : decode cX6_quantumOfLeastWaits 28 = .ok (.getfield 69, 3) := by decide +kernel
theorem dX6_quantumOfLeastWaits_31 : decode cX6_quantumOfLeastWaits 31 = .ok (.iconst 2, 1) := by decide +kernel
theorem dX6_quantumOfLeastWaits_32 : decode cX6_quantumOfLeastWaits 32 = .ok (.iload 5, 2) := by decide +kernel
theorem dX6_quantumOfLeastWaits_34 : decode cX6_quantumOfLeastWaits 34 = .ok (.iastore, 1) := by decide +kernel
theorem dX6_quantumOfLeastWaits_35 : decode cX6_quantumOfLeastWaits 35 = .ok (.aload_n 0, 1) := by decide +kernel
theorem dX6_quantumOfLeastWaits_36 : decode cX6_quantumOfLeastWaits 36 = .ok (.iload_n 2, 1) := by decide +kernel
theorem dX6_quantumOfLeastWaits_37 : decode cX6_quantumOfLeastWaits 37 = .ok (.invokevirtual 93, 3) := by decide +kernel
theorem dX6_quantumOfLeastWaits_40 : decode cX6_quantumOfLeastWaits 40 = .ok (.aload_n 0, 1) := by decide +kernel
theorem dX6_quantumOfLeastWaits_41 : decode cX6_quantumOfLeastWaits 41 = .ok (.getfield 12, 3) := by decide +kernel
theorem dX6_quantumOfLeastWaits_44 : decode cX6_quantumOfLeastWaits 44 = .ok (.getfield 33, 3) := by decide +kernel
theorem dX6_quantumOfLeastWaits_47 : decode cX6_quantumOfLeastWaits 47 = .ok (.aload_n 0, 1) := by decide +kernel
theorem dX6_quantumOfLeastWaits_48 : decode cX6_quantumOfLeastWaits 48 = .ok (.getfield 18, 3) := by decide +kernel
theorem dX6_quantumOfLeastWaits_51 : decode cX6_quantumOfLeastWaits 51 = .ok (.invokevirtual 100, 3) := by decide +kernel
theorem dX6_quantumOfLeastWaits_54 : decode cX6_quantumOfLeastWaits 54 = .ok (.istore 6, 2) := by decide +kernel
theorem dX6_quantumOfLeastWaits_56 : decode cX6_quantumOfLeastWaits 56 = .ok (.iload_n 3, 1) := by decide +kernel
theorem dX6_quantumOfLeastWaits_57 : decode cX6_quantumOfLeastWaits 57 = .ok (.ifCond .eq 10, 3) := by decide +kernel
theorem dX6_quantumOfLeastWaits_60 : decode cX6_quantumOfLeastWaits 60 = .ok (.iload 6, 2) := by decide +kernel
theorem dX6_quantumOfLeastWaits_62 : decode cX6_quantumOfLeastWaits 62 = .ok (.iload 4, 2) := by decide +kernel
theorem dX6_quantumOfLeastWaits_64 : decode cX6_quantumOfLeastWaits 64 = .ok (.if_icmp .ge 10, 3) := by decide +kernel
theorem dX6_quantumOfLeastWaits_67 : decode cX6_quantumOfLeastWaits 67 = .ok (.iload 6, 2) := by decide +kernel
theorem dX6_quantumOfLeastWaits_69 : decode cX6_quantumOfLeastWaits 69 = .ok (.istore 4, 2) := by decide +kernel
theorem dX6_quantumOfLeastWaits_71 : decode cX6_quantumOfLeastWaits 71 = .ok (.iload 5, 2) := by decide +kernel
theorem dX6_quantumOfLeastWaits_73 : decode cX6_quantumOfLeastWaits 73 = .ok (.istore_n 3, 1) := by decide +kernel
theorem dX6_quantumOfLeastWaits_74 : decode cX6_quantumOfLeastWaits 74 = .ok (.iinc 5 50, 3) := by decide +kernel
theorem dX6_quantumOfLeastWaits_77 : decode cX6_quantumOfLeastWaits 77 = .ok (.goto (-68), 3) := by decide +kernel
theorem dX6_quantumOfLeastWaits_80 : decode cX6_quantumOfLeastWaits 80 = .ok (.iload_n 3, 1) := by decide +kernel
theorem dX6_quantumOfLeastWaits_81 : decode cX6_quantumOfLeastWaits 81 = .ok (.ireturn, 1) := by decide +kernel
def b_X6_begin_27 (o0 : Nat) (k27 : Hp × Int32 → Option Hp) (q : Hp × Int32) : Option Hp :=
  if 5 ≤ q.2 then (nv (hp q.1 o0 1 (q.1 (o0 + 1 + 2) 14)) fun h1 => some h1) else (if ib q.2 5 then (nv (hp q.1 (o0 + 1 + 2 + 13) (Int32.toNatClampNeg q.2) 0) fun h3 => k27 (h3, q.2 + 1)) else none)
def p_X6_begin (h : Hp) (o0 : Nat) (o1 : Nat) : Option Hp :=
  Option.bind (p_X8_copyFrom h (o0 + 1) o1) fun r4 => nv (hp r4 (o0 + 1) 10 0) fun h5 => nv (hp h5 (o0 + 1) 12 99999999) fun h6 => lp (b_X6_begin_27 o0) FU (h6, 0)
set_option maxRecDepth 4000 in
theorem s_X6_begin_27 {p : Program} {l : Launch} {e : Env} {s : State} {m : MethodId} {args : Array Value} {below : List Frame} {meth : Method} {c : Code} {G : GT} (cx : CX p s m args c cX6_begin 3 RX6 G) (hr : meth.sig.returnType = none) (hlk : meth.locks = false) (o0 : Nat) (hk_o0 : kd o0 = 5) : ∀ (n : Nat) (q : Hp × Int32), PF p l e (rmc 3 70) s m args below meth c 3 G 0 0 (QV below G args s) 27 [some (.ref (gad G o0)), none, some (.int q.2)] [] q.1 (lp (b_X6_begin_27 o0) n q) := by
  refine f_lp (lvf := fun (q : Hp × Int32) => [some (.ref (gad G o0)), none, some (.int q.2)]) (hf := fun (q : Hp × Int32) => q.1) (fun k27 hk27 q => ?_)
  show PF p l e (rmc 3 70) s m args below meth c 3 G 0 0 (QV below G args s) 27 [some (.ref (gad G o0)), none, some (.int q.2)] [] q.1 (b_X6_begin_27 o0 k27 q)
  unfold b_X6_begin_27
  refine f_iload_n (pc := 27) cx dX6_begin_27 rfl rfl ?_
  refine f_iconst (pc := 28) cx dX6_begin_28 kc_iconst_5 ?_
  refine f_icmp_ge (pc := 29) (tgt := 51) cx dX6_begin_29 (by decide) (fun _ => ?_) (fun _ => ?_)
  · refine f_aload_n (pc := 51) cx dX6_begin_51 rfl rfl ?_
    refine f_aload_n (pc := 52) cx dX6_begin_52 rfl rfl ?_
    refine g_X6_12 (pc := 53) cx hk_o0 dX6_begin_53 ?_
    refine g_X6_33 (pc := 56) cx (kf_5_0 hk_o0) dX6_begin_56 ?_
    refine g_X6_43 (pc := 59) cx (kf_7_1 (kf_5_0 hk_o0)) dX6_begin_59 ?_
    refine u_X6_18 (pc := 62) cx hk_o0 dX6_begin_62 ?_
    refine f_nvh (fun h1 => ?_)
    exact f_vret cx hr hlk dX6_begin_65
  · refine f_aload_n (pc := 32) cx dX6_begin_32 rfl rfl ?_
    refine g_X6_12 (pc := 33) cx hk_o0 dX6_begin_33 ?_
    refine g_X6_33 (pc := 36) cx (kf_5_0 hk_o0) dX6_begin_36 ?_
    refine g_X6_37 (pc := 39) cx (kf_7_1 (kf_5_0 hk_o0)) dX6_begin_39 ?_
    refine f_iload_n (pc := 42) cx dX6_begin_42 rfl rfl ?_
    refine f_iconst (pc := 43) cx dX6_begin_43 kc_iconst_0 ?_
    refine f_need (fun c2 => ?_)
    refine f_iast (pc := 44) (n := 5) cx (kf_1_12 (kf_7_1 (kf_5_0 hk_o0))) (by decide) c2 dX6_begin_44 ?_
    refine f_nvh (fun h3 => ?_)
    refine f_iinc2 (pc := 45) cx dX6_begin_45 kc_iconst_1 (by decide) rfl ?_
    refine f_goto (pc := 48) (tgt := 27) cx dX6_begin_48 (by decide) ?_
    exact f_weak (LSb.s (LSb.n (LSb.s LSb.e))) (hk27 (h3, q.2 + 1))
set_option maxRecDepth 4000 in
theorem s_X6_begin {p : Program} {l : Launch} {e : Env} {s : State} {m : MethodId} {args : Array Value} {below : List Frame} {meth : Method} {c : Code} {G : GT} (cx : CX p s m args c cX6_begin 3 RX6 G) (hr : meth.sig.returnType = none) (hlk : meth.locks = false) (h : Hp) (o0 : Nat) (o1 : Nat) (hk_o0 : kd o0 = 5) (hk_o1 : kd o1 = 7) : PF p l e (rmc 3 70) s m args below meth c 3 G 0 0 (QV below G args s) 0 [some (.ref (gad G o0)), some (.ref (gad G o1)), none] [] h (p_X6_begin h o0 o1) := by
  unfold p_X6_begin
  refine f_aload_n (pc := 0) cx dX6_begin_0 rfl rfl ?_
  refine g_X6_12 (pc := 1) cx hk_o0 dX6_begin_1 ?_
  refine f_aload_n (pc := 4) cx dX6_begin_4 rfl rfl ?_
  refine f_bind (fun r4 hr4 => ?_)
  refine k_X6_22 (pc := 5) cx (c_X8_copyFrom l G _ (o0 + 1) o1 (kf_5_0 hk_o0) hk_o1 r4 hr4) (kf_5_0 hk_o0) ⟨by decide, by decide⟩ ⟨Nat.zero_le _, Nat.zero_le _⟩ (Nat.le_of_ble_eq_true rfl) dX6_begin_5 ?_
  refine f_aload_n (pc := 8) cx dX6_begin_8 rfl rfl ?_
  refine g_X6_12 (pc := 9) cx hk_o0 dX6_begin_9 ?_
  refine f_iconst (pc := 12) cx dX6_begin_12 kc_iconst_0 ?_
  refine u_X6_26 (pc := 13) cx (kf_5_0 hk_o0) dX6_begin_13 ?_
  refine f_nvh (fun h5 => ?_)
  refine f_aload_n (pc := 16) cx dX6_begin_16 rfl rfl ?_
  refine g_X6_12 (pc := 17) cx hk_o0 dX6_begin_17 ?_
  refine f_ldc (pc := 20) cx w_924 dX6_begin_20 ?_
  refine u_X6_30 (pc := 22) cx (kf_5_0 hk_o0) dX6_begin_22 ?_
  refine f_nvh (fun h6 => ?_)
  refine f_iconst (pc := 25) cx dX6_begin_25 kc_iconst_0 ?_
  refine f_istore2 (pc := 26) cx dX6_begin_26 (by decide) rfl ?_
  exact f_weak (LSb.s (LSb.n (LSb.s LSb.e))) (s_X6_begin_27 cx hr hlk o0 hk_o0 FU (h6, 0))
set_option maxRecDepth 4000 in
theorem c_X6_begin (l : Launch) (G : GT) (h : Hp) (o0 : Nat) (o1 : Nat) (hk_o0 : kd o0 = 5) (hk_o1 : kd o1 = 7) : CtV l G yX6_begin cX6_begin 3 none 3 70 [.ref (gad G o0), .ref (gad G o1)] h (p_X6_begin h o0 o1) := fun a ha => Ct.of (lv := [some (.ref (gad G o0)), some (.ref (gad G o1)), none]) (by decide) rfl (Nat.le_of_ble_eq_true rfl) rfl (fun p e s m args below meth c cx hr hlk => s_X6_begin cx hr hlk h o0 o1 hk_o0 hk_o1 a ha)
def q_X6_tallyOf_21 (h : Hp) (o0 : Nat) (y0 : Int32) : Option (Int32 × Hp) :=
  if y0 < 0 then (some ((-1), h)) else (if y0 < 5 then (if ib y0 5 then (some (h (o0 + 1 + 2 + 13) (Int32.toNatClampNeg y0), h)) else none) else (some ((-1), h)))
def p_X6_tallyOf (h : Hp) (o0 : Nat) (x1 : Int32) : Option (Int32 × Hp) :=
  if x1 < 0 then (q_X6_tallyOf_21 h o0 (-1)) else (if x1 < 4 then (if ib x1 4 then (q_X6_tallyOf_21 h o0 (tbv 5 (Int32.toNatClampNeg x1))) else none) else (q_X6_tallyOf_21 h o0 (-1)))
set_option maxRecDepth 4000 in
theorem s_X6_tallyOf_21 {p : Program} {l : Launch} {e : Env} {s : State} {m : MethodId} {args : Array Value} {below : List Frame} {meth : Method} {c : Code} {G : GT} (cx : CX p s m args c cX6_tallyOf 3 RX6 G) (hr : meth.sig.returnType = (some .int)) (hlk : meth.locks = false) (h : Hp) (o0 : Nat) (y0 : Int32) (hk_o0 : kd o0 = 5) : PF p l e (rmc 0 0) s m args below meth c 3 G 0 0 (QI below G args s) 21 [some (.ref (gad G o0)), none, none] [.int y0] h (q_X6_tallyOf_21 h o0 y0) := by
  unfold q_X6_tallyOf_21
  refine f_istore2 (pc := 21) cx dX6_tallyOf_21 (by decide) rfl ?_
  refine f_iload_n (pc := 22) cx dX6_tallyOf_22 rfl rfl ?_
  refine f_if_lt (pc := 23) (tgt := 31) cx dX6_tallyOf_23 (by decide) (fun _ => ?_) (fun _ => ?_)
  · refine f_iconst (pc := 31) cx dX6_tallyOf_31 kc_iconst_m1 ?_
    refine f_goto (pc := 32) (tgt := 47) cx dX6_tallyOf_32 (by decide) ?_
    exact f_iret cx hr hlk rfl dX6_tallyOf_47
  · refine f_iload_n (pc := 26) cx dX6_tallyOf_26 rfl rfl ?_
    refine f_iconst (pc := 27) cx dX6_tallyOf_27 kc_iconst_5 ?_
    refine f_icmp_lt (pc := 28) (tgt := 35) cx dX6_tallyOf_28 (by decide) (fun _ => ?_) (fun _ => ?_)
    · refine f_aload_n (pc := 35) cx dX6_tallyOf_35 rfl rfl ?_
      refine g_X6_12 (pc := 36) cx hk_o0 dX6_tallyOf_36 ?_
      refine g_X6_33 (pc := 39) cx (kf_5_0 hk_o0) dX6_tallyOf_39 ?_
      refine g_X6_37 (pc := 42) cx (kf_7_1 (kf_5_0 hk_o0)) dX6_tallyOf_42 ?_
      refine f_iload_n (pc := 45) cx dX6_tallyOf_45 rfl rfl ?_
      refine f_need (fun c1 => ?_)
      refine f_iald (pc := 46) (n := 5) cx (kf_1_12 (kf_7_1 (kf_5_0 hk_o0))) (by decide) c1 dX6_tallyOf_46 ?_
      exact f_iret cx hr hlk rfl dX6_tallyOf_47
    · refine f_iconst (pc := 31) cx dX6_tallyOf_31 kc_iconst_m1 ?_
      refine f_goto (pc := 32) (tgt := 47) cx dX6_tallyOf_32 (by decide) ?_
      exact f_iret cx hr hlk rfl dX6_tallyOf_47
set_option maxRecDepth 4000 in
theorem s_X6_tallyOf {p : Program} {l : Launch} {e : Env} {s : State} {m : MethodId} {args : Array Value} {below : List Frame} {meth : Method} {c : Code} {G : GT} (cx : CX p s m args c cX6_tallyOf 3 RX6 G) (hr : meth.sig.returnType = (some .int)) (hlk : meth.locks = false) (h : Hp) (o0 : Nat) (x1 : Int32) (hk_o0 : kd o0 = 5) : PF p l e (rmc 0 0) s m args below meth c 3 G 0 0 (QI below G args s) 0 [some (.ref (gad G o0)), some (.int x1), none] [] h (p_X6_tallyOf h o0 x1) := by
  unfold p_X6_tallyOf
  refine f_iload_n (pc := 0) cx dX6_tallyOf_0 rfl rfl ?_
  refine f_if_lt (pc := 1) (tgt := 12) cx dX6_tallyOf_1 (by decide) (fun _ => ?_) (fun _ => ?_)
  · refine f_iconst (pc := 12) cx dX6_tallyOf_12 kc_iconst_m1 ?_
    refine f_goto (pc := 13) (tgt := 21) cx dX6_tallyOf_13 (by decide) ?_
    exact f_weak (LSb.s (LSb.n (LSb.n LSb.e))) (s_X6_tallyOf_21 cx hr hlk _ o0 (-1) hk_o0)
  · refine f_iload_n (pc := 4) cx dX6_tallyOf_4 rfl rfl ?_
    refine g_X6_63 (pc := 5) cx dX6_tallyOf_5 ?_
    refine f_tlen (pc := 8) (j := 5) cx (by decide) kt_5 dX6_tallyOf_8 ?_
    refine f_icmp_lt (pc := 9) (tgt := 16) cx dX6_tallyOf_9 (by decide) (fun _ => ?_) (fun _ => ?_)
    · refine g_X6_63 (pc := 16) cx dX6_tallyOf_16 ?_
      refine f_iload_n (pc := 19) cx dX6_tallyOf_19 rfl rfl ?_
      refine f_need (fun c2 => ?_)
      refine f_tald (pc := 20) (j := 5) cx (by decide) c2 dX6_tallyOf_20 ?_
      exact f_weak (LSb.s (LSb.n (LSb.n LSb.e))) (s_X6_tallyOf_21 cx hr hlk _ o0 (tbv 5 (Int32.toNatClampNeg x1)) hk_o0)
    · refine f_iconst (pc := 12) cx dX6_tallyOf_12 kc_iconst_m1 ?_
      refine f_goto (pc := 13) (tgt := 21) cx dX6_tallyOf_13 (by decide) ?_
      exact f_weak (LSb.s (LSb.n (LSb.n LSb.e))) (s_X6_tallyOf_21 cx hr hlk _ o0 (-1) hk_o0)
set_option maxRecDepth 4000 in
theorem c_X6_tallyOf (l : Launch) (G : GT) (h : Hp) (o0 : Nat) (x1 : Int32) (hk_o0 : kd o0 = 5) : CtI l G yX6_tallyOf cX6_tallyOf 3 (some .int) 0 0 [.ref (gad G o0), .int x1] h (p_X6_tallyOf h o0 x1) := fun a ha => Ct.of (lv := [some (.ref (gad G o0)), some (.int x1), none]) (by decide) rfl (Nat.le_of_ble_eq_true rfl) rfl (fun p e s m args below meth c cx hr hlk => s_X6_tallyOf cx hr hlk h o0 x1 hk_o0 a ha)
def b_X6_drainCopy_2 (o0 : Nat) (x1 : Int32) (k2 : Hp × Int32 → Option Hp) (q : Hp × Int32) : Option Hp :=
  if 200 ≤ q.2 then (some q.1) else (if (q.1 (o0 + 1) 8) ≤ 0 then (some q.1) else (Option.bind (p_X8_serve q.1 (o0 + 1)) fun r1 => nv (hp r1.2 (o0 + 1) 7 ((r1.2 (o0 + 1) 7) + x1)) fun h2 => k2 (h2, q.2 + 1)))
def p_X6_drainCopy (h : Hp) (o0 : Nat) (x1 : Int32) : Option Hp :=
  lp (b_X6_drainCopy_2 o0 x1) FU (h, 0)
set_option maxRecDepth 4000 in
theorem s_X6_drainCopy_2 {p : Program} {l : Launch} {e : Env} {s : State} {m : MethodId} {args : Array Value} {below : List Frame} {meth : Method} {c : Code} {G : GT} (cx : CX p s m args c cX6_drainCopy 3 RX6 G) (hr : meth.sig.returnType = none) (hlk : meth.locks = false) (o0 : Nat) (x1 : Int32) (hk_o0 : kd o0 = 5) : ∀ (n : Nat) (q : Hp × Int32), PF p l e (rmc 5 120) s m args below meth c 3 G 0 0 (QV below G args s) 2 [some (.ref (gad G o0)), some (.int x1), some (.int q.2)] [] q.1 (lp (b_X6_drainCopy_2 o0 x1) n q) := by
  refine f_lp (lvf := fun (q : Hp × Int32) => [some (.ref (gad G o0)), some (.int x1), some (.int q.2)]) (hf := fun (q : Hp × Int32) => q.1) (fun k2 hk2 q => ?_)
  show PF p l e (rmc 5 120) s m args below meth c 3 G 0 0 (QV below G args s) 2 [some (.ref (gad G o0)), some (.int x1), some (.int q.2)] [] q.1 (b_X6_drainCopy_2 o0 x1 k2 q)
  unfold b_X6_drainCopy_2
  refine f_iload_n (pc := 2) cx dX6_drainCopy_2 rfl rfl ?_
  refine f_sipush (pc := 3) cx dX6_drainCopy_3 kc_sipush_200 ?_
  refine f_icmp_ge (pc := 6) (tgt := 46) cx dX6_drainCopy_6 (by decide) (fun _ => ?_) (fun _ => ?_)
  · exact f_vret cx hr hlk dX6_drainCopy_46
  · refine f_aload_n (pc := 9) cx dX6_drainCopy_9 rfl rfl ?_
    refine g_X6_12 (pc := 10) cx hk_o0 dX6_drainCopy_10 ?_
    refine g_X6_87 (pc := 13) cx (kf_5_0 hk_o0) dX6_drainCopy_13 ?_
    refine f_if_le (pc := 16) (tgt := 46) cx dX6_drainCopy_16 (by decide) (fun _ => ?_) (fun _ => ?_)
    · exact f_vret cx hr hlk dX6_drainCopy_46
    · refine f_aload_n (pc := 19) cx dX6_drainCopy_19 rfl rfl ?_
      refine g_X6_12 (pc := 20) cx hk_o0 dX6_drainCopy_20 ?_
      refine f_bind (fun r1 hr1 => ?_)
      refine k_X6_90 (pc := 23) cx (c_X8_serve l G _ (o0 + 1) (kf_5_0 hk_o0) r1 hr1) (kf_5_0 hk_o0) ⟨by decide, by decide⟩ ⟨Nat.zero_le _, Nat.zero_le _⟩ (Nat.le_of_ble_eq_true rfl) dX6_drainCopy_23 ?_
      refine f_pop (pc := 26) cx dX6_drainCopy_26 rfl ?_
      refine f_aload_n (pc := 27) cx dX6_drainCopy_27 rfl rfl ?_
      refine g_X6_12 (pc := 28) cx hk_o0 dX6_drainCopy_28 ?_
      refine f_dup (pc := 31) cx dX6_drainCopy_31 rfl ?_
      refine g_X6_52 (pc := 32) cx (kf_5_0 hk_o0) dX6_drainCopy_32 ?_
      refine f_iload_n (pc := 35) cx dX6_drainCopy_35 rfl rfl ?_
      refine f_iadd (pc := 36) cx dX6_drainCopy_36 ?_
      refine u_X6_52 (pc := 37) cx (kf_5_0 hk_o0) dX6_drainCopy_37 ?_
      refine f_nvh (fun h2 => ?_)
      refine f_iinc2 (pc := 40) cx dX6_drainCopy_40 kc_iconst_1 (by decide) rfl ?_
      refine f_goto (pc := 43) (tgt := 2) cx dX6_drainCopy_43 (by decide) ?_
      exact f_weak (LSb.s (LSb.s (LSb.s LSb.e))) (hk2 (h2, q.2 + 1))
set_option maxRecDepth 4000 in
theorem s_X6_drainCopy {p : Program} {l : Launch} {e : Env} {s : State} {m : MethodId} {args : Array Value} {below : List Frame} {meth : Method} {c : Code} {G : GT} (cx : CX p s m args c cX6_drainCopy 3 RX6 G) (hr : meth.sig.returnType = none) (hlk : meth.locks = false) (h : Hp) (o0 : Nat) (x1 : Int32) (hk_o0 : kd o0 = 5) : PF p l e (rmc 5 120) s m args below meth c 3 G 0 0 (QV below G args s) 0 [some (.ref (gad G o0)), some (.int x1), none] [] h (p_X6_drainCopy h o0 x1) := by
  unfold p_X6_drainCopy
  refine f_iconst (pc := 0) cx dX6_drainCopy_0 kc_iconst_0 ?_
  refine f_istore2 (pc := 1) cx dX6_drainCopy_1 (by decide) rfl ?_
  exact f_weak (LSb.s (LSb.s (LSb.s LSb.e))) (s_X6_drainCopy_2 cx hr hlk o0 x1 hk_o0 FU (h, 0))
set_option maxRecDepth 4000 in
theorem c_X6_drainCopy (l : Launch) (G : GT) (h : Hp) (o0 : Nat) (x1 : Int32) (hk_o0 : kd o0 = 5) : CtV l G yX6_drainCopy cX6_drainCopy 3 none 5 120 [.ref (gad G o0), .int x1] h (p_X6_drainCopy h o0 x1) := fun a ha => Ct.of (lv := [some (.ref (gad G o0)), some (.int x1), none]) (by decide) rfl (Nat.le_of_ble_eq_true rfl) rfl (fun p e s m args below meth c cx hr hlk => s_X6_drainCopy cx hr hlk h o0 x1 hk_o0 a ha)
def b_X6_afterTicks_8 (o0 : Nat) (x2 : Int32) (x3 : Int32) (k8 : Hp × Int32 → Option (Int32 × Hp)) (q : Hp × Int32) : Option (Int32 × Hp) :=
  if x2 ≤ q.2 then (if x3 = 4 then (some (q.1 (o0 + 1) 7, q.1)) else (if x3 = 5 then (Option.bind (p_X8_windows q.1 (o0 + 1)) fun r1 => some (r1.1, r1.2)) else (Option.bind (p_X6_tallyOf q.1 o0 x3) fun r2 => some (r2.1, r2.2)))) else (Option.bind (p_X8_tick q.1 (o0 + 1)) fun r3 => k8 (r3, q.2 + 1))
def p_X6_afterTicks (h : Hp) (o0 : Nat) (o1 : Nat) (x2 : Int32) (x3 : Int32) : Option (Int32 × Hp) :=
  Option.bind (p_X6_begin h o0 o1) fun r4 => lp (b_X6_afterTicks_8 o0 x2 x3) FU (r4, 0)
set_option maxRecDepth 4000 in
theorem s_X6_afterTicks_8 {p : Program} {l : Launch} {e : Env} {s : State} {m : MethodId} {args : Array Value} {below : List Frame} {meth : Method} {c : Code} {G : GT} (cx : CX p s m args c cX6_afterTicks 5 RX6 G) (hr : meth.sig.returnType = (some .int)) (hlk : meth.locks = false) (o0 : Nat) (x2 : Int32) (x3 : Int32) (hk_o0 : kd o0 = 5) : ∀ (n : Nat) (q : Hp × Int32), PF p l e (rmc 6 141) s m args below meth c 5 G 0 0 (QI below G args s) 8 [some (.ref (gad G o0)), none, some (.int x2), some (.int x3), some (.int q.2)] [] q.1 (lp (b_X6_afterTicks_8 o0 x2 x3) n q) := by
  refine f_lp (lvf := fun (q : Hp × Int32) => [some (.ref (gad G o0)), none, some (.int x2), some (.int x3), some (.int q.2)]) (hf := fun (q : Hp × Int32) => q.1) (fun k8 hk8 q => ?_)
  show PF p l e (rmc 6 141) s m args below meth c 5 G 0 0 (QI below G args s) 8 [some (.ref (gad G o0)), none, some (.int x2), some (.int x3), some (.int q.2)] [] q.1 (b_X6_afterTicks_8 o0 x2 x3 k8 q)
  unfold b_X6_afterTicks_8
  refine f_iload (pc := 8) cx dX6_afterTicks_8 rfl ?_
  refine f_iload_n (pc := 10) cx dX6_afterTicks_10 rfl rfl ?_
  refine f_icmp_ge (pc := 11) (tgt := 27) cx dX6_afterTicks_11 (by decide) (fun _ => ?_) (fun _ => ?_)
  · refine f_iload_n (pc := 27) cx dX6_afterTicks_27 rfl rfl ?_
    refine f_iconst (pc := 28) cx dX6_afterTicks_28 kc_iconst_4 ?_
    refine f_icmp_ne (pc := 29) (tgt := 40) cx dX6_afterTicks_29 (by decide) (fun _ => ?_) (fun _ => ?_)
    · refine f_aload_n (pc := 32) cx dX6_afterTicks_32 rfl rfl ?_
      refine g_X6_12 (pc := 33) cx hk_o0 dX6_afterTicks_33 ?_
      refine g_X6_52 (pc := 36) cx (kf_5_0 hk_o0) dX6_afterTicks_36 ?_
      exact f_iret cx hr hlk rfl dX6_afterTicks_39
    · refine f_iload_n (pc := 40) cx dX6_afterTicks_40 rfl rfl ?_
      refine f_iconst (pc := 41) cx dX6_afterTicks_41 kc_iconst_5 ?_
      refine f_icmp_ne (pc := 42) (tgt := 55) cx dX6_afterTicks_42 (by decide) (fun _ => ?_) (fun _ => ?_)
      · refine f_aload_n (pc := 45) cx dX6_afterTicks_45 rfl rfl ?_
        refine g_X6_12 (pc := 46) cx hk_o0 dX6_afterTicks_46 ?_
        refine f_bind (fun r1 hr1 => ?_)
        refine k_X6_55 (pc := 49) cx (c_X8_windows l G _ (o0 + 1) (kf_5_0 hk_o0) r1 hr1) (kf_5_0 hk_o0) ⟨by decide, by decide⟩ ⟨Nat.zero_le _, Nat.zero_le _⟩ (Nat.le_of_ble_eq_true rfl) dX6_afterTicks_49 ?_
        refine f_goto (pc := 52) (tgt := 60) cx dX6_afterTicks_52 (by decide) ?_
        exact f_iret cx hr hlk rfl dX6_afterTicks_60
      · refine f_aload_n (pc := 55) cx dX6_afterTicks_55 rfl rfl ?_
        refine f_iload_n (pc := 56) cx dX6_afterTicks_56 rfl rfl ?_
        refine f_bind (fun r2 hr2 => ?_)
        refine k_X6_59 (pc := 57) cx (c_X6_tallyOf l G _ o0 x3 hk_o0 r2 hr2) hk_o0 ⟨by decide, by decide⟩ ⟨Nat.zero_le _, Nat.zero_le _⟩ (Nat.le_of_ble_eq_true rfl) dX6_afterTicks_57 ?_
        exact f_iret cx hr hlk rfl dX6_afterTicks_60
  · refine f_aload_n (pc := 14) cx dX6_afterTicks_14 rfl rfl ?_
    refine g_X6_12 (pc := 15) cx hk_o0 dX6_afterTicks_15 ?_
    refine f_bind (fun r3 hr3 => ?_)
    refine k_X6_49 (pc := 18) cx (c_X8_tick l G _ (o0 + 1) (kf_5_0 hk_o0) r3 hr3) (kf_5_0 hk_o0) ⟨by decide, by decide⟩ ⟨Nat.zero_le _, Nat.zero_le _⟩ (Nat.le_of_ble_eq_true rfl) dX6_afterTicks_18 ?_
    refine f_iinc4 (pc := 21) cx dX6_afterTicks_21 kc_iconst_1 (by decide) rfl ?_
    refine f_goto (pc := 24) (tgt := 8) cx dX6_afterTicks_24 (by decide) ?_
    exact f_weak (LSb.s (LSb.n (LSb.s (LSb.s (LSb.s LSb.e))))) (hk8 (r3, q.2 + 1))
set_option maxRecDepth 4000 in
theorem s_X6_afterTicks {p : Program} {l : Launch} {e : Env} {s : State} {m : MethodId} {args : Array Value} {below : List Frame} {meth : Method} {c : Code} {G : GT} (cx : CX p s m args c cX6_afterTicks 5 RX6 G) (hr : meth.sig.returnType = (some .int)) (hlk : meth.locks = false) (h : Hp) (o0 : Nat) (o1 : Nat) (x2 : Int32) (x3 : Int32) (hk_o0 : kd o0 = 5) (hk_o1 : kd o1 = 7) : PF p l e (rmc 6 141) s m args below meth c 5 G 0 0 (QI below G args s) 0 [some (.ref (gad G o0)), some (.ref (gad G o1)), some (.int x2), some (.int x3), none] [] h (p_X6_afterTicks h o0 o1 x2 x3) := by
  unfold p_X6_afterTicks
  refine f_aload_n (pc := 0) cx dX6_afterTicks_0 rfl rfl ?_
  refine f_aload_n (pc := 1) cx dX6_afterTicks_1 rfl rfl ?_
  refine f_bind (fun r4 hr4 => ?_)
  refine k_X6_46 (pc := 2) cx (c_X6_begin l G _ o0 o1 hk_o0 hk_o1 r4 hr4) hk_o0 ⟨by decide, by decide⟩ ⟨Nat.zero_le _, Nat.zero_le _⟩ (Nat.le_of_ble_eq_true rfl) dX6_afterTicks_2 ?_
  refine f_iconst (pc := 5) cx dX6_afterTicks_5 kc_iconst_0 ?_
  refine f_istore4 (pc := 6) cx dX6_afterTicks_6 (by decide) rfl ?_
  exact f_weak (LSb.s (LSb.n (LSb.s (LSb.s (LSb.s LSb.e))))) (s_X6_afterTicks_8 cx hr hlk o0 x2 x3 hk_o0 FU (r4, 0))
set_option maxRecDepth 4000 in
theorem c_X6_afterTicks (l : Launch) (G : GT) (h : Hp) (o0 : Nat) (o1 : Nat) (x2 : Int32) (x3 : Int32) (hk_o0 : kd o0 = 5) (hk_o1 : kd o1 = 7) : CtI l G yX6_afterTicks cX6_afterTicks 5 (some .int) 6 141 [.ref (gad G o0), .ref (gad G o1), .int x2, .int x3] h (p_X6_afterTicks h o0 o1 x2 x3) := fun a ha => Ct.of (lv := [some (.ref (gad G o0)), some (.ref (gad G o1)), some (.int x2), some (.int x3), none]) (by decide) rfl (Nat.le_of_ble_eq_true rfl) rfl (fun p e s m args below meth c cx hr hlk => s_X6_afterTicks cx hr hlk h o0 o1 x2 x3 hk_o0 hk_o1 a ha)
def b_X6_tickOfFirstCut_16 (o0 : Nat) (x2 : Int32) (x3 : Int32) (k16 : Hp × Int32 → Option (Int32 × Hp)) (q : Hp × Int32) : Option (Int32 × Hp) :=
  if x2 < q.2 then (some ((-2), q.1)) else (Option.bind (p_X8_tick q.1 (o0 + 1)) fun r1 => Option.bind (p_X8_cuts r1 (o0 + 1)) fun r2 => if r2.1 ≤ x3 then (k16 (r2.2, q.2 + 1)) else (some (q.2, r2.2)))
def p_X6_tickOfFirstCut (h : Hp) (o0 : Nat) (o1 : Nat) (x2 : Int32) : Option (Int32 × Hp) :=
  Option.bind (p_X6_begin h o0 o1) fun r3 => Option.bind (p_X8_cuts r3 (o0 + 1)) fun r4 => lp (b_X6_tickOfFirstCut_16 o0 x2 r4.1) FU (r4.2, 1)
set_option maxRecDepth 4000 in
theorem s_X6_tickOfFirstCut_16 {p : Program} {l : Launch} {e : Env} {s : State} {m : MethodId} {args : Array Value} {below : List Frame} {meth : Method} {c : Code} {G : GT} (cx : CX p s m args c cX6_tickOfFirstCut 5 RX6 G) (hr : meth.sig.returnType = (some .int)) (hlk : meth.locks = false) (o0 : Nat) (x2 : Int32) (x3 : Int32) (hk_o0 : kd o0 = 5) : ∀ (n : Nat) (q : Hp × Int32), PF p l e (rmc 6 141) s m args below meth c 5 G 0 0 (QI below G args s) 16 [some (.ref (gad G o0)), none, some (.int x2), some (.int x3), some (.int q.2)] [] q.1 (lp (b_X6_tickOfFirstCut_16 o0 x2 x3) n q) := by
  refine f_lp (lvf := fun (q : Hp × Int32) => [some (.ref (gad G o0)), none, some (.int x2), some (.int x3), some (.int q.2)]) (hf := fun (q : Hp × Int32) => q.1) (fun k16 hk16 q => ?_)
  show PF p l e (rmc 6 141) s m args below meth c 5 G 0 0 (QI below G args s) 16 [some (.ref (gad G o0)), none, some (.int x2), some (.int x3), some (.int q.2)] [] q.1 (b_X6_tickOfFirstCut_16 o0 x2 x3 k16 q)
  unfold b_X6_tickOfFirstCut_16
  refine f_iload (pc := 16) cx dX6_tickOfFirstCut_16 rfl ?_
  refine f_iload_n (pc := 18) cx dX6_tickOfFirstCut_18 rfl rfl ?_
  refine f_icmp_gt (pc := 19) (tgt := 49) cx dX6_tickOfFirstCut_19 (by decide) (fun _ => ?_) (fun _ => ?_)
  · refine f_bipush (pc := 49) cx dX6_tickOfFirstCut_49 kc_bipush_m2 ?_
    exact f_iret cx hr hlk rfl dX6_tickOfFirstCut_51
  · refine f_aload_n (pc := 22) cx dX6_tickOfFirstCut_22 rfl rfl ?_
    refine g_X6_12 (pc := 23) cx hk_o0 dX6_tickOfFirstCut_23 ?_
    refine f_bind (fun r1 hr1 => ?_)
    refine k_X6_49 (pc := 26) cx (c_X8_tick l G _ (o0 + 1) (kf_5_0 hk_o0) r1 hr1) (kf_5_0 hk_o0) ⟨by decide, by decide⟩ ⟨Nat.zero_le _, Nat.zero_le _⟩ (Nat.le_of_ble_eq_true rfl) dX6_tickOfFirstCut_26 ?_
    refine f_aload_n (pc := 29) cx dX6_tickOfFirstCut_29 rfl rfl ?_
    refine g_X6_12 (pc := 30) cx hk_o0 dX6_tickOfFirstCut_30 ?_
    refine f_bind (fun r2 hr2 => ?_)
    refine k_X6_66 (pc := 33) cx (c_X8_cuts l G _ (o0 + 1) (kf_5_0 hk_o0) r2 hr2) (kf_5_0 hk_o0) ⟨by decide, by decide⟩ ⟨Nat.zero_le _, Nat.zero_le _⟩ (Nat.le_of_ble_eq_true rfl) dX6_tickOfFirstCut_33 ?_
    refine f_iload_n (pc := 36) cx dX6_tickOfFirstCut_36 rfl rfl ?_
    refine f_icmp_le (pc := 37) (tgt := 43) cx dX6_tickOfFirstCut_37 (by decide) (fun _ => ?_) (fun _ => ?_)
    · refine f_iinc4 (pc := 43) cx dX6_tickOfFirstCut_43 kc_iconst_1 (by decide) rfl ?_
      refine f_goto (pc := 46) (tgt := 16) cx dX6_tickOfFirstCut_46 (by decide) ?_
      exact f_weak (LSb.s (LSb.n (LSb.s (LSb.s (LSb.s LSb.e))))) (hk16 (r2.2, q.2 + 1))
    · refine f_iload (pc := 40) cx dX6_tickOfFirstCut_40 rfl ?_
      exact f_iret cx hr hlk rfl dX6_tickOfFirstCut_42
set_option maxRecDepth 4000 in
theorem s_X6_tickOfFirstCut {p : Program} {l : Launch} {e : Env} {s : State} {m : MethodId} {args : Array Value} {below : List Frame} {meth : Method} {c : Code} {G : GT} (cx : CX p s m args c cX6_tickOfFirstCut 5 RX6 G) (hr : meth.sig.returnType = (some .int)) (hlk : meth.locks = false) (h : Hp) (o0 : Nat) (o1 : Nat) (x2 : Int32) (hk_o0 : kd o0 = 5) (hk_o1 : kd o1 = 7) : PF p l e (rmc 6 141) s m args below meth c 5 G 0 0 (QI below G args s) 0 [some (.ref (gad G o0)), some (.ref (gad G o1)), some (.int x2), none, none] [] h (p_X6_tickOfFirstCut h o0 o1 x2) := by
  unfold p_X6_tickOfFirstCut
  refine f_aload_n (pc := 0) cx dX6_tickOfFirstCut_0 rfl rfl ?_
  refine f_aload_n (pc := 1) cx dX6_tickOfFirstCut_1 rfl rfl ?_
  refine f_bind (fun r3 hr3 => ?_)
  refine k_X6_46 (pc := 2) cx (c_X6_begin l G _ o0 o1 hk_o0 hk_o1 r3 hr3) hk_o0 ⟨by decide, by decide⟩ ⟨Nat.zero_le _, Nat.zero_le _⟩ (Nat.le_of_ble_eq_true rfl) dX6_tickOfFirstCut_2 ?_
  refine f_aload_n (pc := 5) cx dX6_tickOfFirstCut_5 rfl rfl ?_
  refine g_X6_12 (pc := 6) cx hk_o0 dX6_tickOfFirstCut_6 ?_
  refine f_bind (fun r4 hr4 => ?_)
  refine k_X6_66 (pc := 9) cx (c_X8_cuts l G _ (o0 + 1) (kf_5_0 hk_o0) r4 hr4) (kf_5_0 hk_o0) ⟨by decide, by decide⟩ ⟨Nat.zero_le _, Nat.zero_le _⟩ (Nat.le_of_ble_eq_true rfl) dX6_tickOfFirstCut_9 ?_
  refine f_istore3 (pc := 12) cx dX6_tickOfFirstCut_12 (by decide) rfl ?_
  refine f_iconst (pc := 13) cx dX6_tickOfFirstCut_13 kc_iconst_1 ?_
  refine f_istore4 (pc := 14) cx dX6_tickOfFirstCut_14 (by decide) rfl ?_
  exact f_weak (LSb.s (LSb.n (LSb.s (LSb.s (LSb.s LSb.e))))) (s_X6_tickOfFirstCut_16 cx hr hlk o0 x2 r4.1 hk_o0 FU (r4.2, 1))
set_option maxRecDepth 4000 in
theorem c_X6_tickOfFirstCut (l : Launch) (G : GT) (h : Hp) (o0 : Nat) (o1 : Nat) (x2 : Int32) (hk_o0 : kd o0 = 5) (hk_o1 : kd o1 = 7) : CtI l G yX6_tickOfFirstCut cX6_tickOfFirstCut 5 (some .int) 6 141 [.ref (gad G o0), .ref (gad G o1), .int x2] h (p_X6_tickOfFirstCut h o0 o1 x2) := fun a ha => Ct.of (lv := [some (.ref (gad G o0)), some (.ref (gad G o1)), some (.int x2), none, none]) (by decide) rfl (Nat.le_of_ble_eq_true rfl) rfl (fun p e s m args below meth c cx hr hlk => s_X6_tickOfFirstCut cx hr hlk h o0 o1 x2 hk_o0 hk_o1 a ha)
def b_X6_limitWithoutPushes_19 (o0 : Nat) (x2 : Int32) (k19 : Hp × Int32 → Option (Int32 × Hp)) (q : Hp × Int32) : Option (Int32 × Hp) :=
  if x2 ≤ q.2 then (nv (if (q.1 (o0 + 1) 10) < (tbv 1 (Int32.toNatClampNeg 5)) then (tbv 1 (Int32.toNatClampNeg 5)) else (q.1 (o0 + 1) 10)) fun v1 => if (tbv 2 (Int32.toNatClampNeg 5)) < v1 then (some ((-2), q.1)) else (some (v1, q.1))) else (Option.bind (p_X8_tick q.1 (o0 + 1)) fun r2 => k19 (r2, q.2 + 1))
def p_X6_limitWithoutPushes (h : Hp) (o0 : Nat) (o1 : Nat) (x2 : Int32) : Option (Int32 × Hp) :=
  Option.bind (p_X6_begin h o0 o1) fun r3 => nv (hp r3 (o0 + 1 + 1) 5 200) fun h4 => lp (b_X6_limitWithoutPushes_19 o0 x2) FU (h4, 0)
set_option maxRecDepth 4000 in
theorem s_X6_limitWithoutPushes_19 {p : Program} {l : Launch} {e : Env} {s : State} {m : MethodId} {args : Array Value} {below : List Frame} {meth : Method} {c : Code} {G : GT} (cx : CX p s m args c cX6_limitWithoutPushes 4 RX6 G) (hr : meth.sig.returnType = (some .int)) (hlk : meth.locks = false) (o0 : Nat) (x2 : Int32) (hk_o0 : kd o0 = 5) : ∀ (n : Nat) (q : Hp × Int32), PF p l e (rmc 6 141) s m args below meth c 4 G 0 0 (QI below G args s) 19 [some (.ref (gad G o0)), none, some (.int x2), some (.int q.2)] [] q.1 (lp (b_X6_limitWithoutPushes_19 o0 x2) n q) := by
  refine f_lp (lvf := fun (q : Hp × Int32) => [some (.ref (gad G o0)), none, some (.int x2), some (.int q.2)]) (hf := fun (q : Hp × Int32) => q.1) (fun k19 hk19 q => ?_)
  show PF p l e (rmc 6 141) s m args below meth c 4 G 0 0 (QI below G args s) 19 [some (.ref (gad G o0)), none, some (.int x2), some (.int q.2)] [] q.1 (b_X6_limitWithoutPushes_19 o0 x2 k19 q)
  unfold b_X6_limitWithoutPushes_19
  refine f_iload_n (pc := 19) cx dX6_limitWithoutPushes_19 rfl rfl ?_
  refine f_iload_n (pc := 20) cx dX6_limitWithoutPushes_20 rfl rfl ?_
  refine f_icmp_ge (pc := 21) (tgt := 37) cx dX6_limitWithoutPushes_21 (by decide) (fun _ => ?_) (fun _ => ?_)
  · refine f_aload_n (pc := 37) cx dX6_limitWithoutPushes_37 rfl rfl ?_
    refine g_X6_12 (pc := 38) cx hk_o0 dX6_limitWithoutPushes_38 ?_
    refine g_X6_26 (pc := 41) cx (kf_5_0 hk_o0) dX6_limitWithoutPushes_41 ?_
    refine g_X6_72 (pc := 44) cx dX6_limitWithoutPushes_44 ?_
    refine f_iconst (pc := 47) cx dX6_limitWithoutPushes_47 kc_iconst_5 ?_
    refine f_tald (pc := 48) (j := 1) cx (by decide) (by decide) dX6_limitWithoutPushes_48 ?_
    refine k_X6_75 (pc := 49) cx ⟨by decide, by decide⟩ ⟨Nat.zero_le _, Nat.zero_le _⟩ (Nat.le_of_ble_eq_true rfl) dX6_limitWithoutPushes_49 ?_
    refine f_nvi (fun v1 => ?_)
    refine f_istore3 (pc := 52) cx dX6_limitWithoutPushes_52 (by decide) rfl ?_
    refine f_iload_n (pc := 53) cx dX6_limitWithoutPushes_53 rfl rfl ?_
    refine g_X6_81 (pc := 54) cx dX6_limitWithoutPushes_54 ?_
    refine f_iconst (pc := 57) cx dX6_limitWithoutPushes_57 kc_iconst_5 ?_
    refine f_tald (pc := 58) (j := 2) cx (by decide) (by decide) dX6_limitWithoutPushes_58 ?_
    refine f_icmp_gt (pc := 59) (tgt := 66) cx dX6_limitWithoutPushes_59 (by decide) (fun _ => ?_) (fun _ => ?_)
    · refine f_bipush (pc := 66) cx dX6_limitWithoutPushes_66 kc_bipush_m2 ?_
      exact f_iret cx hr hlk rfl dX6_limitWithoutPushes_68
    · refine f_iload_n (pc := 62) cx dX6_limitWithoutPushes_62 rfl rfl ?_
      refine f_goto (pc := 63) (tgt := 68) cx dX6_limitWithoutPushes_63 (by decide) ?_
      exact f_iret cx hr hlk rfl dX6_limitWithoutPushes_68
  · refine f_aload_n (pc := 24) cx dX6_limitWithoutPushes_24 rfl rfl ?_
    refine g_X6_12 (pc := 25) cx hk_o0 dX6_limitWithoutPushes_25 ?_
    refine f_bind (fun r2 hr2 => ?_)
    refine k_X6_49 (pc := 28) cx (c_X8_tick l G _ (o0 + 1) (kf_5_0 hk_o0) r2 hr2) (kf_5_0 hk_o0) ⟨by decide, by decide⟩ ⟨Nat.zero_le _, Nat.zero_le _⟩ (Nat.le_of_ble_eq_true rfl) dX6_limitWithoutPushes_28 ?_
    refine f_iinc3 (pc := 31) cx dX6_limitWithoutPushes_31 kc_iconst_1 (by decide) rfl ?_
    refine f_goto (pc := 34) (tgt := 19) cx dX6_limitWithoutPushes_34 (by decide) ?_
    exact f_weak (LSb.s (LSb.n (LSb.s (LSb.s LSb.e)))) (hk19 (r2, q.2 + 1))
set_option maxRecDepth 4000 in
theorem s_X6_limitWithoutPushes {p : Program} {l : Launch} {e : Env} {s : State} {m : MethodId} {args : Array Value} {below : List Frame} {meth : Method} {c : Code} {G : GT} (cx : CX p s m args c cX6_limitWithoutPushes 4 RX6 G) (hr : meth.sig.returnType = (some .int)) (hlk : meth.locks = false) (h : Hp) (o0 : Nat) (o1 : Nat) (x2 : Int32) (hk_o0 : kd o0 = 5) (hk_o1 : kd o1 = 7) : PF p l e (rmc 6 141) s m args below meth c 4 G 0 0 (QI below G args s) 0 [some (.ref (gad G o0)), some (.ref (gad G o1)), some (.int x2), none] [] h (p_X6_limitWithoutPushes h o0 o1 x2) := by
  unfold p_X6_limitWithoutPushes
  refine f_aload_n (pc := 0) cx dX6_limitWithoutPushes_0 rfl rfl ?_
  refine f_aload_n (pc := 1) cx dX6_limitWithoutPushes_1 rfl rfl ?_
  refine f_bind (fun r3 hr3 => ?_)
  refine k_X6_46 (pc := 2) cx (c_X6_begin l G _ o0 o1 hk_o0 hk_o1 r3 hr3) hk_o0 ⟨by decide, by decide⟩ ⟨Nat.zero_le _, Nat.zero_le _⟩ (Nat.le_of_ble_eq_true rfl) dX6_limitWithoutPushes_2 ?_
  refine f_aload_n (pc := 5) cx dX6_limitWithoutPushes_5 rfl rfl ?_
  refine g_X6_12 (pc := 6) cx hk_o0 dX6_limitWithoutPushes_6 ?_
  refine g_X6_69 (pc := 9) cx (kf_5_0 hk_o0) dX6_limitWithoutPushes_9 ?_
  refine f_iconst (pc := 12) cx dX6_limitWithoutPushes_12 kc_iconst_5 ?_
  refine f_sipush (pc := 13) cx dX6_limitWithoutPushes_13 kc_sipush_200 ?_
  refine f_iastk (pc := 16) (j := 5) (n := 8) cx (kf_7_0 (kf_5_0 hk_o0)) (by decide) (by decide) kl_5 dX6_limitWithoutPushes_16 ?_
  refine f_nvh (fun h4 => ?_)
  refine f_iconst (pc := 17) cx dX6_limitWithoutPushes_17 kc_iconst_0 ?_
  refine f_istore3 (pc := 18) cx dX6_limitWithoutPushes_18 (by decide) rfl ?_
  exact f_weak (LSb.s (LSb.n (LSb.s (LSb.s LSb.e)))) (s_X6_limitWithoutPushes_19 cx hr hlk o0 x2 hk_o0 FU (h4, 0))
set_option maxRecDepth 4000 in
theorem c_X6_limitWithoutPushes (l : Launch) (G : GT) (h : Hp) (o0 : Nat) (o1 : Nat) (x2 : Int32) (hk_o0 : kd o0 = 5) (hk_o1 : kd o1 = 7) : CtI l G yX6_limitWithoutPushes cX6_limitWithoutPushes 4 (some .int) 6 141 [.ref (gad G o0), .ref (gad G o1), .int x2] h (p_X6_limitWithoutPushes h o0 o1 x2) := fun a ha => Ct.of (lv := [some (.ref (gad G o0)), some (.ref (gad G o1)), some (.int x2), none]) (by decide) rfl (Nat.le_of_ble_eq_true rfl) rfl (fun p e s m args below meth c cx hr hlk => s_X6_limitWithoutPushes cx hr hlk h o0 o1 x2 hk_o0 hk_o1 a ha)
def b_X6_targetOfMostBytes_54 (k15 : Hp × Int32 × Int32 × Int32 × Int32 → Option (Int32 × Hp)) (o0 : Nat) (o1 : Nat) (x2 : Int32) (x3 : Int32) (x4 : Int32) (x5 : Int32) (x6 : Int32) (k54 : Hp × Int32 → Option (Int32 × Hp)) (q : Hp × Int32) : Option (Int32 × Hp) :=
  if x2 ≤ q.2 then (Option.bind (p_X1_bytesSentFrom q.1 (o0 + 1 + 2) (q.1 o0 1)) fun r1 => if r1.1 ≤ x4 then (nv ((r1.2 (o0 + 1) 12) + 1) fun v2 => k15 (r1.2, x3, x4, v2, x6 + 1)) else (nv ((r1.2 (o0 + 1) 12) + 1) fun v3 => k15 (r1.2, x5, r1.1, v3, x6 + 1))) else (Option.bind (p_X8_tick q.1 (o0 + 1)) fun r4 => k54 (r4, q.2 + 1))
def b_X6_targetOfMostBytes_15 (o0 : Nat) (o1 : Nat) (x2 : Int32) (k15 : Hp × Int32 × Int32 × Int32 × Int32 → Option (Int32 × Hp)) (q : Hp × Int32 × Int32 × Int32 × Int32) : Option (Int32 × Hp) :=
  if (tbv 2 (Int32.toNatClampNeg 0)) ≤ q.2.2.2.2 then (some (q.2.1, q.1)) else (if (tbv 2 (Int32.toNatClampNeg 0)) < q.2.2.2.1 then (some (q.2.1, q.1)) else (Option.bind (p_X6_begin q.1 o0 o1) fun r5 => nv (hp r5 (o0 + 1 + 1) 0 q.2.2.2.1) fun h6 => lp (b_X6_targetOfMostBytes_54 k15 o0 o1 x2 q.2.1 q.2.2.1 q.2.2.2.1 q.2.2.2.2) FU (h6, 0)))
def p_X6_targetOfMostBytes (h : Hp) (o0 : Nat) (o1 : Nat) (x2 : Int32) : Option (Int32 × Hp) :=
  nv (tbv 1 (Int32.toNatClampNeg 0)) fun v7 => lp (b_X6_targetOfMostBytes_15 o0 o1 x2) FU (h, v7, (-1), v7, 0)
set_option maxRecDepth 4000 in
theorem s_X6_targetOfMostBytes_54 {p : Program} {l : Launch} {e : Env} {s : State} {m : MethodId} {args : Array Value} {below : List Frame} {meth : Method} {c : Code} {G : GT} (cx : CX p s m args c cX6_targetOfMostBytes 8 RX6 G) (hr : meth.sig.returnType = (some .int)) (hlk : meth.locks = false) (o0 : Nat) (o1 : Nat) (x2 : Int32) (x3 : Int32) (x4 : Int32) (x5 : Int32) (x6 : Int32) (hk_o0 : kd o0 = 5) (hk_o1 : kd o1 = 7) (k15 : Hp × Int32 × Int32 × Int32 × Int32 → Option (Int32 × Hp)) (hk15 : ∀ (q : Hp × Int32 × Int32 × Int32 × Int32), PF p l e (rmc 6 141) s m args below meth c 8 G 0 0 (QI below G args s) 15 [some (.ref (gad G o0)), some (.ref (gad G o1)), some (.int x2), some (.int q.2.1), some (.int q.2.2.1), some (.int q.2.2.2.1), some (.int q.2.2.2.2), none] [] q.1 (k15 q)) : ∀ (n : Nat) (q : Hp × Int32), PF p l e (rmc 6 141) s m args below meth c 8 G 0 0 (QI below G args s) 54 [some (.ref (gad G o0)), some (.ref (gad G o1)), some (.int x2), some (.int x3), some (.int x4), some (.int x5), some (.int x6), some (.int q.2)] [] q.1 (lp (b_X6_targetOfMostBytes_54 k15 o0 o1 x2 x3 x4 x5 x6) n q) := by
  refine f_lp (lvf := fun (q : Hp × Int32) => [some (.ref (gad G o0)), some (.ref (gad G o1)), some (.int x2), some (.int x3), some (.int x4), some (.int x5), some (.int x6), some (.int q.2)]) (hf := fun (q : Hp × Int32) => q.1) (fun k54 hk54 q => ?_)
  show PF p l e (rmc 6 141) s m args below meth c 8 G 0 0 (QI below G args s) 54 [some (.ref (gad G o0)), some (.ref (gad G o1)), some (.int x2), some (.int x3), some (.int x4), some (.int x5), some (.int x6), some (.int q.2)] [] q.1 (b_X6_targetOfMostBytes_54 k15 o0 o1 x2 x3 x4 x5 x6 k54 q)
  unfold b_X6_targetOfMostBytes_54
  refine f_iload (pc := 54) cx dX6_targetOfMostBytes_54 rfl ?_
  refine f_iload_n (pc := 56) cx dX6_targetOfMostBytes_56 rfl rfl ?_
  refine f_icmp_ge (pc := 57) (tgt := 73) cx dX6_targetOfMostBytes_57 (by decide) (fun _ => ?_) (fun _ => ?_)
  · refine f_aload_n (pc := 73) cx dX6_targetOfMostBytes_73 rfl rfl ?_
    refine g_X6_12 (pc := 74) cx hk_o0 dX6_targetOfMostBytes_74 ?_
    refine g_X6_33 (pc := 77) cx (kf_5_0 hk_o0) dX6_targetOfMostBytes_77 ?_
    refine f_aload_n (pc := 80) cx dX6_targetOfMostBytes_80 rfl rfl ?_
    refine g_X6_18 (pc := 81) cx hk_o0 dX6_targetOfMostBytes_81 ?_
    refine f_bind (fun r1 hr1 => ?_)
    refine k_X6_84 (pc := 84) cx (c_X1_bytesSentFrom l G _ (o0 + 1 + 2) (q.1 o0 1) (kf_7_1 (kf_5_0 hk_o0)) r1 hr1) (kf_7_1 (kf_5_0 hk_o0)) ⟨by decide, by decide⟩ ⟨Nat.zero_le _, Nat.zero_le _⟩ (Nat.le_of_ble_eq_true rfl) dX6_targetOfMostBytes_84 ?_
    refine f_istore7 (pc := 87) cx dX6_targetOfMostBytes_87 (by decide) rfl ?_
    refine f_iload (pc := 89) cx dX6_targetOfMostBytes_89 rfl ?_
    refine f_iload (pc := 91) cx dX6_targetOfMostBytes_91 rfl ?_
    refine f_icmp_le (pc := 93) (tgt := 103) cx dX6_targetOfMostBytes_93 (by decide) (fun _ => ?_) (fun _ => ?_)
    · refine f_aload_n (pc := 103) cx dX6_targetOfMostBytes_103 rfl rfl ?_
      refine g_X6_12 (pc := 104) cx hk_o0 dX6_targetOfMostBytes_104 ?_
      refine g_X6_30 (pc := 107) cx (kf_5_0 hk_o0) dX6_targetOfMostBytes_107 ?_
      refine f_iconst (pc := 110) cx dX6_targetOfMostBytes_110 kc_iconst_1 ?_
      refine f_iadd (pc := 111) cx dX6_targetOfMostBytes_111 ?_
      refine f_nvi (fun v2 => ?_)
      refine f_istore5 (pc := 112) cx dX6_targetOfMostBytes_112 (by decide) rfl ?_
      refine f_iinc6 (pc := 114) cx dX6_targetOfMostBytes_114 kc_iconst_1 (by decide) rfl ?_
      refine f_goto (pc := 117) (tgt := 15) cx dX6_targetOfMostBytes_117 (by decide) ?_
      exact f_weak (LSb.s (LSb.s (LSb.s (LSb.s (LSb.s (LSb.s (LSb.s (LSb.n LSb.e)))))))) (hk15 (r1.2, x3, x4, v2, x6 + 1))
    · refine f_iload (pc := 96) cx dX6_targetOfMostBytes_96 rfl ?_
      refine f_istore4 (pc := 98) cx dX6_targetOfMostBytes_98 (by decide) rfl ?_
      refine f_iload (pc := 100) cx dX6_targetOfMostBytes_100 rfl ?_
      refine f_istore3 (pc := 102) cx dX6_targetOfMostBytes_102 (by decide) rfl ?_
      refine f_aload_n (pc := 103) cx dX6_targetOfMostBytes_103 rfl rfl ?_
      refine g_X6_12 (pc := 104) cx hk_o0 dX6_targetOfMostBytes_104 ?_
      refine g_X6_30 (pc := 107) cx (kf_5_0 hk_o0) dX6_targetOfMostBytes_107 ?_
      refine f_iconst (pc := 110) cx dX6_targetOfMostBytes_110 kc_iconst_1 ?_
      refine f_iadd (pc := 111) cx dX6_targetOfMostBytes_111 ?_
      refine f_nvi (fun v3 => ?_)
      refine f_istore5 (pc := 112) cx dX6_targetOfMostBytes_112 (by decide) rfl ?_
      refine f_iinc6 (pc := 114) cx dX6_targetOfMostBytes_114 kc_iconst_1 (by decide) rfl ?_
      refine f_goto (pc := 117) (tgt := 15) cx dX6_targetOfMostBytes_117 (by decide) ?_
      exact f_weak (LSb.s (LSb.s (LSb.s (LSb.s (LSb.s (LSb.s (LSb.s (LSb.n LSb.e)))))))) (hk15 (r1.2, x5, r1.1, v3, x6 + 1))
  · refine f_aload_n (pc := 60) cx dX6_targetOfMostBytes_60 rfl rfl ?_
    refine g_X6_12 (pc := 61) cx hk_o0 dX6_targetOfMostBytes_61 ?_
    refine f_bind (fun r4 hr4 => ?_)
    refine k_X6_49 (pc := 64) cx (c_X8_tick l G _ (o0 + 1) (kf_5_0 hk_o0) r4 hr4) (kf_5_0 hk_o0) ⟨by decide, by decide⟩ ⟨Nat.zero_le _, Nat.zero_le _⟩ (Nat.le_of_ble_eq_true rfl) dX6_targetOfMostBytes_64 ?_
    refine f_iinc7 (pc := 67) cx dX6_targetOfMostBytes_67 kc_iconst_1 (by decide) rfl ?_
    refine f_goto (pc := 70) (tgt := 54) cx dX6_targetOfMostBytes_70 (by decide) ?_
    exact f_weak (LSb.s (LSb.s (LSb.s (LSb.s (LSb.s (LSb.s (LSb.s (LSb.s LSb.e)))))))) (hk54 (r4, q.2 + 1))
set_option maxRecDepth 4000 in
theorem s_X6_targetOfMostBytes_15 {p : Program} {l : Launch} {e : Env} {s : State} {m : MethodId} {args : Array Value} {below : List Frame} {meth : Method} {c : Code} {G : GT} (cx : CX p s m args c cX6_targetOfMostBytes 8 RX6 G) (hr : meth.sig.returnType = (some .int)) (hlk : meth.locks = false) (o0 : Nat) (o1 : Nat) (x2 : Int32) (hk_o0 : kd o0 = 5) (hk_o1 : kd o1 = 7) : ∀ (n : Nat) (q : Hp × Int32 × Int32 × Int32 × Int32), PF p l e (rmc 6 141) s m args below meth c 8 G 0 0 (QI below G args s) 15 [some (.ref (gad G o0)), some (.ref (gad G o1)), some (.int x2), some (.int q.2.1), some (.int q.2.2.1), some (.int q.2.2.2.1), some (.int q.2.2.2.2), none] [] q.1 (lp (b_X6_targetOfMostBytes_15 o0 o1 x2) n q) := by
  refine f_lp (lvf := fun (q : Hp × Int32 × Int32 × Int32 × Int32) => [some (.ref (gad G o0)), some (.ref (gad G o1)), some (.int x2), some (.int q.2.1), some (.int q.2.2.1), some (.int q.2.2.2.1), some (.int q.2.2.2.2), none]) (hf := fun (q : Hp × Int32 × Int32 × Int32 × Int32) => q.1) (fun k15 hk15 q => ?_)
  show PF p l e (rmc 6 141) s m args below meth c 8 G 0 0 (QI below G args s) 15 [some (.ref (gad G o0)), some (.ref (gad G o1)), some (.int x2), some (.int q.2.1), some (.int q.2.2.1), some (.int q.2.2.2.1), some (.int q.2.2.2.2), none] [] q.1 (b_X6_targetOfMostBytes_15 o0 o1 x2 k15 q)
  unfold b_X6_targetOfMostBytes_15
  refine f_iload (pc := 15) cx dX6_targetOfMostBytes_15 rfl ?_
  refine g_X6_81 (pc := 17) cx dX6_targetOfMostBytes_17 ?_
  refine f_iconst (pc := 20) cx dX6_targetOfMostBytes_20 kc_iconst_0 ?_
  refine f_tald (pc := 21) (j := 2) cx (by decide) (by decide) dX6_targetOfMostBytes_21 ?_
  refine f_icmp_ge (pc := 22) (tgt := 120) cx dX6_targetOfMostBytes_22 (by decide) (fun _ => ?_) (fun _ => ?_)
  · refine f_iload_n (pc := 120) cx dX6_targetOfMostBytes_120 rfl rfl ?_
    exact f_iret cx hr hlk rfl dX6_targetOfMostBytes_121
  · refine f_iload (pc := 25) cx dX6_targetOfMostBytes_25 rfl ?_
    refine g_X6_81 (pc := 27) cx dX6_targetOfMostBytes_27 ?_
    refine f_iconst (pc := 30) cx dX6_targetOfMostBytes_30 kc_iconst_0 ?_
    refine f_tald (pc := 31) (j := 2) cx (by decide) (by decide) dX6_targetOfMostBytes_31 ?_
    refine f_icmp_gt (pc := 32) (tgt := 120) cx dX6_targetOfMostBytes_32 (by decide) (fun _ => ?_) (fun _ => ?_)
    · refine f_iload_n (pc := 120) cx dX6_targetOfMostBytes_120 rfl rfl ?_
      exact f_iret cx hr hlk rfl dX6_targetOfMostBytes_121
    · refine f_aload_n (pc := 35) cx dX6_targetOfMostBytes_35 rfl rfl ?_
      refine f_aload_n (pc := 36) cx dX6_targetOfMostBytes_36 rfl rfl ?_
      refine f_bind (fun r5 hr5 => ?_)
      refine k_X6_46 (pc := 37) cx (c_X6_begin l G _ o0 o1 hk_o0 hk_o1 r5 hr5) hk_o0 ⟨by decide, by decide⟩ ⟨Nat.zero_le _, Nat.zero_le _⟩ (Nat.le_of_ble_eq_true rfl) dX6_targetOfMostBytes_37 ?_
      refine f_aload_n (pc := 40) cx dX6_targetOfMostBytes_40 rfl rfl ?_
      refine g_X6_12 (pc := 41) cx hk_o0 dX6_targetOfMostBytes_41 ?_
      refine g_X6_69 (pc := 44) cx (kf_5_0 hk_o0) dX6_targetOfMostBytes_44 ?_
      refine f_iconst (pc := 47) cx dX6_targetOfMostBytes_47 kc_iconst_0 ?_
      refine f_iload (pc := 48) cx dX6_targetOfMostBytes_48 rfl ?_
      refine f_iastk (pc := 50) (j := 0) (n := 8) cx (kf_7_0 (kf_5_0 hk_o0)) (by decide) (by decide) kl_0 dX6_targetOfMostBytes_50 ?_
      refine f_nvh (fun h6 => ?_)
      refine f_iconst (pc := 51) cx dX6_targetOfMostBytes_51 kc_iconst_0 ?_
      refine f_istore7 (pc := 52) cx dX6_targetOfMostBytes_52 (by decide) rfl ?_
      exact f_weak (LSb.s (LSb.s (LSb.s (LSb.s (LSb.s (LSb.s (LSb.s (LSb.s LSb.e)))))))) (s_X6_targetOfMostBytes_54 cx hr hlk o0 o1 x2 q.2.1 q.2.2.1 q.2.2.2.1 q.2.2.2.2 hk_o0 hk_o1 k15 hk15 FU (h6, 0))
set_option maxRecDepth 4000 in
theorem s_X6_targetOfMostBytes {p : Program} {l : Launch} {e : Env} {s : State} {m : MethodId} {args : Array Value} {below : List Frame} {meth : Method} {c : Code} {G : GT} (cx : CX p s m args c cX6_targetOfMostBytes 8 RX6 G) (hr : meth.sig.returnType = (some .int)) (hlk : meth.locks = false) (h : Hp) (o0 : Nat) (o1 : Nat) (x2 : Int32) (hk_o0 : kd o0 = 5) (hk_o1 : kd o1 = 7) : PF p l e (rmc 6 141) s m args below meth c 8 G 0 0 (QI below G args s) 0 [some (.ref (gad G o0)), some (.ref (gad G o1)), some (.int x2), none, none, none, none, none] [] h (p_X6_targetOfMostBytes h o0 o1 x2) := by
  unfold p_X6_targetOfMostBytes
  refine g_X6_72 (pc := 0) cx dX6_targetOfMostBytes_0 ?_
  refine f_iconst (pc := 3) cx dX6_targetOfMostBytes_3 kc_iconst_0 ?_
  refine f_tald (pc := 4) (j := 1) cx (by decide) (by decide) dX6_targetOfMostBytes_4 ?_
  refine f_nvi (fun v7 => ?_)
  refine f_istore3 (pc := 5) cx dX6_targetOfMostBytes_5 (by decide) rfl ?_
  refine f_iconst (pc := 6) cx dX6_targetOfMostBytes_6 kc_iconst_m1 ?_
  refine f_istore4 (pc := 7) cx dX6_targetOfMostBytes_7 (by decide) rfl ?_
  refine f_iload_n (pc := 9) cx dX6_targetOfMostBytes_9 rfl rfl ?_
  refine f_istore5 (pc := 10) cx dX6_targetOfMostBytes_10 (by decide) rfl ?_
  refine f_iconst (pc := 12) cx dX6_targetOfMostBytes_12 kc_iconst_0 ?_
  refine f_istore6 (pc := 13) cx dX6_targetOfMostBytes_13 (by decide) rfl ?_
  exact f_weak (LSb.s (LSb.s (LSb.s (LSb.s (LSb.s (LSb.s (LSb.s (LSb.n LSb.e)))))))) (s_X6_targetOfMostBytes_15 cx hr hlk o0 o1 x2 hk_o0 hk_o1 FU (h, v7, (-1), v7, 0))
set_option maxRecDepth 4000 in
theorem c_X6_targetOfMostBytes (l : Launch) (G : GT) (h : Hp) (o0 : Nat) (o1 : Nat) (x2 : Int32) (hk_o0 : kd o0 = 5) (hk_o1 : kd o1 = 7) : CtI l G yX6_targetOfMostBytes cX6_targetOfMostBytes 8 (some .int) 6 141 [.ref (gad G o0), .ref (gad G o1), .int x2] h (p_X6_targetOfMostBytes h o0 o1 x2) := fun a ha => Ct.of (lv := [some (.ref (gad G o0)), some (.ref (gad G o1)), some (.int x2), none, none, none, none, none]) (by decide) rfl (Nat.le_of_ble_eq_true rfl) rfl (fun p e s m args below meth c cx hr hlk => s_X6_targetOfMostBytes cx hr hlk h o0 o1 x2 hk_o0 hk_o1 a ha)
def b_X6_sentInTurn_7 (o0 : Nat) (x2 : Int32) (k7 : Hp × Int32 → Option (Int32 × Hp)) (q : Hp × Int32) : Option (Int32 × Hp) :=
  if 200 ≤ q.2 then (some ((-2), q.1)) else (if (q.1 (o0 + 1) 8) ≤ 0 then (some ((-2), q.1)) else (Option.bind (p_X8_serve q.1 (o0 + 1)) fun r1 => if r1.1 < 0 then (k7 (r1.2, q.2 + 1)) else (if q.2 = x2 then (some (r1.1, r1.2)) else (k7 (r1.2, q.2 + 1)))))
def p_X6_sentInTurn (h : Hp) (o0 : Nat) (o1 : Nat) (x2 : Int32) : Option (Int32 × Hp) :=
  Option.bind (p_X6_begin h o0 o1) fun r2 => lp (b_X6_sentInTurn_7 o0 x2) FU (r2, 0)
set_option maxRecDepth 4000 in
theorem s_X6_sentInTurn_7 {p : Program} {l : Launch} {e : Env} {s : State} {m : MethodId} {args : Array Value} {below : List Frame} {meth : Method} {c : Code} {G : GT} (cx : CX p s m args c cX6_sentInTurn 5 RX6 G) (hr : meth.sig.returnType = (some .int)) (hlk : meth.locks = false) (o0 : Nat) (x2 : Int32) (hk_o0 : kd o0 = 5) : ∀ (n : Nat) (q : Hp × Int32), PF p l e (rmc 5 120) s m args below meth c 5 G 0 0 (QI below G args s) 7 [some (.ref (gad G o0)), none, some (.int x2), some (.int q.2), none] [] q.1 (lp (b_X6_sentInTurn_7 o0 x2) n q) := by
  refine f_lp (lvf := fun (q : Hp × Int32) => [some (.ref (gad G o0)), none, some (.int x2), some (.int q.2), none]) (hf := fun (q : Hp × Int32) => q.1) (fun k7 hk7 q => ?_)
  show PF p l e (rmc 5 120) s m args below meth c 5 G 0 0 (QI below G args s) 7 [some (.ref (gad G o0)), none, some (.int x2), some (.int q.2), none] [] q.1 (b_X6_sentInTurn_7 o0 x2 k7 q)
  unfold b_X6_sentInTurn_7
  refine f_iload_n (pc := 7) cx dX6_sentInTurn_7 rfl rfl ?_
  refine f_sipush (pc := 8) cx dX6_sentInTurn_8 kc_sipush_200 ?_
  refine f_icmp_ge (pc := 11) (tgt := 52) cx dX6_sentInTurn_11 (by decide) (fun _ => ?_) (fun _ => ?_)
  · refine f_bipush (pc := 52) cx dX6_sentInTurn_52 kc_bipush_m2 ?_
    exact f_iret cx hr hlk rfl dX6_sentInTurn_54
  · refine f_aload_n (pc := 14) cx dX6_sentInTurn_14 rfl rfl ?_
    refine g_X6_12 (pc := 15) cx hk_o0 dX6_sentInTurn_15 ?_
    refine g_X6_87 (pc := 18) cx (kf_5_0 hk_o0) dX6_sentInTurn_18 ?_
    refine f_if_le (pc := 21) (tgt := 52) cx dX6_sentInTurn_21 (by decide) (fun _ => ?_) (fun _ => ?_)
    · refine f_bipush (pc := 52) cx dX6_sentInTurn_52 kc_bipush_m2 ?_
      exact f_iret cx hr hlk rfl dX6_sentInTurn_54
    · refine f_aload_n (pc := 24) cx dX6_sentInTurn_24 rfl rfl ?_
      refine g_X6_12 (pc := 25) cx hk_o0 dX6_sentInTurn_25 ?_
      refine f_bind (fun r1 hr1 => ?_)
      refine k_X6_90 (pc := 28) cx (c_X8_serve l G _ (o0 + 1) (kf_5_0 hk_o0) r1 hr1) (kf_5_0 hk_o0) ⟨by decide, by decide⟩ ⟨Nat.zero_le _, Nat.zero_le _⟩ (Nat.le_of_ble_eq_true rfl) dX6_sentInTurn_28 ?_
      refine f_istore4 (pc := 31) cx dX6_sentInTurn_31 (by decide) rfl ?_
      refine f_iload (pc := 33) cx dX6_sentInTurn_33 rfl ?_
      refine f_if_lt (pc := 35) (tgt := 46) cx dX6_sentInTurn_35 (by decide) (fun _ => ?_) (fun _ => ?_)
      · refine f_iinc3 (pc := 46) cx dX6_sentInTurn_46 kc_iconst_1 (by decide) rfl ?_
        refine f_goto (pc := 49) (tgt := 7) cx dX6_sentInTurn_49 (by decide) ?_
        exact f_weak (LSb.s (LSb.n (LSb.s (LSb.s (LSb.n LSb.e))))) (hk7 (r1.2, q.2 + 1))
      · refine f_iload_n (pc := 38) cx dX6_sentInTurn_38 rfl rfl ?_
        refine f_iload_n (pc := 39) cx dX6_sentInTurn_39 rfl rfl ?_
        refine f_icmp_ne (pc := 40) (tgt := 46) cx dX6_sentInTurn_40 (by decide) (fun _ => ?_) (fun _ => ?_)
        · refine f_iload (pc := 43) cx dX6_sentInTurn_43 rfl ?_
          exact f_iret cx hr hlk rfl dX6_sentInTurn_45
        · refine f_iinc3 (pc := 46) cx dX6_sentInTurn_46 kc_iconst_1 (by decide) rfl ?_
          refine f_goto (pc := 49) (tgt := 7) cx dX6_sentInTurn_49 (by decide) ?_
          exact f_weak (LSb.s (LSb.n (LSb.s (LSb.s (LSb.n LSb.e))))) (hk7 (r1.2, q.2 + 1))
set_option maxRecDepth 4000 in
theorem s_X6_sentInTurn {p : Program} {l : Launch} {e : Env} {s : State} {m : MethodId} {args : Array Value} {below : List Frame} {meth : Method} {c : Code} {G : GT} (cx : CX p s m args c cX6_sentInTurn 5 RX6 G) (hr : meth.sig.returnType = (some .int)) (hlk : meth.locks = false) (h : Hp) (o0 : Nat) (o1 : Nat) (x2 : Int32) (hk_o0 : kd o0 = 5) (hk_o1 : kd o1 = 7) : PF p l e (rmc 5 120) s m args below meth c 5 G 0 0 (QI below G args s) 0 [some (.ref (gad G o0)), some (.ref (gad G o1)), some (.int x2), none, none] [] h (p_X6_sentInTurn h o0 o1 x2) := by
  unfold p_X6_sentInTurn
  refine f_aload_n (pc := 0) cx dX6_sentInTurn_0 rfl rfl ?_
  refine f_aload_n (pc := 1) cx dX6_sentInTurn_1 rfl rfl ?_
  refine f_bind (fun r2 hr2 => ?_)
  refine k_X6_46 (pc := 2) cx (c_X6_begin l G _ o0 o1 hk_o0 hk_o1 r2 hr2) hk_o0 ⟨by decide, by decide⟩ ⟨Nat.zero_le _, Nat.zero_le _⟩ (Nat.le_of_ble_eq_true rfl) dX6_sentInTurn_2 ?_
  refine f_iconst (pc := 5) cx dX6_sentInTurn_5 kc_iconst_0 ?_
  refine f_istore3 (pc := 6) cx dX6_sentInTurn_6 (by decide) rfl ?_
  exact f_weak (LSb.s (LSb.n (LSb.s (LSb.s (LSb.n LSb.e))))) (s_X6_sentInTurn_7 cx hr hlk o0 x2 hk_o0 FU (r2, 0))
set_option maxRecDepth 4000 in
theorem c_X6_sentInTurn (l : Launch) (G : GT) (h : Hp) (o0 : Nat) (o1 : Nat) (x2 : Int32) (hk_o0 : kd o0 = 5) (hk_o1 : kd o1 = 7) : CtI l G yX6_sentInTurn cX6_sentInTurn 5 (some .int) 5 120 [.ref (gad G o0), .ref (gad G o1), .int x2] h (p_X6_sentInTurn h o0 o1 x2) := fun a ha => Ct.of (lv := [some (.ref (gad G o0)), some (.ref (gad G o1)), some (.int x2), none, none]) (by decide) rfl (Nat.le_of_ble_eq_true rfl) rfl (fun p e s m args below meth c cx hr hlk => s_X6_sentInTurn cx hr hlk h o0 o1 x2 hk_o0 hk_o1 a ha)
def p_X6_afterDrain (h : Hp) (o0 : Nat) (o1 : Nat) (x2 : Int32) (x3 : Int32) : Option (Int32 × Hp) :=
  Option.bind (p_X6_begin h o0 o1) fun r1 => Option.bind (p_X6_drainCopy r1 o0 x2) fun r2 => if x3 = 3 then (some (r2 (o0 + 1) 7, r2)) else (if x3 = 4 then (Option.bind (p_X1_greatestWaitFrom r2 (o0 + 1 + 2) (r2 o0 1)) fun r3 => some (r3.1, r3.2)) else (Option.bind (p_X6_tallyOf r2 o0 x3) fun r4 => some (r4.1, r4.2)))
set_option maxRecDepth 4000 in
theorem s_X6_afterDrain {p : Program} {l : Launch} {e : Env} {s : State} {m : MethodId} {args : Array Value} {below : List Frame} {meth : Method} {c : Code} {G : GT} (cx : CX p s m args c cX6_afterDrain 4 RX6 G) (hr : meth.sig.returnType = (some .int)) (hlk : meth.locks = false) (h : Hp) (o0 : Nat) (o1 : Nat) (x2 : Int32) (x3 : Int32) (hk_o0 : kd o0 = 5) (hk_o1 : kd o1 = 7) : PF p l e (rmc 6 142) s m args below meth c 4 G 0 0 (QI below G args s) 0 [some (.ref (gad G o0)), some (.ref (gad G o1)), some (.int x2), some (.int x3)] [] h (p_X6_afterDrain h o0 o1 x2 x3) := by
  unfold p_X6_afterDrain
  refine f_aload_n (pc := 0) cx dX6_afterDrain_0 rfl rfl ?_
  refine f_aload_n (pc := 1) cx dX6_afterDrain_1 rfl rfl ?_
  refine f_bind (fun r1 hr1 => ?_)
  refine k_X6_46 (pc := 2) cx (c_X6_begin l G _ o0 o1 hk_o0 hk_o1 r1 hr1) hk_o0 ⟨by decide, by decide⟩ ⟨Nat.zero_le _, Nat.zero_le _⟩ (Nat.le_of_ble_eq_true rfl) dX6_afterDrain_2 ?_
  refine f_aload_n (pc := 5) cx dX6_afterDrain_5 rfl rfl ?_
  refine f_iload_n (pc := 6) cx dX6_afterDrain_6 rfl rfl ?_
  refine f_bind (fun r2 hr2 => ?_)
  refine k_X6_93 (pc := 7) cx (c_X6_drainCopy l G _ o0 x2 hk_o0 r2 hr2) hk_o0 ⟨by decide, by decide⟩ ⟨Nat.zero_le _, Nat.zero_le _⟩ (Nat.le_of_ble_eq_true rfl) dX6_afterDrain_7 ?_
  refine f_iload_n (pc := 10) cx dX6_afterDrain_10 rfl rfl ?_
  refine f_iconst (pc := 11) cx dX6_afterDrain_11 kc_iconst_3 ?_
  refine f_icmp_ne (pc := 12) (tgt := 23) cx dX6_afterDrain_12 (by decide) (fun _ => ?_) (fun _ => ?_)
  · refine f_aload_n (pc := 15) cx dX6_afterDrain_15 rfl rfl ?_
    refine g_X6_12 (pc := 16) cx hk_o0 dX6_afterDrain_16 ?_
    refine g_X6_52 (pc := 19) cx (kf_5_0 hk_o0) dX6_afterDrain_19 ?_
    exact f_iret cx hr hlk rfl dX6_afterDrain_22
  · refine f_iload_n (pc := 23) cx dX6_afterDrain_23 rfl rfl ?_
    refine f_iconst (pc := 24) cx dX6_afterDrain_24 kc_iconst_4 ?_
    refine f_icmp_ne (pc := 25) (tgt := 45) cx dX6_afterDrain_25 (by decide) (fun _ => ?_) (fun _ => ?_)
    · refine f_aload_n (pc := 28) cx dX6_afterDrain_28 rfl rfl ?_
      refine g_X6_12 (pc := 29) cx hk_o0 dX6_afterDrain_29 ?_
      refine g_X6_33 (pc := 32) cx (kf_5_0 hk_o0) dX6_afterDrain_32 ?_
      refine f_aload_n (pc := 35) cx dX6_afterDrain_35 rfl rfl ?_
      refine g_X6_18 (pc := 36) cx hk_o0 dX6_afterDrain_36 ?_
      refine f_bind (fun r3 hr3 => ?_)
      refine k_X6_97 (pc := 39) cx (c_X1_greatestWaitFrom l G _ (o0 + 1 + 2) (r2 o0 1) (kf_7_1 (kf_5_0 hk_o0)) r3 hr3) (kf_7_1 (kf_5_0 hk_o0)) ⟨by decide, by decide⟩ ⟨Nat.zero_le _, Nat.zero_le _⟩ (Nat.le_of_ble_eq_true rfl) dX6_afterDrain_39 ?_
      refine f_goto (pc := 42) (tgt := 50) cx dX6_afterDrain_42 (by decide) ?_
      exact f_iret cx hr hlk rfl dX6_afterDrain_50
    · refine f_aload_n (pc := 45) cx dX6_afterDrain_45 rfl rfl ?_
      refine f_iload_n (pc := 46) cx dX6_afterDrain_46 rfl rfl ?_
      refine f_bind (fun r4 hr4 => ?_)
      refine k_X6_59 (pc := 47) cx (c_X6_tallyOf l G _ o0 x3 hk_o0 r4 hr4) hk_o0 ⟨by decide, by decide⟩ ⟨Nat.zero_le _, Nat.zero_le _⟩ (Nat.le_of_ble_eq_true rfl) dX6_afterDrain_47 ?_
      exact f_iret cx hr hlk rfl dX6_afterDrain_50
set_option maxRecDepth 4000 in
theorem c_X6_afterDrain (l : Launch) (G : GT) (h : Hp) (o0 : Nat) (o1 : Nat) (x2 : Int32) (x3 : Int32) (hk_o0 : kd o0 = 5) (hk_o1 : kd o1 = 7) : CtI l G yX6_afterDrain cX6_afterDrain 4 (some .int) 6 142 [.ref (gad G o0), .ref (gad G o1), .int x2, .int x3] h (p_X6_afterDrain h o0 o1 x2 x3) := fun a ha => Ct.of (lv := [some (.ref (gad G o0)), some (.ref (gad G o1)), some (.int x2), some (.int x3)]) (by decide) rfl (Nat.le_of_ble_eq_true rfl) rfl (fun p e s m args below meth c cx hr hlk => s_X6_afterDrain cx hr hlk h o0 o1 x2 x3 hk_o0 hk_o1 a ha)
def b_X6_targetWithoutDrops_9 (o0 : Nat) (o1 : Nat) (x2 : Int32) (k9 : Hp × Int32 × Int32 → Option (Int32 × Hp)) (q : Hp × Int32 × Int32) : Option (Int32 × Hp) :=
  if (tbv 2 (Int32.toNatClampNeg 0)) ≤ q.2.2 then (some ((-2), q.1)) else (if (tbv 2 (Int32.toNatClampNeg 0)) < q.2.1 then (some ((-2), q.1)) else (Option.bind (p_X6_begin q.1 o0 o1) fun r1 => nv (hp r1 (o0 + 1 + 1) 0 q.2.1) fun h2 => Option.bind (p_X6_drainCopy h2 o0 x2) fun r3 => if (r3 (o0 + 1 + 2 + 13) 2) = 0 then (if (r3 (o0 + 1 + 2 + 13) 4) = 0 then (some (q.2.1, r3)) else (nv ((r3 (o0 + 1) 12) + 1) fun v4 => k9 (r3, v4, q.2.2 + 1))) else (nv ((r3 (o0 + 1) 12) + 1) fun v5 => k9 (r3, v5, q.2.2 + 1))))
def p_X6_targetWithoutDrops (h : Hp) (o0 : Nat) (o1 : Nat) (x2 : Int32) : Option (Int32 × Hp) :=
  nv (tbv 1 (Int32.toNatClampNeg 0)) fun v6 => lp (b_X6_targetWithoutDrops_9 o0 o1 x2) FU (h, v6, 0)
set_option maxRecDepth 4000 in
theorem s_X6_targetWithoutDrops_9 {p : Program} {l : Launch} {e : Env} {s : State} {m : MethodId} {args : Array Value} {below : List Frame} {meth : Method} {c : Code} {G : GT} (cx : CX p s m args c cX6_targetWithoutDrops 5 RX6 G) (hr : meth.sig.returnType = (some .int)) (hlk : meth.locks = false) (o0 : Nat) (o1 : Nat) (x2 : Int32) (hk_o0 : kd o0 = 5) (hk_o1 : kd o1 = 7) : ∀ (n : Nat) (q : Hp × Int32 × Int32), PF p l e (rmc 6 142) s m args below meth c 5 G 0 0 (QI below G args s) 9 [some (.ref (gad G o0)), some (.ref (gad G o1)), some (.int x2), some (.int q.2.1), some (.int q.2.2)] [] q.1 (lp (b_X6_targetWithoutDrops_9 o0 o1 x2) n q) := by
  refine f_lp (lvf := fun (q : Hp × Int32 × Int32) => [some (.ref (gad G o0)), some (.ref (gad G o1)), some (.int x2), some (.int q.2.1), some (.int q.2.2)]) (hf := fun (q : Hp × Int32 × Int32) => q.1) (fun k9 hk9 q => ?_)
  show PF p l e (rmc 6 142) s m args below meth c 5 G 0 0 (QI below G args s) 9 [some (.ref (gad G o0)), some (.ref (gad G o1)), some (.int x2), some (.int q.2.1), some (.int q.2.2)] [] q.1 (b_X6_targetWithoutDrops_9 o0 o1 x2 k9 q)
  unfold b_X6_targetWithoutDrops_9
  refine f_iload (pc := 9) cx dX6_targetWithoutDrops_9 rfl ?_
  refine g_X6_81 (pc := 11) cx dX6_targetWithoutDrops_11 ?_
  refine f_iconst (pc := 14) cx dX6_targetWithoutDrops_14 kc_iconst_0 ?_
  refine f_tald (pc := 15) (j := 2) cx (by decide) (by decide) dX6_targetWithoutDrops_15 ?_
  refine f_icmp_ge (pc := 16) (tgt := 96) cx dX6_targetWithoutDrops_16 (by decide) (fun _ => ?_) (fun _ => ?_)
  · refine f_bipush (pc := 96) cx dX6_targetWithoutDrops_96 kc_bipush_m2 ?_
    exact f_iret cx hr hlk rfl dX6_targetWithoutDrops_98
  · refine f_iload_n (pc := 19) cx dX6_targetWithoutDrops_19 rfl rfl ?_
    refine g_X6_81 (pc := 20) cx dX6_targetWithoutDrops_20 ?_
    refine f_iconst (pc := 23) cx dX6_targetWithoutDrops_23 kc_iconst_0 ?_
    refine f_tald (pc := 24) (j := 2) cx (by decide) (by decide) dX6_targetWithoutDrops_24 ?_
    refine f_icmp_gt (pc := 25) (tgt := 96) cx dX6_targetWithoutDrops_25 (by decide) (fun _ => ?_) (fun _ => ?_)
    · refine f_bipush (pc := 96) cx dX6_targetWithoutDrops_96 kc_bipush_m2 ?_
      exact f_iret cx hr hlk rfl dX6_targetWithoutDrops_98
    · refine f_aload_n (pc := 28) cx dX6_targetWithoutDrops_28 rfl rfl ?_
      refine f_aload_n (pc := 29) cx dX6_targetWithoutDrops_29 rfl rfl ?_
      refine f_bind (fun r1 hr1 => ?_)
      refine k_X6_46 (pc := 30) cx (c_X6_begin l G _ o0 o1 hk_o0 hk_o1 r1 hr1) hk_o0 ⟨by decide, by decide⟩ ⟨Nat.zero_le _, Nat.zero_le _⟩ (Nat.le_of_ble_eq_true rfl) dX6_targetWithoutDrops_30 ?_
      refine f_aload_n (pc := 33) cx dX6_targetWithoutDrops_33 rfl rfl ?_
      refine g_X6_12 (pc := 34) cx hk_o0 dX6_targetWithoutDrops_34 ?_
      refine g_X6_69 (pc := 37) cx (kf_5_0 hk_o0) dX6_targetWithoutDrops_37 ?_
      refine f_iconst (pc := 40) cx dX6_targetWithoutDrops_40 kc_iconst_0 ?_
      refine f_iload_n (pc := 41) cx dX6_targetWithoutDrops_41 rfl rfl ?_
      refine f_iastk (pc := 42) (j := 0) (n := 8) cx (kf_7_0 (kf_5_0 hk_o0)) (by decide) (by decide) kl_0 dX6_targetWithoutDrops_42 ?_
      refine f_nvh (fun h2 => ?_)
      refine f_aload_n (pc := 43) cx dX6_targetWithoutDrops_43 rfl rfl ?_
      refine f_iload_n (pc := 44) cx dX6_targetWithoutDrops_44 rfl rfl ?_
      refine f_bind (fun r3 hr3 => ?_)
      refine k_X6_93 (pc := 45) cx (c_X6_drainCopy l G _ o0 x2 hk_o0 r3 hr3) hk_o0 ⟨by decide, by decide⟩ ⟨Nat.zero_le _, Nat.zero_le _⟩ (Nat.le_of_ble_eq_true rfl) dX6_targetWithoutDrops_45 ?_
      refine f_aload_n (pc := 48) cx dX6_targetWithoutDrops_48 rfl rfl ?_
      refine g_X6_12 (pc := 49) cx hk_o0 dX6_targetWithoutDrops_49 ?_
      refine g_X6_33 (pc := 52) cx (kf_5_0 hk_o0) dX6_targetWithoutDrops_52 ?_
      refine g_X6_37 (pc := 55) cx (kf_7_1 (kf_5_0 hk_o0)) dX6_targetWithoutDrops_55 ?_
      refine f_iconst (pc := 58) cx dX6_targetWithoutDrops_58 kc_iconst_2 ?_
      refine f_ialdk (pc := 59) (j := 2) (n := 5) cx (kf_1_12 (kf_7_1 (kf_5_0 hk_o0))) (by decide) (by decide) kl_2 dX6_targetWithoutDrops_59 ?_
      refine f_if_ne (pc := 60) (tgt := 80) cx dX6_targetWithoutDrops_60 (by decide) (fun _ => ?_) (fun _ => ?_)
      · refine f_aload_n (pc := 63) cx dX6_targetWithoutDrops_63 rfl rfl ?_
        refine g_X6_12 (pc := 64) cx hk_o0 dX6_targetWithoutDrops_64 ?_
        refine g_X6_33 (pc := 67) cx (kf_5_0 hk_o0) dX6_targetWithoutDrops_67 ?_
        refine g_X6_37 (pc := 70) cx (kf_7_1 (kf_5_0 hk_o0)) dX6_targetWithoutDrops_70 ?_
        refine f_iconst (pc := 73) cx dX6_targetWithoutDrops_73 kc_iconst_4 ?_
        refine f_ialdk (pc := 74) (j := 4) (n := 5) cx (kf_1_12 (kf_7_1 (kf_5_0 hk_o0))) (by decide) (by decide) kl_4 dX6_targetWithoutDrops_74 ?_
        refine f_if_ne (pc := 75) (tgt := 80) cx dX6_targetWithoutDrops_75 (by decide) (fun _ => ?_) (fun _ => ?_)
        · refine f_iload_n (pc := 78) cx dX6_targetWithoutDrops_78 rfl rfl ?_
          exact f_iret cx hr hlk rfl dX6_targetWithoutDrops_79
        · refine f_aload_n (pc := 80) cx dX6_targetWithoutDrops_80 rfl rfl ?_
          refine g_X6_12 (pc := 81) cx hk_o0 dX6_targetWithoutDrops_81 ?_
          refine g_X6_30 (pc := 84) cx (kf_5_0 hk_o0) dX6_targetWithoutDrops_84 ?_
          refine f_iconst (pc := 87) cx dX6_targetWithoutDrops_87 kc_iconst_1 ?_
          refine f_iadd (pc := 88) cx dX6_targetWithoutDrops_88 ?_
          refine f_nvi (fun v4 => ?_)
          refine f_istore3 (pc := 89) cx dX6_targetWithoutDrops_89 (by decide) rfl ?_
          refine f_iinc4 (pc := 90) cx dX6_targetWithoutDrops_90 kc_iconst_1 (by decide) rfl ?_
          refine f_goto (pc := 93) (tgt := 9) cx dX6_targetWithoutDrops_93 (by decide) ?_
          exact f_weak (LSb.s (LSb.s (LSb.s (LSb.s (LSb.s LSb.e))))) (hk9 (r3, v4, q.2.2 + 1))
      · refine f_aload_n (pc := 80) cx dX6_targetWithoutDrops_80 rfl rfl ?_
        refine g_X6_12 (pc := 81) cx hk_o0 dX6_targetWithoutDrops_81 ?_
        refine g_X6_30 (pc := 84) cx (kf_5_0 hk_o0) dX6_targetWithoutDrops_84 ?_
        refine f_iconst (pc := 87) cx dX6_targetWithoutDrops_87 kc_iconst_1 ?_
        refine f_iadd (pc := 88) cx dX6_targetWithoutDrops_88 ?_
        refine f_nvi (fun v5 => ?_)
        refine f_istore3 (pc := 89) cx dX6_targetWithoutDrops_89 (by decide) rfl ?_
        refine f_iinc4 (pc := 90) cx dX6_targetWithoutDrops_90 kc_iconst_1 (by decide) rfl ?_
        refine f_goto (pc := 93) (tgt := 9) cx dX6_targetWithoutDrops_93 (by decide) ?_
        exact f_weak (LSb.s (LSb.s (LSb.s (LSb.s (LSb.s LSb.e))))) (hk9 (r3, v5, q.2.2 + 1))
set_option maxRecDepth 4000 in
theorem s_X6_targetWithoutDrops {p : Program} {l : Launch} {e : Env} {s : State} {m : MethodId} {args : Array Value} {below : List Frame} {meth : Method} {c : Code} {G : GT} (cx : CX p s m args c cX6_targetWithoutDrops 5 RX6 G) (hr : meth.sig.returnType = (some .int)) (hlk : meth.locks = false) (h : Hp) (o0 : Nat) (o1 : Nat) (x2 : Int32) (hk_o0 : kd o0 = 5) (hk_o1 : kd o1 = 7) : PF p l e (rmc 6 142) s m args below meth c 5 G 0 0 (QI below G args s) 0 [some (.ref (gad G o0)), some (.ref (gad G o1)), some (.int x2), none, none] [] h (p_X6_targetWithoutDrops h o0 o1 x2) := by
  unfold p_X6_targetWithoutDrops
  refine g_X6_72 (pc := 0) cx dX6_targetWithoutDrops_0 ?_
  refine f_iconst (pc := 3) cx dX6_targetWithoutDrops_3 kc_iconst_0 ?_
  refine f_tald (pc := 4) (j := 1) cx (by decide) (by decide) dX6_targetWithoutDrops_4 ?_
  refine f_nvi (fun v6 => ?_)
  refine f_istore3 (pc := 5) cx dX6_targetWithoutDrops_5 (by decide) rfl ?_
  refine f_iconst (pc := 6) cx dX6_targetWithoutDrops_6 kc_iconst_0 ?_
  refine f_istore4 (pc := 7) cx dX6_targetWithoutDrops_7 (by decide) rfl ?_
  exact f_weak (LSb.s (LSb.s (LSb.s (LSb.s (LSb.s LSb.e))))) (s_X6_targetWithoutDrops_9 cx hr hlk o0 o1 x2 hk_o0 hk_o1 FU (h, v6, 0))
set_option maxRecDepth 4000 in
theorem c_X6_targetWithoutDrops (l : Launch) (G : GT) (h : Hp) (o0 : Nat) (o1 : Nat) (x2 : Int32) (hk_o0 : kd o0 = 5) (hk_o1 : kd o1 = 7) : CtI l G yX6_targetWithoutDrops cX6_targetWithoutDrops 5 (some .int) 6 142 [.ref (gad G o0), .ref (gad G o1), .int x2] h (p_X6_targetWithoutDrops h o0 o1 x2) := fun a ha => Ct.of (lv := [some (.ref (gad G o0)), some (.ref (gad G o1)), some (.int x2), none, none]) (by decide) rfl (Nat.le_of_ble_eq_true rfl) rfl (fun p e s m args below meth c cx hr hlk => s_X6_targetWithoutDrops cx hr hlk h o0 o1 x2 hk_o0 hk_o1 a ha)
def b_X6_quantumOfLeastWaits_9 (o0 : Nat) (o1 : Nat) (x2 : Int32) (k9 : Hp × Int32 × Int32 × Int32 → Option (Int32 × Hp)) (q : Hp × Int32 × Int32 × Int32) : Option (Int32 × Hp) :=
  if (tbv 2 (Int32.toNatClampNeg 2)) < q.2.2.2 then (some (q.2.1, q.1)) else (Option.bind (p_X6_begin q.1 o0 o1) fun r1 => nv (hp r1 (o0 + 1 + 1) 2 q.2.2.2) fun h2 => Option.bind (p_X6_drainCopy h2 o0 x2) fun r3 => Option.bind (p_X1_waitsFrom r3 (o0 + 1 + 2) (r3 o0 1)) fun r4 => if q.2.1 = 0 then (k9 (r4.2, q.2.2.2, r4.1, q.2.2.2 + 50)) else (if q.2.2.1 ≤ r4.1 then (k9 (r4.2, q.2.1, q.2.2.1, q.2.2.2 + 50)) else (k9 (r4.2, q.2.2.2, r4.1, q.2.2.2 + 50))))
def p_X6_quantumOfLeastWaits (h : Hp) (o0 : Nat) (o1 : Nat) (x2 : Int32) : Option (Int32 × Hp) :=
  lp (b_X6_quantumOfLeastWaits_9 o0 o1 x2) FU (h, 0, 0, 50)
set_option maxRecDepth 4000 in
theorem s_X6_quantumOfLeastWaits_9 {p : Program} {l : Launch} {e : Env} {s : State} {m : MethodId} {args : Array Value} {below : List Frame} {meth : Method} {c : Code} {G : GT} (cx : CX p s m args c cX6_quantumOfLeastWaits 7 RX6 G) (hr : meth.sig.returnType = (some .int)) (hlk : meth.locks = false) (o0 : Nat) (o1 : Nat) (x2 : Int32) (hk_o0 : kd o0 = 5) (hk_o1 : kd o1 = 7) : ∀ (n : Nat) (q : Hp × Int32 × Int32 × Int32), PF p l e (rmc 6 142) s m args below meth c 7 G 0 0 (QI below G args s) 9 [some (.ref (gad G o0)), some (.ref (gad G o1)), some (.int x2), some (.int q.2.1), some (.int q.2.2.1), some (.int q.2.2.2), none] [] q.1 (lp (b_X6_quantumOfLeastWaits_9 o0 o1 x2) n q) := by
  refine f_lp (lvf := fun (q : Hp × Int32 × Int32 × Int32) => [some (.ref (gad G o0)), some (.ref (gad G o1)), some (.int x2), some (.int q.2.1), some (.int q.2.2.1), some (.int q.2.2.2), none]) (hf := fun (q : Hp × Int32 × Int32 × Int32) => q.1) (fun k9 hk9 q => ?_)
  show PF p l e (rmc 6 142) s m args below meth c 7 G 0 0 (QI below G args s) 9 [some (.ref (gad G o0)), some (.ref (gad G o1)), some (.int x2), some (.int q.2.1), some (.int q.2.2.1), some (.int q.2.2.2), none] [] q.1 (b_X6_quantumOfLeastWaits_9 o0 o1 x2 k9 q)
  unfold b_X6_quantumOfLeastWaits_9
  refine f_iload (pc := 9) cx dX6_quantumOfLeastWaits_9 rfl ?_
  refine g_X6_81 (pc := 11) cx dX6_quantumOfLeastWaits_11 ?_
  refine f_iconst (pc := 14) cx dX6_quantumOfLeastWaits_14 kc_iconst_2 ?_
  refine f_tald (pc := 15) (j := 2) cx (by decide) (by decide) dX6_quantumOfLeastWaits_15 ?_
  refine f_icmp_gt (pc := 16) (tgt := 80) cx dX6_quantumOfLeastWaits_16 (by decide) (fun _ => ?_) (fun _ => ?_)
  · refine f_iload_n (pc := 80) cx dX6_quantumOfLeastWaits_80 rfl rfl ?_
    exact f_iret cx hr hlk rfl dX6_quantumOfLeastWaits_81
  · refine f_aload_n (pc := 19) cx dX6_quantumOfLeastWaits_19 rfl rfl ?_
    refine f_aload_n (pc := 20) cx dX6_quantumOfLeastWaits_20 rfl rfl ?_
    refine f_bind (fun r1 hr1 => ?_)
    refine k_X6_46 (pc := 21) cx (c_X6_begin l G _ o0 o1 hk_o0 hk_o1 r1 hr1) hk_o0 ⟨by decide, by decide⟩ ⟨Nat.zero_le _, Nat.zero_le _⟩ (Nat.le_of_ble_eq_true rfl) dX6_quantumOfLeastWaits_21 ?_
    refine f_aload_n (pc := 24) cx dX6_quantumOfLeastWaits_24 rfl rfl ?_
    refine g_X6_12 (pc := 25) cx hk_o0 dX6_quantumOfLeastWaits_25 ?_
    refine g_X6_69 (pc := 28) cx (kf_5_0 hk_o0) dX6_quantumOfLeastWaits_28 ?_
    refine f_iconst (pc := 31) cx dX6_quantumOfLeastWaits_31 kc_iconst_2 ?_
    refine f_iload (pc := 32) cx dX6_quantumOfLeastWaits_32 rfl ?_
    refine f_iastk (pc := 34) (j := 2) (n := 8) cx (kf_7_0 (kf_5_0 hk_o0)) (by decide) (by decide) kl_2 dX6_quantumOfLeastWaits_34 ?_
    refine f_nvh (fun h2 => ?_)
    refine f_aload_n (pc := 35) cx dX6_quantumOfLeastWaits_35 rfl rfl ?_
    refine f_iload_n (pc := 36) cx dX6_quantumOfLeastWaits_36 rfl rfl ?_
    refine f_bind (fun r3 hr3 => ?_)
    refine k_X6_93 (pc := 37) cx (c_X6_drainCopy l G _ o0 x2 hk_o0 r3 hr3) hk_o0 ⟨by decide, by decide⟩ ⟨Nat.zero_le _, Nat.zero_le _⟩ (Nat.le_of_ble_eq_true rfl) dX6_quantumOfLeastWaits_37 ?_
    refine f_aload_n (pc := 40) cx dX6_quantumOfLeastWaits_40 rfl rfl ?_
    refine g_X6_12 (pc := 41) cx hk_o0 dX6_quantumOfLeastWaits_41 ?_
    refine g_X6_33 (pc := 44) cx (kf_5_0 hk_o0) dX6_quantumOfLeastWaits_44 ?_
    refine f_aload_n (pc := 47) cx dX6_quantumOfLeastWaits_47 rfl rfl ?_
    refine g_X6_18 (pc := 48) cx hk_o0 dX6_quantumOfLeastWaits_48 ?_
    refine f_bind (fun r4 hr4 => ?_)
    refine k_X6_100 (pc := 51) cx (c_X1_waitsFrom l G _ (o0 + 1 + 2) (r3 o0 1) (kf_7_1 (kf_5_0 hk_o0)) r4 hr4) (kf_7_1 (kf_5_0 hk_o0)) ⟨by decide, by decide⟩ ⟨Nat.zero_le _, Nat.zero_le _⟩ (Nat.le_of_ble_eq_true rfl) dX6_quantumOfLeastWaits_51 ?_
    refine f_istore6 (pc := 54) cx dX6_quantumOfLeastWaits_54 (by decide) rfl ?_
    refine f_iload_n (pc := 56) cx dX6_quantumOfLeastWaits_56 rfl rfl ?_
    refine f_if_eq (pc := 57) (tgt := 67) cx dX6_quantumOfLeastWaits_57 (by decide) (fun _ => ?_) (fun _ => ?_)
    · refine f_iload (pc := 67) cx dX6_quantumOfLeastWaits_67 rfl ?_
      refine f_istore4 (pc := 69) cx dX6_quantumOfLeastWaits_69 (by decide) rfl ?_
      refine f_iload (pc := 71) cx dX6_quantumOfLeastWaits_71 rfl ?_
      refine f_istore3 (pc := 73) cx dX6_quantumOfLeastWaits_73 (by decide) rfl ?_
      refine f_iinc5 (pc := 74) cx dX6_quantumOfLeastWaits_74 kc_iconst_50 (by decide) rfl ?_
      refine f_goto (pc := 77) (tgt := 9) cx dX6_quantumOfLeastWaits_77 (by decide) ?_
      exact f_weak (LSb.s (LSb.s (LSb.s (LSb.s (LSb.s (LSb.s (LSb.n LSb.e))))))) (hk9 (r4.2, q.2.2.2, r4.1, q.2.2.2 + 50))
    · refine f_iload (pc := 60) cx dX6_quantumOfLeastWaits_60 rfl ?_
      refine f_iload (pc := 62) cx dX6_quantumOfLeastWaits_62 rfl ?_
      refine f_icmp_ge (pc := 64) (tgt := 74) cx dX6_quantumOfLeastWaits_64 (by decide) (fun _ => ?_) (fun _ => ?_)
      · refine f_iinc5 (pc := 74) cx dX6_quantumOfLeastWaits_74 kc_iconst_50 (by decide) rfl ?_
        refine f_goto (pc := 77) (tgt := 9) cx dX6_quantumOfLeastWaits_77 (by decide) ?_
        exact f_weak (LSb.s (LSb.s (LSb.s (LSb.s (LSb.s (LSb.s (LSb.n LSb.e))))))) (hk9 (r4.2, q.2.1, q.2.2.1, q.2.2.2 + 50))
      · refine f_iload (pc := 67) cx dX6_quantumOfLeastWaits_67 rfl ?_
        refine f_istore4 (pc := 69) cx dX6_quantumOfLeastWaits_69 (by decide) rfl ?_
        refine f_iload (pc := 71) cx dX6_quantumOfLeastWaits_71 rfl ?_
        refine f_istore3 (pc := 73) cx dX6_quantumOfLeastWaits_73 (by decide) rfl ?_
        refine f_iinc5 (pc := 74) cx dX6_quantumOfLeastWaits_74 kc_iconst_50 (by decide) rfl ?_
        refine f_goto (pc := 77) (tgt := 9) cx dX6_quantumOfLeastWaits_77 (by decide) ?_
        exact f_weak (LSb.s (LSb.s (LSb.s (LSb.s (LSb.s (LSb.s (LSb.n LSb.e))))))) (hk9 (r4.2, q.2.2.2, r4.1, q.2.2.2 + 50))
set_option maxRecDepth 4000 in
theorem s_X6_quantumOfLeastWaits {p : Program} {l : Launch} {e : Env} {s : State} {m : MethodId} {args : Array Value} {below : List Frame} {meth : Method} {c : Code} {G : GT} (cx : CX p s m args c cX6_quantumOfLeastWaits 7 RX6 G) (hr : meth.sig.returnType = (some .int)) (hlk : meth.locks = false) (h : Hp) (o0 : Nat) (o1 : Nat) (x2 : Int32) (hk_o0 : kd o0 = 5) (hk_o1 : kd o1 = 7) : PF p l e (rmc 6 142) s m args below meth c 7 G 0 0 (QI below G args s) 0 [some (.ref (gad G o0)), some (.ref (gad G o1)), some (.int x2), none, none, none, none] [] h (p_X6_quantumOfLeastWaits h o0 o1 x2) := by
  unfold p_X6_quantumOfLeastWaits
  refine f_iconst (pc := 0) cx dX6_quantumOfLeastWaits_0 kc_iconst_0 ?_
  refine f_istore3 (pc := 1) cx dX6_quantumOfLeastWaits_1 (by decide) rfl ?_
  refine f_iconst (pc := 2) cx dX6_quantumOfLeastWaits_2 kc_iconst_0 ?_
  refine f_istore4 (pc := 3) cx dX6_quantumOfLeastWaits_3 (by decide) rfl ?_
  refine f_bipush (pc := 5) cx dX6_quantumOfLeastWaits_5 kc_bipush_50 ?_
  refine f_istore5 (pc := 7) cx dX6_quantumOfLeastWaits_7 (by decide) rfl ?_
  exact f_weak (LSb.s (LSb.s (LSb.s (LSb.s (LSb.s (LSb.s (LSb.n LSb.e))))))) (s_X6_quantumOfLeastWaits_9 cx hr hlk o0 o1 x2 hk_o0 hk_o1 FU (h, 0, 0, 50))
set_option maxRecDepth 4000 in
theorem c_X6_quantumOfLeastWaits (l : Launch) (G : GT) (h : Hp) (o0 : Nat) (o1 : Nat) (x2 : Int32) (hk_o0 : kd o0 = 5) (hk_o1 : kd o1 = 7) : CtI l G yX6_quantumOfLeastWaits cX6_quantumOfLeastWaits 7 (some .int) 6 142 [.ref (gad G o0), .ref (gad G o1), .int x2] h (p_X6_quantumOfLeastWaits h o0 o1 x2) := fun a ha => Ct.of (lv := [some (.ref (gad G o0)), some (.ref (gad G o1)), some (.int x2), none, none, none, none]) (by decide) rfl (Nat.le_of_ble_eq_true rfl) rfl (fun p e s m args below meth c cx hr hlk => s_X6_quantumOfLeastWaits cx hr hlk h o0 o1 x2 hk_o0 hk_o1 a ha)
