theorem kc_bipush_11 : (Int8.ofInt (11)).toInt32 = 11 := by decide
theorem kc_bipush_12 : (Int8.ofInt (12)).toInt32 = 12 := by decide
theorem kc_bipush_14 : (Int8.ofInt (14)).toInt32 = 14 := by decide
theorem kc_bipush_15 : (Int8.ofInt (15)).toInt32 = 15 := by decide
theorem kc_bipush_18 : (Int8.ofInt (18)).toInt32 = 18 := by decide
theorem kt_4 : Int32.ofNat (tbl 4).length = 6 := by decide
theorem dX9_feed_0 : decode cX9_feed 0 = .ok (.aload_n 0, 1) := by decide +kernel
theorem dX9_feed_1 : decode cX9_feed 1 = .ok (.getfield 10, 3) := by decide +kernel
theorem dX9_feed_4 : decode cX9_feed 4 = .ok (.getfield 30, 3) := by decide +kernel
theorem dX9_feed_7 : decode cX9_feed 7 = .ok (.bipush 20, 2) := by decide +kernel
theorem dX9_feed_9 : decode cX9_feed 9 = .ok (.iadd, 1) := by decide +kernel
theorem dX9_feed_10 : decode cX9_feed 10 = .ok (.sipush 900, 3) := by decide +kernel
theorem dX9_feed_13 : decode cX9_feed 13 = .ok (.if_icmp .le 5, 3) := by decide +kernel
theorem dX9_feed_16 : decode cX9_feed 16 = .ok (.iconst (-1), 1) := by decide +kernel
theorem dX9_feed_17 : decode cX9_feed 17 = .ok (.ireturn, 1) := by decide +kernel
theorem dX9_feed_18 : decode cX9_feed 18 = .ok (.aload_n 0, 1) := by decide +kernel
theorem dX9_feed_19 : decode cX9_feed 19 = .ok (.getfield 10, 3) := by decide +kernel
theorem dX9_feed_22 : decode cX9_feed 22 = .ok (.iload_n 1, 1) := by decide +kernel
theorem dX9_feed_23 : decode cX9_feed 23 = .ok (.invokevirtual 34, 3) := by decide +kernel
theorem dX9_feed_26 : decode cX9_feed 26 = .ok (.aload_n 0, 1) := by decide +kernel
theorem dX9_feed_27 : decode cX9_feed 27 = .ok (.getfield 10, 3) := by decide +kernel
theorem dX9_feed_30 : decode cX9_feed 30 = .ok (.iload_n 2, 1) := by decide +kernel
theorem dX9_feed_31 : decode cX9_feed 31 = .ok (.invokevirtual 34, 3) := by decide +kernel
theorem dX9_feed_34 : decode cX9_feed 34 = .ok (.aload_n 0, 1) := by decide +kernel
theorem dX9_feed_35 : decode cX9_feed 35 = .ok (.getfield 10, 3) := by decide +kernel
theorem dX9_feed_38 : decode cX9_feed 38 = .ok (.iload_n 3, 1) := by decide +kernel
theorem dX9_feed_39 : decode cX9_feed 39 = .ok (.invokevirtual 34, 3) := by decide +kernel
theorem dX9_feed_42 : decode cX9_feed 42 = .ok (.aload_n 0, 1) := by decide +kernel
theorem dX9_feed_43 : decode cX9_feed 43 = .ok (.getfield 10, 3) := by decide +kernel
theorem dX9_feed_46 : decode cX9_feed 46 = .ok (.iload 4, 2) := by decide +kernel
theorem dX9_feed_48 : decode cX9_feed 48 = .ok (.invokevirtual 34, 3) := by decide +kernel
theorem dX9_feed_51 : decode cX9_feed 51 = .ok (.aload_n 0, 1) := by decide +kernel
theorem dX9_feed_52 : decode cX9_feed 52 = .ok (.getfield 10, 3) := by decide +kernel
theorem dX9_feed_55 : decode cX9_feed 55 = .ok (.iload 5, 2) := by decide +kernel
theorem dX9_feed_57 : decode cX9_feed 57 = .ok (.invokevirtual 34, 3) := by decide +kernel
theorem dX9_feed_60 : decode cX9_feed 60 = .ok (.aload_n 0, 1) := by decide +kernel
theorem dX9_feed_61 : decode cX9_feed 61 = .ok (.getfield 10, 3) := by decide +kernel
theorem dX9_feed_64 : decode cX9_feed 64 = .ok (.getfield 30, 3) := by decide +kernel
theorem dX9_feed_67 : decode cX9_feed 67 = .ok (.ireturn, 1) := by decide +kernel
theorem dX9_fault_0 : decode cX9_fault 0 = .ok (.iload_n 1, 1) := by decide +kernel
theorem dX9_fault_1 : decode cX9_fault 1 = .ok (.ifCond .ne 11, 3) := by decide +kernel
theorem dX9_fault_4 : decode cX9_fault 4 = .ok (.aload_n 0, 1) := by decide +kernel
theorem dX9_fault_5 : decode cX9_fault 5 = .ok (.getfield 10, 3) := by decide +kernel
theorem dX9_fault_8 : decode cX9_fault 8 = .ok (.getfield 41, 3) := by decide +kernel
theorem dX9_fault_11 : decode cX9_fault 11 = .ok (.ireturn, 1) := by decide +kernel
theorem dX9_fault_12 : decode cX9_fault 12 = .ok (.iload_n 1, 1) := by decide +kernel
theorem dX9_fault_13 : decode cX9_fault 13 = .ok (.iconst 1, 1) := by decide +kernel
theorem dX9_fault_14 : decode cX9_fault 14 = .ok (.if_icmp .ne 13, 3) := by decide +kernel
theorem dX9_fault_17 : decode cX9_fault 17 = .ok (.aload_n 0, 1) := by decide +kernel
theorem dX9_fault_18 : decode cX9_fault 18 = .ok (.getfield 10, 3) := by decide +kernel
theorem dX9_fault_21 : decode cX9_fault 21 = .ok (.getfield 53, 3) := by decide +kernel
theorem dX9_fault_24 : decode cX9_fault 24 = .ok (.goto 4, 3) := by decide +kernel
theorem dX9_fault_27 : decode cX9_fault 27 = .ok (.iconst (-1), 1) := by decide +kernel
theorem dX9_fault_28 : decode cX9_fault 28 = .ok (.ireturn, 1) := by decide +kernel
theorem dX9_come_0 : decode cX9_come 0 = .ok (.bipush 13, 2) := by decide +kernel
theorem dX9_come_2 : decode cX9_come 2 = .ok (.iload_n 1, 1) := by decide +kernel
theorem dX9_come_3 : decode cX9_come 3 = .ok (.invokestatic 56, 3) := by decide +kernel
theorem dX9_come_6 : decode cX9_come 6 = .ok (.ifCond .eq 21, 3) := by decide +kernel
theorem dX9_come_9 : decode cX9_come 9 = .ok (.bipush 14, 2) := by decide +kernel
theorem dX9_come_11 : decode cX9_come 11 = .ok (.iload_n 2, 1) := by decide +kernel
theorem dX9_come_12 : decode cX9_come 12 = .ok (.invokestatic 56, 3) := by decide +kernel
theorem dX9_come_15 : decode cX9_come 15 = .ok (.ifCond .eq 12, 3) := by decide +kernel
theorem dX9_come_18 : decode cX9_come 18 = .ok (.bipush 15, 2) := by decide +kernel
theorem dX9_come_20 : decode cX9_come 20 = .ok (.iload_n 3, 1) := by decide +kernel
theorem dX9_come_21 : decode cX9_come 21 = .ok (.invokestatic 56, 3) := by decide +kernel
theorem dX9_come_24 : decode cX9_come 24 = .ok (.ifCond .ne 5, 3) := by decide +kernel
theorem dX9_come_27 : decode cX9_come 27 = .ok (.iconst (-1), 1) := by decide +kernel
theorem dX9_come_28 : decode cX9_come 28 = .ok (.ireturn, 1) := by decide +kernel
theorem dX9_come_29 : decode cX9_come 29 = .ok (.aload_n 0, 1) := by decide +kernel
theorem dX9_come_30 : decode cX9_come 30 = .ok (.getfield 19, 3) := by decide +kernel
theorem dX9_come_33 : decode cX9_come 33 = .ok (.iload_n 1, 1) := by decide +kernel
theorem dX9_come_34 : decode cX9_come 34 = .ok (.iload_n 2, 1) := by decide +kernel
theorem dX9_come_35 : decode cX9_come 35 = .ok (.iload_n 3, 1) := by decide +kernel
theorem dX9_come_36 : decode cX9_come 36 = .ok (.bipush (-2), 2) := by decide +kernel
theorem dX9_come_38 : decode cX9_come 38 = .ok (.invokevirtual 60, 3) := by decide +kernel
theorem dX9_come_41 : decode cX9_come 41 = .ok (.ireturn, 1) := by decide +kernel
theorem dX9_pass_0 : decode cX9_pass 0 = .ok (.bipush 16, 2) := by decide +kernel
theorem dX9_pass_2 : decode cX9_pass 2 = .ok (.iload_n 1, 1) := by decide +kernel
theorem dX9_pass_3 : decode cX9_pass 3 = .ok (.invokestatic 56, 3) := by decide +kernel
theorem dX9_pass_6 : decode cX9_pass 6 = .ok (.ifCond .eq 17, 3) := by decide +kernel
theorem dX9_pass_9 : decode cX9_pass 9 = .ok (.aload_n 0, 1) := by decide +kernel
theorem dX9_pass_10 : decode cX9_pass 10 = .ok (.getfield 19, 3) := by decide +kernel
theorem dX9_pass_13 : decode cX9_pass 13 = .ok (.getfield 64, 3) := by decide +kernel
theorem dX9_pass_16 : decode cX9_pass 16 = .ok (.iload_n 1, 1) := by decide +kernel
theorem dX9_pass_17 : decode cX9_pass 17 = .ok (.iadd, 1) := by decide +kernel
theorem dX9_pass_18 : decode cX9_pass 18 = .ok (.ldc 67, 2) := by decide +kernel
theorem dX9_pass_20 : decode cX9_pass 20 = .ok (.if_icmp .le 5, 3) := by decide +kernel
theorem dX9_pass_23 : decode cX9_pass 23 = .ok (.iconst (-1), 1) := by decide +kernel
theorem dX9_pass_24 : decode cX9_pass 24 = .ok (.ireturn, 1) := by decide +kernel
theorem dX9_pass_25 : decode cX9_pass 25 = .ok (.aload_n 0, 1) := by decide +kernel
theorem dX9_pass_26 : decode cX9_pass 26 = .ok (.getfield 19, 3) := by decide +kernel
theorem dX9_pass_29 : decode cX9_pass 29 = .ok (.dup, 1) := by decide +kernel
theorem dX9_pass_30 : decode cX9_pass 30 = .ok (.getfield 64, 3) := by decide +kernel
theorem dX9_pass_33 : decode cX9_pass 33 = .ok (.iload_n 1, 1) := by decide +kernel
theorem dX9_pass_34 : decode cX9_pass 34 = .ok (.iadd, 1) := by decide +kernel
theorem dX9_pass_35 : decode cX9_pass 35 = .ok (.putfield 64, 3) := by decide +kernel
theorem dX9_pass_38 : decode cX9_pass 38 = .ok (.aload_n 0, 1) := by decide +kernel
theorem dX9_pass_39 : decode cX9_pass 39 = .ok (.getfield 19, 3) := by decide +kernel
theorem dX9_pass_42 : decode cX9_pass 42 = .ok (.getfield 64, 3) := by decide +kernel
theorem dX9_pass_45 : decode cX9_pass 45 = .ok (.ireturn, 1) := by decide +kernel
theorem dX9_go_0 : decode cX9_go 0 = .ok (.aload_n 0, 1) := by decide +kernel
theorem dX9_go_1 : decode cX9_go 1 = .ok (.getfield 19, 3) := by decide +kernel
theorem dX9_go_4 : decode cX9_go 4 = .ok (.invokevirtual 68, 3) := by decide +kernel
theorem dX9_go_7 : decode cX9_go 7 = .ok (.ireturn, 1) := by decide +kernel
theorem dX9_run_0 : decode cX9_run 0 = .ok (.bipush 18, 2) := by decide +kernel
theorem dX9_run_2 : decode cX9_run 2 = .ok (.iload_n 1, 1) := by decide +kernel
theorem dX9_run_3 : decode cX9_run 3 = .ok (.invokestatic 56, 3) := by decide +kernel
theorem dX9_run_6 : decode cX9_run 6 = .ok (.ifCond .ne 5, 3) := by decide +kernel
theorem dX9_run_9 : decode cX9_run 9 = .ok (.iconst (-1), 1) := by decide +kernel
theorem dX9_run_10 : decode cX9_run 10 = .ok (.ireturn, 1) := by decide +kernel
theorem dX9_run_11 : decode cX9_run 11 = .ok (.aload_n 0, 1) := by decide +kernel
theorem dX9_run_12 : decode cX9_run 12 = .ok (.getfield 19, 3) := by decide +kernel
theorem dX9_run_15 : decode cX9_run 15 = .ok (.getfield 72, 3) := by decide +kernel
theorem dX9_run_18 : decode cX9_run 18 = .ok (.getfield 76, 3) := by decide +kernel
theorem dX9_run_21 : decode cX9_run 21 = .ok (.iconst 1, 1) := by decide +kernel
theorem dX9_run_22 : decode cX9_run 22 = .ok (.iaload, 1) := by decide +kernel
theorem dX9_run_23 : decode cX9_run 23 = .ok (.istore_n 2, 1) := by decide +kernel
theorem dX9_run_24 : decode cX9_run 24 = .ok (.iconst 0, 1) := by decide +kernel
theorem dX9_run_25 : decode cX9_run 25 = .ok (.istore_n 3, 1) := by decide +kernel
theorem dX9_run_26 : decode cX9_run 26 = .ok (.iload_n 3, 1) := by decide +kernel
theorem dX9_run_27 : decode cX9_run 27 = .ok (.iload_n 1, 1) := by decide +kernel
theorem dX9_run_28 : decode cX9_run 28 = .ok (.if_icmp .ge 16, 3) := by decide +kernel
theorem dX9_run_31 : decode cX9_run 31 = .ok (.aload_n 0, 1) := by decide +kernel
theorem dX9_run_32 : decode cX9_run 32 = .ok (.getfield 19, 3) := by decide +kernel
theorem dX9_run_35 : decode cX9_run 35 = .ok (.invokevirtual 82, 3) := by decide +kernel
theorem dX9_run_38 : decode cX9_run 38 = .ok (.iinc 3 1, 3) := by decide +kernel
theorem dX9_run_41 : decode cX9_run 41 = .ok (.goto (-15), 3) := by decide +kernel
theorem dX9_run_44 : decode cX9_run 44 = .ok (.aload_n 0, 1) := by decide +kernel
theorem dX9_run_45 : decode cX9_run 45 = .ok (.getfield 19, 3) := by decide +kernel
theorem dX9_run_48 : decode cX9_run 48 = .ok (.getfield 72, 3) := by decide +kernel
theorem dX9_run_51 : decode cX9_run 51 = .ok (.getfield 76, 3) := by decide +kernel
theorem dX9_run_54 : decode cX9_run 54 = .ok (.iconst 1, 1) := by decide +kernel
theorem dX9_run_55 : decode cX9_run 55 = .ok (.iaload, 1) := by decide +kernel
theorem dX9_run_56 : decode cX9_run 56 = .ok (.iload_n 2, 1) := by decide +kernel
theorem dX9_run_57 : decode cX9_run 57 = .ok (.isub, 1) := by decide +kernel
theorem dX9_run_58 : decode cX9_run 58 = .ok (.ireturn, 1) := by decide +kernel
theorem dX9_sender_0 : decode cX9_sender 0 = .ok (.iload_n 1, 1) := by decide +kernel
theorem dX9_sender_1 : decode cX9_sender 1 = .ok (.ifCond .lt 19, 3) := by decide +kernel
theorem dX9_sender_4 : decode cX9_sender 4 = .ok (.iload_n 1, 1) := by decide +kernel
theorem dX9_sender_5 : decode cX9_sender 5 = .ok (.aload_n 0, 1) := by decide +kernel
theorem dX9_sender_6 : decode cX9_sender 6 = .ok (.getfield 19, 3) := by decide +kernel
theorem dX9_sender_9 : decode cX9_sender 9 = .ok (.getfield 85, 3) := by decide +kernel
theorem dX9_sender_12 : decode cX9_sender 12 = .ok (.if_icmp .ge 8, 3) := by decide +kernel
theorem dX9_sender_15 : decode cX9_sender 15 = .ok (.iload_n 1, 1) := by decide +kernel
theorem dX9_sender_16 : decode cX9_sender 16 = .ok (.iconst 4, 1) := by decide +kernel
theorem dX9_sender_17 : decode cX9_sender 17 = .ok (.if_icmp .lt 5, 3) := by decide +kernel
theorem dX9_sender_20 : decode cX9_sender 20 = .ok (.iconst (-1), 1) := by decide +kernel
theorem dX9_sender_21 : decode cX9_sender 21 = .ok (.ireturn, 1) := by decide +kernel
theorem dX9_sender_22 : decode cX9_sender 22 = .ok (.aload_n 0, 1) := by decide +kernel
theorem dX9_sender_23 : decode cX9_sender 23 = .ok (.getfield 19, 3) := by decide +kernel
theorem dX9_sender_26 : decode cX9_sender 26 = .ok (.getfield 88, 3) := by decide +kernel
theorem dX9_sender_29 : decode cX9_sender 29 = .ok (.iload_n 1, 1) := by decide +kernel
theorem dX9_sender_30 : decode cX9_sender 30 = .ok (.aaload, 1) := by decide +kernel
theorem dX9_sender_31 : decode cX9_sender 31 = .ok (.iload_n 2, 1) := by decide +kernel
theorem dX9_sender_32 : decode cX9_sender 32 = .ok (.invokevirtual 92, 3) := by decide +kernel
theorem dX9_sender_35 : decode cX9_sender 35 = .ok (.ireturn, 1) := by decide +kernel
theorem dX9_whose_0 : decode cX9_whose 0 = .ok (.aload_n 0, 1) := by decide +kernel
theorem dX9_whose_1 : decode cX9_whose 1 = .ok (.getfield 19, 3) := by decide +kernel
theorem dX9_whose_4 : decode cX9_whose 4 = .ok (.getfield 72, 3) := by decide +kernel
theorem dX9_whose_7 : decode cX9_whose 7 = .ok (.iload_n 1, 1) := by decide +kernel
theorem dX9_whose_8 : decode cX9_whose 8 = .ok (.invokevirtual 98, 3) := by decide +kernel
theorem dX9_whose_11 : decode cX9_whose 11 = .ok (.ifCond .eq 18, 3) := by decide +kernel
theorem dX9_whose_14 : decode cX9_whose 14 = .ok (.aload_n 0, 1) := by decide +kernel
theorem dX9_whose_15 : decode cX9_whose 15 = .ok (.getfield 19, 3) := by decide +kernel
theorem dX9_whose_18 : decode cX9_whose 18 = .ok (.getfield 72, 3) := by decide +kernel
theorem dX9_whose_21 : decode cX9_whose 21 = .ok (.getfield 102, 3) := by decide +kernel
theorem dX9_whose_24 : decode cX9_whose 24 = .ok (.iload_n 1, 1) := by decide +kernel
theorem dX9_whose_25 : decode cX9_whose 25 = .ok (.iaload, 1) := by decide +kernel
theorem dX9_whose_26 : decode cX9_whose 26 = .ok (.goto 4, 3) := by decide +kernel
theorem dX9_whose_29 : decode cX9_whose 29 = .ok (.iconst (-1), 1) := by decide +kernel
theorem dX9_whose_30 : decode cX9_whose 30 = .ok (.ireturn, 1) := by decide +kernel
theorem dX9_ifRun_0 : decode cX9_ifRun 0 = .ok (.bipush 18, 2) := by decide +kernel
theorem dX9_ifRun_2 : decode cX9_ifRun 2 = .ok (.iload_n 1, 1) := by decide +kernel
theorem dX9_ifRun_3 : decode cX9_ifRun 3 = .ok (.invokestatic 56, 3) := by decide +kernel
theorem dX9_ifRun_6 : decode cX9_ifRun 6 = .ok (.ifCond .eq 12, 3) := by decide +kernel
theorem dX9_ifRun_9 : decode cX9_ifRun 9 = .ok (.iload_n 2, 1) := by decide +kernel
theorem dX9_ifRun_10 : decode cX9_ifRun 10 = .ok (.ifCond .lt 8, 3) := by decide +kernel
theorem dX9_ifRun_13 : decode cX9_ifRun 13 = .ok (.iload_n 2, 1) := by decide +kernel
theorem dX9_ifRun_14 : decode cX9_ifRun 14 = .ok (.iconst 5, 1) := by decide +kernel
theorem dX9_ifRun_15 : decode cX9_ifRun 15 = .ok (.if_icmp .le 5, 3) := by decide +kernel
theorem dX9_ifRun_18 : decode cX9_ifRun 18 = .ok (.iconst (-1), 1) := by decide +kernel
theorem dX9_ifRun_19 : decode cX9_ifRun 19 = .ok (.ireturn, 1) := by decide +kernel
theorem dX9_ifRun_20 : decode cX9_ifRun 20 = .ok (.aload_n 0, 1) := by decide +kernel
theorem dX9_ifRun_21 : decode cX9_ifRun 21 = .ok (.getfield 26, 3) := by decide +kernel
theorem dX9_ifRun_24 : decode cX9_ifRun 24 = .ok (.aload_n 0, 1) := by decide +kernel
theorem dX9_ifRun_25 : decode cX9_ifRun 25 = .ok (.getfield 19, 3) := by decide +kernel
theorem dX9_ifRun_28 : decode cX9_ifRun 28 = .ok (.iload_n 1, 1) := by decide +kernel
theorem dX9_ifRun_29 : decode cX9_ifRun 29 = .ok (.iload_n 2, 1) := by decide +kernel
theorem dX9_ifRun_30 : decode cX9_ifRun 30 = .ok (.invokevirtual 105, 3) := by decide +kernel
theorem dX9_ifRun_33 : decode cX9_ifRun 33 = .ok (.ireturn, 1) := by decide +kernel
theorem dX9_firstCut_0 : decode cX9_firstCut 0 = .ok (.bipush 18, 2) := by decide +kernel
theorem dX9_firstCut_2 : decode cX9_firstCut 2 = .ok (.iload_n 1, 1) := by decide +kernel
theorem dX9_firstCut_3 : decode cX9_firstCut 3 = .ok (.invokestatic 56, 3) := by decide +kernel
theorem dX9_firstCut_6 : decode cX9_firstCut 6 = .ok (.ifCond .eq 18, 3) := by decide +kernel
theorem dX9_firstCut_9 : decode cX9_firstCut 9 = .ok (.aload_n 0, 1) := by decide +kernel
theorem dX9_firstCut_10 : decode cX9_firstCut 10 = .ok (.getfield 26, 3) := by decide +kernel
theorem dX9_firstCut_13 : decode cX9_firstCut 13 = .ok (.aload_n 0, 1) := by decide +kernel
theorem dX9_firstCut_14 : decode cX9_firstCut 14 = .ok (.getfield 19, 3) := by decide +kernel
theorem dX9_firstCut_17 : decode cX9_firstCut 17 = .ok (.iload_n 1, 1) := by decide +kernel
theorem dX9_firstCut_18 : decode cX9_firstCut 18 = .ok (.invokevirtual 109, 3) := by decide +kernel
theorem dX9_firstCut_21 : decode cX9_firstCut 21 = .ok (.goto 4, 3) := by decide +kernel
theorem dX9_firstCut_24 : decode cX9_firstCut 24 = .ok (.iconst (-1), 1) := by decide +kernel
theorem dX9_firstCut_25 : decode cX9_firstCut 25 = .ok (.ireturn, 1) := by decide +kernel
theorem dX9_leastLimit_0 : decode cX9_leastLimit 0 = .ok (.bipush 18, 2) := by decide +kernel
theorem dX9_leastLimit_2 : decode cX9_leastLimit 2 = .ok (.iload_n 1, 1) := by decide +kernel
theorem dX9_leastLimit_3 : decode cX9_leastLimit 3 = .ok (.invokestatic 56, 3) := by decide +kernel
theorem dX9_leastLimit_6 : decode cX9_leastLimit 6 = .ok (.ifCond .eq 18, 3) := by decide +kernel
theorem dX9_leastLimit_9 : decode cX9_leastLimit 9 = .ok (.aload_n 0, 1) := by decide +kernel
theorem dX9_leastLimit_10 : decode cX9_leastLimit 10 = .ok (.getfield 26, 3) := by decide +kernel
theorem dX9_leastLimit_13 : decode cX9_leastLimit 13 = .ok (.aload_n 0, 1) := by decide +kernel
theorem dX9_leastLimit_14 : decode cX9_leastLimit 14 = .ok (.getfield 19, 3) := by decide +kernel
theorem dX9_leastLimit_17 : decode cX9_leastLimit 17 = .ok (.iload_n 1, 1) := by decide +kernel
theorem dX9_leastLimit_18 : decode cX9_leastLimit 18 = .ok (.invokevirtual 113, 3) := by decide +kernel
theorem dX9_leastLimit_21 : decode cX9_leastLimit 21 = .ok (.goto 4, 3) := by decide +kernel
theorem dX9_leastLimit_24 : decode cX9_leastLimit 24 = .ok (.iconst (-1), 1) := by decide +kernel
theorem dX9_leastLimit_25 : decode cX9_leastLimit 25 = .ok (.ireturn, 1) := by decide +kernel
theorem dX9_bestTarget_0 : decode cX9_bestTarget 0 = .ok (.bipush 18, 2) := by decide +kernel
theorem dX9_bestTarget_2 : decode cX9_bestTarget 2 = .ok (.iload_n 1, 1) := by decide +kernel
theorem dX9_bestTarget_3 : decode cX9_bestTarget 3 = .ok (.invokestatic 56, 3) := by decide +kernel
theorem dX9_bestTarget_6 : decode cX9_bestTarget 6 = .ok (.ifCond .eq 18, 3) := by decide +kernel
theorem dX9_bestTarget_9 : decode cX9_bestTarget 9 = .ok (.aload_n 0, 1) := by decide +kernel
theorem dX9_bestTarget_10 : decode cX9_bestTarget 10 = .ok (.getfield 26, 3) := by decide +kernel
theorem dX9_bestTarget_13 : decode cX9_bestTarget 13 = .ok (.aload_n 0, 1) := by decide +kernel
theorem dX9_bestTarget_14 : decode cX9_bestTarget 14 = .ok (.getfield 19, 3) := by decide +kernel
theorem dX9_bestTarget_17 : decode cX9_bestTarget 17 = .ok (.iload_n 1, 1) := by decide +kernel
theorem dX9_bestTarget_18 : decode cX9_bestTarget 18 = .ok (.invokevirtual 116, 3) := by decide +kernel
theorem dX9_bestTarget_21 : decode cX9_bestTarget 21 = .ok (.goto 4, 3) := by decide +kernel
theorem dX9_bestTarget_24 : decode cX9_bestTarget 24 = .ok (.iconst (-1), 1) := by decide +kernel
theorem dX9_bestTarget_25 : decode cX9_bestTarget 25 = .ok (.ireturn, 1) := by decide +kernel
theorem dX9_settle_0 : decode cX9_settle 0 = .ok (.iload_n 1, 1) := by decide +kernel
theorem dX9_settle_1 : decode cX9_settle 1 = .ok (.ifCond .lt 11, 3) := by decide +kernel
theorem dX9_settle_4 : decode cX9_settle 4 = .ok (.iload_n 1, 1) := by decide +kernel
theorem dX9_settle_5 : decode cX9_settle 5 = .ok (.getstatic 119, 3) := by decide +kernel
theorem dX9_settle_8 : decode cX9_settle 8 = .ok (.arraylength, 1) := by decide +kernel
theorem dX9_settle_9 : decode cX9_settle 9 = .ok (.if_icmp .lt 5, 3) := by decide +kernel
theorem dX9_settle_12 : decode cX9_settle 12 = .ok (.iconst (-1), 1) := by decide +kernel
theorem dX9_settle_13 : decode cX9_settle 13 = .ok (.ireturn, 1) := by decide +kernel
theorem dX9_settle_14 : decode cX9_settle 14 = .ok (.getstatic 119, 3) := by decide +kernel
theorem dX9_settle_17 : decode cX9_settle 17 = .ok (.iload_n 1, 1) := by decide +kernel
theorem dX9_settle_18 : decode cX9_settle 18 = .ok (.iaload, 1) := by decide +kernel
theorem dX9_settle_19 : decode cX9_settle 19 = .ok (.istore_n 3, 1) := by decide +kernel
theorem dX9_settle_20 : decode cX9_settle 20 = .ok (.iload_n 3, 1) := by decide +kernel
theorem dX9_settle_21 : decode cX9_settle 21 = .ok (.iload_n 2, 1) := by decide +kernel
theorem dX9_settle_22 : decode cX9_settle 22 = .ok (.invokestatic 56, 3) := by decide +kernel
theorem dX9_settle_25 : decode cX9_settle 25 = .ok (.ifCond .ne 5, 3) := by decide +kernel
theorem dX9_settle_28 : decode cX9_settle 28 = .ok (.iconst (-1), 1) := by decide +kernel
theorem dX9_settle_29 : decode cX9_settle 29 = .ok (.ireturn, 1) := by decide +kernel
theorem dX9_settle_30 : decode cX9_settle 30 = .ok (.aload_n 0, 1) := by decide +kernel
theorem dX9_settle_31 : decode cX9_settle 31 = .ok (.getfield 19, 3) := by decide +kernel
theorem dX9_settle_34 : decode cX9_settle 34 = .ok (.getfield 122, 3) := by decide +kernel
theorem dX9_settle_37 : decode cX9_settle 37 = .ok (.iload_n 3, 1) := by decide +kernel
theorem dX9_settle_38 : decode cX9_settle 38 = .ok (.iaload, 1) := by decide +kernel
theorem dX9_settle_39 : decode cX9_settle 39 = .ok (.istore 4, 2) := by decide +kernel
theorem dX9_settle_41 : decode cX9_settle 41 = .ok (.aload_n 0, 1) := by decide +kernel
theorem dX9_settle_42 : decode cX9_settle 42 = .ok (.getfield 19, 3) := by decide +kernel
theorem dX9_settle_45 : decode cX9_settle 45 = .ok (.getfield 122, 3) := by decide +kernel
theorem dX9_settle_48 : decode cX9_settle 48 = .ok (.iload_n 3, 1) := by decide +kernel
theorem dX9_settle_49 : decode cX9_settle 49 = .ok (.iload_n 2, 1) := by decide +kernel
theorem dX9_settle_50 : decode cX9_settle 50 = .ok (.iastore, 1) := by decide +kernel
theorem dX9_settle_51 : decode cX9_settle 51 = .ok (.iload 4, 2) := by decide +kernel
theorem dX9_settle_53 : decode cX9_settle 53 = .ok (.ireturn, 1) := by decide +kernel
theorem dX9_watch_0 : decode cX9_watch 0 = .ok (.iload_n 1, 1) := by decide +kernel
theorem dX9_watch_1 : decode cX9_watch 1 = .ok (.ifCond .lt 18, 3) := by decide +kernel
theorem dX9_watch_4 : decode cX9_watch 4 = .ok (.iload_n 1, 1) := by decide +kernel
theorem dX9_watch_5 : decode cX9_watch 5 = .ok (.iconst 5, 1) := by decide +kernel
theorem dX9_watch_6 : decode cX9_watch 6 = .ok (.if_icmp .gt 13, 3) := by decide +kernel
theorem dX9_watch_9 : decode cX9_watch 9 = .ok (.iload_n 2, 1) := by decide +kernel
theorem dX9_watch_10 : decode cX9_watch 10 = .ok (.ifCond .lt 9, 3) := by decide +kernel
theorem dX9_watch_13 : decode cX9_watch 13 = .ok (.iload_n 2, 1) := by decide +kernel
theorem dX9_watch_14 : decode cX9_watch 14 = .ok (.ldc 125, 2) := by decide +kernel
theorem dX9_watch_16 : decode cX9_watch 16 = .ok (.if_icmp .le 5, 3) := by decide +kernel
theorem dX9_watch_19 : decode cX9_watch 19 = .ok (.iconst (-1), 1) := by decide +kernel
theorem dX9_watch_20 : decode cX9_watch 20 = .ok (.ireturn, 1) := by decide +kernel
theorem dX9_watch_21 : decode cX9_watch 21 = .ok (.aload_n 0, 1) := by decide +kernel
theorem dX9_watch_22 : decode cX9_watch 22 = .ok (.getfield 19, 3) := by decide +kernel
theorem dX9_watch_25 : decode cX9_watch 25 = .ok (.getfield 126, 3) := by decide +kernel
theorem dX9_watch_28 : decode cX9_watch 28 = .ok (.iload_n 1, 1) := by decide +kernel
theorem dX9_watch_29 : decode cX9_watch 29 = .ok (.iload_n 2, 1) := by decide +kernel
theorem dX9_watch_30 : decode cX9_watch 30 = .ok (.invokevirtual 130, 3) := by decide +kernel
theorem dX9_watch_33 : decode cX9_watch 33 = .ok (.ireturn, 1) := by decide +kernel
theorem dX9_watched_0 : decode cX9_watched 0 = .ok (.iload_n 1, 1) := by decide +kernel
theorem dX9_watched_1 : decode cX9_watched 1 = .ok (.ifCond .ge 5, 3) := by decide +kernel
theorem dX9_watched_4 : decode cX9_watched 4 = .ok (.iconst (-1), 1) := by decide +kernel
theorem dX9_watched_5 : decode cX9_watched 5 = .ok (.ireturn, 1) := by decide +kernel
theorem dX9_watched_6 : decode cX9_watched 6 = .ok (.aload_n 0, 1) := by decide +kernel
theorem dX9_watched_7 : decode cX9_watched 7 = .ok (.getfield 19, 3) := by decide +kernel
theorem dX9_watched_10 : decode cX9_watched 10 = .ok (.getfield 126, 3) := by decide +kernel
theorem dX9_watched_13 : decode cX9_watched 13 = .ok (.iload_n 1, 1) := by decide +kernel
theorem dX9_watched_14 : decode cX9_watched 14 = .ok (.invokevirtual 136, 3) := by decide +kernel
theorem dX9_watched_17 : decode cX9_watched 17 = .ok (.ireturn, 1) := by decide +kernel
theorem dX9_set_0 : decode cX9_set 0 = .ok (.bipush 13, 2) := by decide +kernel
theorem dX9_set_2 : decode cX9_set 2 = .ok (.iload_n 1, 1) := by decide +kernel
theorem dX9_set_3 : decode cX9_set 3 = .ok (.invokestatic 56, 3) := by decide +kernel
theorem dX9_set_6 : decode cX9_set 6 = .ok (.ifCond .eq 14, 3) := by decide +kernel
theorem dX9_set_9 : decode cX9_set 9 = .ok (.aload_n 0, 1) := by decide +kernel
theorem dX9_set_10 : decode cX9_set 10 = .ok (.getfield 19, 3) := by decide +kernel
theorem dX9_set_13 : decode cX9_set 13 = .ok (.iload_n 1, 1) := by decide +kernel
theorem dX9_set_14 : decode cX9_set 14 = .ok (.invokevirtual 137, 3) := by decide +kernel
theorem dX9_set_17 : decode cX9_set 17 = .ok (.goto 4, 3) := by decide +kernel
theorem dX9_set_20 : decode cX9_set 20 = .ok (.iconst (-1), 1) := by decide +kernel
theorem dX9_set_21 : decode cX9_set 21 = .ok (.ireturn, 1) := by decide +kernel
theorem dX9_bucketFor_0 : decode cX9_bucketFor 0 = .ok (.bipush 13, 2) := by decide +kernel
theorem dX9_bucketFor_2 : decode cX9_bucketFor 2 = .ok (.iload_n 1, 1) := by decide +kernel
theorem dX9_bucketFor_3 : decode cX9_bucketFor 3 = .ok (.invokestatic 56, 3) := by decide +kernel
theorem dX9_bucketFor_6 : decode cX9_bucketFor 6 = .ok (.ifCond .eq 14, 3) := by decide +kernel
theorem dX9_bucketFor_9 : decode cX9_bucketFor 9 = .ok (.aload_n 0, 1) := by decide +kernel
theorem dX9_bucketFor_10 : decode cX9_bucketFor 10 = .ok (.getfield 19, 3) := by decide +kernel
theorem dX9_bucketFor_13 : decode cX9_bucketFor 13 = .ok (.iload_n 1, 1) := by decide +kernel
theorem dX9_bucketFor_14 : decode cX9_bucketFor 14 = .ok (.invokevirtual 140, 3) := by decide +kernel
theorem dX9_bucketFor_17 : decode cX9_bucketFor 17 = .ok (.goto 4, 3) := by decide +kernel
theorem dX9_bucketFor_20 : decode cX9_bucketFor 20 = .ok (.iconst (-1), 1) := by decide +kernel
theorem dX9_bucketFor_21 : decode cX9_bucketFor 21 = .ok (.ireturn, 1) := by decide +kernel
theorem dX9_inBucket_0 : decode cX9_inBucket 0 = .ok (.aload_n 0, 1) := by decide +kernel
theorem dX9_inBucket_1 : decode cX9_inBucket 1 = .ok (.getfield 19, 3) := by decide +kernel
theorem dX9_inBucket_4 : decode cX9_inBucket 4 = .ok (.iload_n 1, 1) := by decide +kernel
theorem dX9_inBucket_5 : decode cX9_inBucket 5 = .ok (.invokevirtual 143, 3) := by decide +kernel
theorem dX9_inBucket_8 : decode cX9_inBucket 8 = .ok (.ifCond .eq 7, 3) := by decide +kernel
theorem dX9_inBucket_11 : decode cX9_inBucket 11 = .ok (.iload_n 2, 1) := by decide +kernel
theorem dX9_inBucket_12 : decode cX9_inBucket 12 = .ok (.ifCond .ge 5, 3) := by decide +kernel
theorem dX9_inBucket_15 : decode cX9_inBucket 15 = .ok (.iconst (-1), 1) := by decide +kernel
theorem dX9_inBucket_16 : decode cX9_inBucket 16 = .ok (.ireturn, 1) := by decide +kernel
theorem dX9_inBucket_17 : decode cX9_inBucket 17 = .ok (.aload_n 0, 1) := by decide +kernel
theorem dX9_inBucket_18 : decode cX9_inBucket 18 = .ok (.getfield 19, 3) := by decide +kernel
theorem dX9_inBucket_21 : decode cX9_inBucket 21 = .ok (.getfield 72, 3) := by decide +kernel
theorem dX9_inBucket_24 : decode cX9_inBucket 24 = .ok (.aload_n 0, 1) := by decide +kernel
theorem dX9_inBucket_25 : decode cX9_inBucket 25 = .ok (.getfield 19, 3) := by decide +kernel
theorem dX9_inBucket_28 : decode cX9_inBucket 28 = .ok (.getfield 158, 3) := by decide +kernel
theorem dX9_inBucket_31 : decode cX9_inBucket 31 = .ok (.iload_n 1, 1) := by decide +kernel
theorem dX9_inBucket_32 : decode cX9_inBucket 32 = .ok (.aaload, 1) := by decide +kernel
theorem dX9_inBucket_33 : decode cX9_inBucket 33 = .ok (.getfield 165, 3) := by decide +kernel
theorem dX9_inBucket_36 : decode cX9_inBucket 36 = .ok (.iload_n 2, 1) := by decide +kernel
theorem dX9_inBucket_37 : decode cX9_inBucket 37 = .ok (.invokevirtual 168, 3) := by decide +kernel
theorem dX9_inBucket_40 : decode cX9_inBucket 40 = .ok (.ireturn, 1) := by decide +kernel
theorem dX9_order_0 : decode cX9_order 0 = .ok (.iload_n 1, 1) := by decide +kernel
theorem dX9_order_1 : decode cX9_order 1 = .ok (.ifCond .ge 7, 3) := by decide +kernel
theorem dX9_order_4 : decode cX9_order 4 = .ok (.iconst (-1), 1) := by decide +kernel
theorem dX9_order_5 : decode cX9_order 5 = .ok (.goto 14, 3) := by decide +kernel
theorem dX9_order_8 : decode cX9_order 8 = .ok (.aload_n 0, 1) := by decide +kernel
theorem dX9_order_9 : decode cX9_order 9 = .ok (.getfield 19, 3) := by decide +kernel
theorem dX9_order_12 : decode cX9_order 12 = .ok (.getfield 171, 3) := by decide +kernel
theorem dX9_order_15 : decode cX9_order 15 = .ok (.iload_n 1, 1) := by decide +kernel
theorem dX9_order_16 : decode cX9_order 16 = .ok (.invokevirtual 175, 3) := by decide +kernel
theorem dX9_order_19 : decode cX9_order 19 = .ok (.ireturn, 1) := by decide +kernel
theorem dX9_frame_0 : decode cX9_frame 0 = .ok (.aload_n 0, 1) := by decide +kernel
theorem dX9_frame_1 : decode cX9_frame 1 = .ok (.getfield 19, 3) := by decide +kernel
theorem dX9_frame_4 : decode cX9_frame 4 = .ok (.getfield 72, 3) := by decide +kernel
theorem dX9_frame_7 : decode cX9_frame 7 = .ok (.iload_n 1, 1) := by decide +kernel
theorem dX9_frame_8 : decode cX9_frame 8 = .ok (.iload_n 2, 1) := by decide +kernel
theorem dX9_frame_9 : decode cX9_frame 9 = .ok (.invokevirtual 180, 3) := by decide +kernel
theorem dX9_frame_12 : decode cX9_frame 12 = .ok (.ireturn, 1) := by decide +kernel
theorem dX9_past_0 : decode cX9_past 0 = .ok (.iload_n 1, 1) := by decide +kernel
theorem dX9_past_1 : decode cX9_past 1 = .ok (.ifCond .lt 15, 3) := by decide +kernel
theorem dX9_past_4 : decode cX9_past 4 = .ok (.iload_n 1, 1) := by decide +kernel
theorem dX9_past_5 : decode cX9_past 5 = .ok (.getstatic 182, 3) := by decide +kernel
theorem dX9_past_8 : decode cX9_past 8 = .ok (.arraylength, 1) := by decide +kernel
theorem dX9_past_9 : decode cX9_past 9 = .ok (.if_icmp .ge 7, 3) := by decide +kernel
theorem dX9_past_12 : decode cX9_past 12 = .ok (.iload_n 2, 1) := by decide +kernel
theorem dX9_past_13 : decode cX9_past 13 = .ok (.ifCond .ge 5, 3) := by decide +kernel
theorem dX9_past_16 : decode cX9_past 16 = .ok (.iconst (-1), 1) := by decide +kernel
theorem dX9_past_17 : decode cX9_past 17 = .ok (.ireturn, 1) := by decide +kernel
theorem dX9_past_18 : decode cX9_past 18 = .ok (.aload_n 0, 1) := by decide +kernel
theorem dX9_past_19 : decode cX9_past 19 = .ok (.getfield 19, 3) := by decide +kernel
theorem dX9_past_22 : decode cX9_past 22 = .ok (.getfield 72, 3) := by decide +kernel
theorem dX9_past_25 : decode cX9_past 25 = .ok (.getstatic 182, 3) := by decide +kernel
theorem dX9_past_28 : decode cX9_past 28 = .ok (.iload_n 1, 1) := by decide +kernel
theorem dX9_past_29 : decode cX9_past 29 = .ok (.iaload, 1) := by decide +kernel
theorem dX9_past_30 : decode cX9_past 30 = .ok (.iload_n 2, 1) := by decide +kernel
theorem dX9_past_31 : decode cX9_past 31 = .ok (.invokevirtual 185, 3) := by decide +kernel
theorem dX9_past_34 : decode cX9_past 34 = .ok (.ireturn, 1) := by decide +kernel
theorem dX9_eldest_0 : decode cX9_eldest 0 = .ok (.aload_n 0, 1) := by decide +kernel
theorem dX9_eldest_1 : decode cX9_eldest 1 = .ok (.getfield 19, 3) := by decide +kernel
theorem dX9_eldest_4 : decode cX9_eldest 4 = .ok (.iload_n 1, 1) := by decide +kernel
theorem dX9_eldest_5 : decode cX9_eldest 5 = .ok (.invokevirtual 143, 3) := by decide +kernel
theorem dX9_eldest_8 : decode cX9_eldest 8 = .ok (.ifCond .eq 12, 3) := by decide +kernel
theorem dX9_eldest_11 : decode cX9_eldest 11 = .ok (.iload_n 2, 1) := by decide +kernel
theorem dX9_eldest_12 : decode cX9_eldest 12 = .ok (.ifCond .lt 8, 3) := by decide +kernel
theorem dX9_eldest_15 : decode cX9_eldest 15 = .ok (.iload_n 2, 1) := by decide +kernel
theorem dX9_eldest_16 : decode cX9_eldest 16 = .ok (.iconst 1, 1) := by decide +kernel
theorem dX9_eldest_17 : decode cX9_eldest 17 = .ok (.if_icmp .le 5, 3) := by decide +kernel
theorem dX9_eldest_20 : decode cX9_eldest 20 = .ok (.iconst (-1), 1) := by decide +kernel
theorem dX9_eldest_21 : decode cX9_eldest 21 = .ok (.ireturn, 1) := by decide +kernel
theorem dX9_eldest_22 : decode cX9_eldest 22 = .ok (.aload_n 0, 1) := by decide +kernel
theorem dX9_eldest_23 : decode cX9_eldest 23 = .ok (.getfield 19, 3) := by decide +kernel
theorem dX9_eldest_26 : decode cX9_eldest 26 = .ok (.getfield 158, 3) := by decide +kernel
theorem dX9_eldest_29 : decode cX9_eldest 29 = .ok (.iload_n 1, 1) := by decide +kernel
theorem dX9_eldest_30 : decode cX9_eldest 30 = .ok (.aaload, 1) := by decide +kernel
theorem dX9_eldest_31 : decode cX9_eldest 31 = .ok (.getfield 165, 3) := by decide +kernel
theorem dX9_eldest_34 : decode cX9_eldest 34 = .ok (.istore_n 3, 1) := by decide +kernel
theorem dX9_eldest_35 : decode cX9_eldest 35 = .ok (.aload_n 0, 1) := by decide +kernel
theorem dX9_eldest_36 : decode cX9_eldest 36 = .ok (.getfield 19, 3) := by decide +kernel
theorem dX9_eldest_39 : decode cX9_eldest 39 = .ok (.getfield 72, 3) := by decide +kernel
theorem dX9_eldest_42 : decode cX9_eldest 42 = .ok (.iload_n 3, 1) := by decide +kernel
theorem dX9_eldest_43 : decode cX9_eldest 43 = .ok (.invokevirtual 98, 3) := by decide +kernel
theorem dX9_eldest_46 : decode cX9_eldest 46 = .ok (.ifCond .ne 6, 3) := by decide +kernel
theorem dX9_eldest_49 : decode cX9_eldest 49 = .ok (.bipush (-2), 2) := by decide +kernel
theorem dX9_eldest_51 : decode cX9_eldest 51 = .ok (.ireturn, 1) := by decide +kernel
theorem dX9_eldest_52 : decode cX9_eldest 52 = .ok (.iload_n 2, 1) := by decide +kernel
theorem dX9_eldest_53 : decode cX9_eldest 53 = .ok (.ifCond .ne 26, 3) := by decide +kernel
theorem dX9_eldest_56 : decode cX9_eldest 56 = .ok (.aload_n 0, 1) := by decide +kernel
theorem dX9_eldest_57 : decode cX9_eldest 57 = .ok (.getfield 19, 3) := by decide +kernel
theorem dX9_eldest_60 : decode cX9_eldest 60 = .ok (.getfield 64, 3) := by decide +kernel
theorem dX9_eldest_63 : decode cX9_eldest 63 = .ok (.aload_n 0, 1) := by decide +kernel
theorem dX9_eldest_64 : decode cX9_eldest 64 = .ok (.getfield 19, 3) := by decide +kernel
theorem dX9_eldest_67 : decode cX9_eldest 67 = .ok (.getfield 72, 3) := by decide +kernel
theorem dX9_eldest_70 : decode cX9_eldest 70 = .ok (.getfield 188, 3) := by decide +kernel
theorem dX9_eldest_73 : decode cX9_eldest 73 = .ok (.iload_n 3, 1) := by decide +kernel
theorem dX9_eldest_74 : decode cX9_eldest 74 = .ok (.iaload, 1) := by decide +kernel
theorem dX9_eldest_75 : decode cX9_eldest 75 = .ok (.isub, 1) := by decide +kernel
theorem dX9_eldest_76 : decode cX9_eldest 76 = .ok (.goto 4, 3) := by decide +kernel
theorem dX9_eldest_79 : decode cX9_eldest 79 = .ok (.iload_n 3, 1) := by decide +kernel
theorem dX9_eldest_80 : decode cX9_eldest 80 = .ok (.ireturn, 1) := by decide +kernel
theorem dX9_least_0 : decode cX9_least 0 = .ok (.aload_n 0, 1) := by decide +kernel
theorem dX9_least_1 : decode cX9_least 1 = .ok (.getfield 19, 3) := by decide +kernel
theorem dX9_least_4 : decode cX9_least 4 = .ok (.iload_n 1, 1) := by decide +kernel
theorem dX9_least_5 : decode cX9_least 5 = .ok (.invokevirtual 191, 3) := by decide +kernel
theorem dX9_least_8 : decode cX9_least 8 = .ok (.ireturn, 1) := by decide +kernel
theorem dX9_rootBy_0 : decode cX9_rootBy 0 = .ok (.iload_n 1, 1) := by decide +kernel
theorem dX9_rootBy_1 : decode cX9_rootBy 1 = .ok (.iconst 1, 1) := by decide +kernel
theorem dX9_rootBy_2 : decode cX9_rootBy 2 = .ok (.if_icmp .lt 10, 3) := by decide +kernel
theorem dX9_rootBy_5 : decode cX9_rootBy 5 = .ok (.iload_n 1, 1) := by decide +kernel
theorem dX9_rootBy_6 : decode cX9_rootBy 6 = .ok (.sipush 999, 3) := by decide +kernel
theorem dX9_rootBy_9 : decode cX9_rootBy 9 = .ok (.if_icmp .le 7, 3) := by decide +kernel
theorem dX9_rootBy_12 : decode cX9_rootBy 12 = .ok (.iconst (-1), 1) := by decide +kernel
theorem dX9_rootBy_13 : decode cX9_rootBy 13 = .ok (.goto 7, 3) := by decide +kernel
theorem dX9_rootBy_16 : decode cX9_rootBy 16 = .ok (.iload_n 1, 1) := by decide +kernel
theorem dX9_rootBy_17 : decode cX9_rootBy 17 = .ok (.invokestatic 196, 3) := by decide +kernel
theorem dX9_rootBy_20 : decode cX9_rootBy 20 = .ok (.ireturn, 1) := by decide +kernel
theorem dX9_exact_0 : decode cX9_exact 0 = .ok (.iload_n 1, 1) := by decide +kernel
theorem dX9_exact_1 : decode cX9_exact 1 = .ok (.iconst 1, 1) := by decide +kernel
theorem dX9_exact_2 : decode cX9_exact 2 = .ok (.if_icmp .lt 10, 3) := by decide +kernel
theorem dX9_exact_5 : decode cX9_exact 5 = .ok (.iload_n 1, 1) := by decide +kernel
theorem dX9_exact_6 : decode cX9_exact 6 = .ok (.sipush 999, 3) := by decide +kernel
theorem dX9_exact_9 : decode cX9_exact 9 = .ok (.if_icmp .le 7, 3) := by decide +kernel
theorem dX9_exact_12 : decode cX9_exact 12 = .ok (.iconst (-1), 1) := by decide +kernel
theorem dX9_exact_13 : decode cX9_exact 13 = .ok (.goto 7, 3) := by decide +kernel
theorem dX9_exact_16 : decode cX9_exact 16 = .ok (.iload_n 1, 1) := by decide +kernel
theorem dX9_exact_17 : decode cX9_exact 17 = .ok (.invokestatic 199, 3) := by decide +kernel
theorem dX9_exact_20 : decode cX9_exact 20 = .ok (.ireturn, 1) := by decide +kernel
theorem dX9_farthest_0 : decode cX9_farthest 0 = .ok (.iload_n 1, 1) := by decide +kernel
theorem dX9_farthest_1 : decode cX9_farthest 1 = .ok (.iconst 1, 1) := by decide +kernel
theorem dX9_farthest_2 : decode cX9_farthest 2 = .ok (.if_icmp .lt 19, 3) := by decide +kernel
theorem dX9_farthest_5 : decode cX9_farthest 5 = .ok (.iload_n 1, 1) := by decide +kernel
theorem dX9_farthest_6 : decode cX9_farthest 6 = .ok (.sipush 999, 3) := by decide +kernel
theorem dX9_farthest_9 : decode cX9_farthest 9 = .ok (.if_icmp .gt 12, 3) := by decide +kernel
theorem dX9_farthest_12 : decode cX9_farthest 12 = .ok (.iload_n 2, 1) := by decide +kernel
theorem dX9_farthest_13 : decode cX9_farthest 13 = .ok (.ifCond .lt 8, 3) := by decide +kernel
theorem dX9_farthest_16 : decode cX9_farthest 16 = .ok (.iload_n 2, 1) := by decide +kernel
theorem dX9_farthest_17 : decode cX9_farthest 17 = .ok (.iconst 1, 1) := by decide +kernel
theorem dX9_farthest_18 : decode cX9_farthest 18 = .ok (.if_icmp .le 5, 3) := by decide +kernel
theorem dX9_farthest_21 : decode cX9_farthest 21 = .ok (.iconst (-1), 1) := by decide +kernel
theorem dX9_farthest_22 : decode cX9_farthest 22 = .ok (.ireturn, 1) := by decide +kernel
theorem dX9_farthest_23 : decode cX9_farthest 23 = .ok (.iload_n 1, 1) := by decide +kernel
theorem dX9_farthest_24 : decode cX9_farthest 24 = .ok (.iload_n 2, 1) := by decide +kernel
theorem dX9_farthest_25 : decode cX9_farthest 25 = .ok (.invokestatic 202, 3) := by decide +kernel
theorem dX9_farthest_28 : decode cX9_farthest 28 = .ok (.ireturn, 1) := by decide +kernel
theorem dX9_flow_0 : decode cX9_flow 0 = .ok (.bipush 13, 2) := by decide +kernel
theorem dX9_flow_2 : decode cX9_flow 2 = .ok (.iload_n 1, 1) := by decide +kernel
theorem dX9_flow_3 : decode cX9_flow 3 = .ok (.invokestatic 56, 3) := by decide +kernel
theorem dX9_flow_6 : decode cX9_flow 6 = .ok (.ifCond .eq 12, 3) := by decide +kernel
theorem dX9_flow_9 : decode cX9_flow 9 = .ok (.iload_n 2, 1) := by decide +kernel
theorem dX9_flow_10 : decode cX9_flow 10 = .ok (.ifCond .lt 8, 3) := by decide +kernel
theorem dX9_flow_13 : decode cX9_flow 13 = .ok (.iload_n 2, 1) := by decide +kernel
theorem dX9_flow_14 : decode cX9_flow 14 = .ok (.iconst 3, 1) := by decide +kernel
theorem dX9_flow_15 : decode cX9_flow 15 = .ok (.if_icmp .le 5, 3) := by decide +kernel
theorem dX9_flow_18 : decode cX9_flow 18 = .ok (.iconst (-1), 1) := by decide +kernel
theorem dX9_flow_19 : decode cX9_flow 19 = .ok (.ireturn, 1) := by decide +kernel
theorem dX9_flow_20 : decode cX9_flow 20 = .ok (.aload_n 0, 1) := by decide +kernel
theorem dX9_flow_21 : decode cX9_flow 21 = .ok (.getfield 19, 3) := by decide +kernel
theorem dX9_flow_24 : decode cX9_flow 24 = .ok (.getfield 72, 3) := by decide +kernel
theorem dX9_flow_27 : decode cX9_flow 27 = .ok (.astore_n 3, 1) := by decide +kernel
theorem dX9_flow_28 : decode cX9_flow 28 = .ok (.iload_n 2, 1) := by decide +kernel
theorem dX9_flow_29 : decode cX9_flow 29 = .ok (.ifCond .ne 9, 3) := by decide +kernel
theorem dX9_flow_32 : decode cX9_flow 32 = .ok (.aload_n 3, 1) := by decide +kernel
theorem dX9_flow_33 : decode cX9_flow 33 = .ok (.iload_n 1, 1) := by decide +kernel
theorem dX9_flow_34 : decode cX9_flow 34 = .ok (.invokevirtual 205, 3) := by decide +kernel
theorem dX9_flow_37 : decode cX9_flow 37 = .ok (.ireturn, 1) := by decide +kernel
theorem dX9_flow_38 : decode cX9_flow 38 = .ok (.iload_n 2, 1) := by decide +kernel
theorem dX9_flow_39 : decode cX9_flow 39 = .ok (.iconst 1, 1) := by decide +kernel
theorem dX9_flow_40 : decode cX9_flow 40 = .ok (.if_icmp .ne 9, 3) := by decide +kernel
theorem dX9_flow_43 : decode cX9_flow 43 = .ok (.aload_n 3, 1) := by decide +kernel
theorem dX9_flow_44 : decode cX9_flow 44 = .ok (.iload_n 1, 1) := by decide +kernel
theorem dX9_flow_45 : decode cX9_flow 45 = .ok (.invokevirtual 208, 3) := by decide +kernel
theorem dX9_flow_48 : decode cX9_flow 48 = .ok (.ireturn, 1) := by decide +kernel
theorem dX9_flow_49 : decode cX9_flow 49 = .ok (.iload_n 2, 1) := by decide +kernel
theorem dX9_flow_50 : decode cX9_flow 50 = .ok (.iconst 2, 1) := by decide +kernel
theorem dX9_flow_51 : decode cX9_flow 51 = .ok (.if_icmp .ne 11, 3) := by decide +kernel
theorem dX9_flow_54 : decode cX9_flow 54 = .ok (.aload_n 3, 1) := by decide +kernel
theorem dX9_flow_55 : decode cX9_flow 55 = .ok (.iload_n 1, 1) := by decide +kernel
theorem dX9_flow_56 : decode cX9_flow 56 = .ok (.invokevirtual 211, 3) := by decide +kernel
theorem dX9_flow_59 : decode cX9_flow 59 = .ok (.goto 8, 3) := by decide +kernel
theorem dX9_flow_62 : decode cX9_flow 62 = .ok (.aload_n 3, 1) := by decide +kernel
theorem dX9_flow_63 : decode cX9_flow 63 = .ok (.iload_n 1, 1) := by decide +kernel
theorem dX9_flow_64 : decode cX9_flow 64 = .ok (.invokevirtual 214, 3) := by decide +kernel
theorem dX9_flow_67 : decode cX9_flow 67 = .ok (.ireturn, 1) := by decide +kernel
theorem dX9_uneven_0 : decode cX9_uneven 0 = .ok (.aload_n 0, 1) := by decide +kernel
theorem dX9_uneven_1 : decode cX9_uneven 1 = .ok (.getfield 19, 3) := by decide +kernel
theorem dX9_uneven_4 : decode cX9_uneven 4 = .ok (.getfield 72, 3) := by decide +kernel
theorem dX9_uneven_7 : decode cX9_uneven 7 = .ok (.invokevirtual 217, 3) := by decide +kernel
theorem dX9_uneven_10 : decode cX9_uneven 10 = .ok (.ireturn, 1) := by decide +kernel
theorem dX9_ahead_0 : decode cX9_ahead 0 = .ok (.iload_n 1, 1) := by decide +kernel
theorem dX9_ahead_1 : decode cX9_ahead 1 = .ok (.ifCond .ge 7, 3) := by decide +kernel
theorem dX9_ahead_4 : decode cX9_ahead 4 = .ok (.iconst (-1), 1) := by decide +kernel
theorem dX9_ahead_5 : decode cX9_ahead 5 = .ok (.goto 15, 3) := by decide +kernel
theorem dX9_ahead_8 : decode cX9_ahead 8 = .ok (.aload_n 0, 1) := by decide +kernel
theorem dX9_ahead_9 : decode cX9_ahead 9 = .ok (.getfield 26, 3) := by decide +kernel
theorem dX9_ahead_12 : decode cX9_ahead 12 = .ok (.aload_n 0, 1) := by decide +kernel
theorem dX9_ahead_13 : decode cX9_ahead 13 = .ok (.getfield 19, 3) := by decide +kernel
theorem dX9_ahead_16 : decode cX9_ahead 16 = .ok (.iload_n 1, 1) := by decide +kernel
theorem dX9_ahead_17 : decode cX9_ahead 17 = .ok (.invokevirtual 220, 3) := by decide +kernel
theorem dX9_ahead_20 : decode cX9_ahead 20 = .ok (.ireturn, 1) := by decide +kernel
theorem dX9_drain_0 : decode cX9_drain 0 = .ok (.iload_n 1, 1) := by decide +kernel
theorem dX9_drain_1 : decode cX9_drain 1 = .ok (.ifCond .lt 19, 3) := by decide +kernel
theorem dX9_drain_4 : decode cX9_drain 4 = .ok (.iload_n 1, 1) := by decide +kernel
theorem dX9_drain_5 : decode cX9_drain 5 = .ok (.sipush 999, 3) := by decide +kernel
theorem dX9_drain_8 : decode cX9_drain 8 = .ok (.if_icmp .gt 12, 3) := by decide +kernel
theorem dX9_drain_11 : decode cX9_drain 11 = .ok (.iload_n 2, 1) := by decide +kernel
theorem dX9_drain_12 : decode cX9_drain 12 = .ok (.ifCond .lt 8, 3) := by decide +kernel
theorem dX9_drain_15 : decode cX9_drain 15 = .ok (.iload_n 2, 1) := by decide +kernel
theorem dX9_drain_16 : decode cX9_drain 16 = .ok (.iconst 4, 1) := by decide +kernel
theorem dX9_drain_17 : decode cX9_drain 17 = .ok (.if_icmp .le 5, 3) := by decide +kernel
theorem dX9_drain_20 : decode cX9_drain 20 = .ok (.iconst (-1), 1) := by decide +kernel
theorem dX9_drain_21 : decode cX9_drain 21 = .ok (.ireturn, 1) := by decide +kernel
theorem dX9_drain_22 : decode cX9_drain 22 = .ok (.aload_n 0, 1) := by decide +kernel
theorem dX9_drain_23 : decode cX9_drain 23 = .ok (.getfield 26, 3) := by decide +kernel
theorem dX9_drain_26 : decode cX9_drain 26 = .ok (.aload_n 0, 1) := by decide +kernel
theorem dX9_drain_27 : decode cX9_drain 27 = .ok (.getfield 19, 3) := by decide +kernel
theorem dX9_drain_30 : decode cX9_drain 30 = .ok (.iload_n 1, 1) := by decide +kernel
theorem dX9_drain_31 : decode cX9_drain 31 = .ok (.iload_n 2, 1) := by decide +kernel
theorem dX9_drain_32 : decode cX9_drain 32 = .ok (.invokevirtual 223, 3) := by decide +kernel
theorem dX9_drain_35 : decode cX9_drain 35 = .ok (.ireturn, 1) := by decide +kernel
theorem dX9_leastTarget_0 : decode cX9_leastTarget 0 = .ok (.iload_n 1, 1) := by decide +kernel
theorem dX9_leastTarget_1 : decode cX9_leastTarget 1 = .ok (.ifCond .lt 10, 3) := by decide +kernel
theorem dX9_leastTarget_4 : decode cX9_leastTarget 4 = .ok (.iload_n 1, 1) := by decide +kernel
theorem dX9_leastTarget_5 : decode cX9_leastTarget 5 = .ok (.sipush 999, 3) := by decide +kernel
theorem dX9_leastTarget_8 : decode cX9_leastTarget 8 = .ok (.if_icmp .le 7, 3) := by decide +kernel
theorem dX9_leastTarget_11 : decode cX9_leastTarget 11 = .ok (.iconst (-1), 1) := by decide +kernel
theorem dX9_leastTarget_12 : decode cX9_leastTarget 12 = .ok (.goto 15, 3) := by decide +kernel
theorem dX9_leastTarget_15 : decode cX9_leastTarget 15 = .ok (.aload_n 0, 1) := by decide +kernel
theorem dX9_leastTarget_16 : decode cX9_leastTarget 16 = .ok (.getfield 26, 3) := by decide +kernel
theorem dX9_leastTarget_19 : decode cX9_leastTarget 19 = .ok (.aload_n 0, 1) := by decide +kernel
theorem dX9_leastTarget_20 : decode cX9_leastTarget 20 = .ok (.getfield 19, 3) := by decide +kernel
theorem dX9_leastTarget_23 : decode cX9_leastTarget 23 = .ok (.iload_n 1, 1) := by decide +kernel
theorem dX9_leastTarget_24 : decode cX9_leastTarget 24 = .ok (.invokevirtual 226, 3) := by decide +kernel
theorem dX9_leastTarget_27 : decode cX9_leastTarget 27 = .ok (.ireturn, 1) := by decide +kernel
theorem dX9_bestQuantum_0 : decode cX9_bestQuantum 0 = .ok (.iload_n 1, 1) := by decide +kernel
theorem dX9_bestQuantum_1 : decode cX9_bestQuantum 1 = .ok (.ifCond .lt 10, 3) := by decide +kernel
theorem dX9_bestQuantum_4 : decode cX9_bestQuantum 4 = .ok (.iload_n 1, 1) := by decide +kernel
theorem dX9_bestQuantum_5 : decode cX9_bestQuantum 5 = .ok (.sipush 999, 3) := by decide +kernel
theorem dX9_bestQuantum_8 : decode cX9_bestQuantum 8 = .ok (.if_icmp .le 7, 3) := by decide +kernel
theorem dX9_bestQuantum_11 : decode cX9_bestQuantum 11 = .ok (.iconst (-1), 1) := by decide +kernel
theorem dX9_bestQuantum_12 : decode cX9_bestQuantum 12 = .ok (.goto 15, 3) := by decide +kernel
theorem dX9_bestQuantum_15 : decode cX9_bestQuantum 15 = .ok (.aload_n 0, 1) := by decide +kernel
theorem dX9_bestQuantum_16 : decode cX9_bestQuantum 16 = .ok (.getfield 26, 3) := by decide +kernel
theorem dX9_bestQuantum_19 : decode cX9_bestQuantum 19 = .ok (.aload_n 0, 1) := by decide +kernel
theorem dX9_bestQuantum_20 : decode cX9_bestQuantum 20 = .ok (.getfield 19, 3) := by decide +kernel
theorem dX9_bestQuantum_23 : decode cX9_bestQuantum 23 = .ok (.iload_n 1, 1) := by decide +kernel
theorem dX9_bestQuantum_24 : decode cX9_bestQuantum 24 = .ok (.invokevirtual 229, 3) := by decide +kernel
theorem dX9_bestQuantum_27 : decode cX9_bestQuantum 27 = .ok (.ireturn, 1) := by decide +kernel
theorem dX9_shared_0 : decode cX9_shared 0 = .ok (.aload_n 0, 1) := by decide +kernel
theorem dX9_shared_1 : decode cX9_shared 1 = .ok (.getfield 19, 3) := by decide +kernel
theorem dX9_shared_4 : decode cX9_shared 4 = .ok (.getfield 72, 3) := by decide +kernel
theorem dX9_shared_7 : decode cX9_shared 7 = .ok (.invokevirtual 232, 3) := by decide +kernel
theorem dX9_shared_10 : decode cX9_shared 10 = .ok (.ireturn, 1) := by decide +kernel
theorem dX9_within_0 : decode cX9_within 0 = .ok (.iload_n 1, 1) := by decide +kernel
theorem dX9_within_1 : decode cX9_within 1 = .ok (.ifCond .lt 14, 3) := by decide +kernel
theorem dX9_within_4 : decode cX9_within 4 = .ok (.iload_n 2, 1) := by decide +kernel
theorem dX9_within_5 : decode cX9_within 5 = .ok (.iload_n 1, 1) := by decide +kernel
theorem dX9_within_6 : decode cX9_within 6 = .ok (.if_icmp .lt 9, 3) := by decide +kernel
theorem dX9_within_9 : decode cX9_within 9 = .ok (.iload_n 2, 1) := by decide +kernel
theorem dX9_within_10 : decode cX9_within 10 = .ok (.ldc 235, 2) := by decide +kernel
theorem dX9_within_12 : decode cX9_within 12 = .ok (.if_icmp .le 5, 3) := by decide +kernel
theorem dX9_within_15 : decode cX9_within 15 = .ok (.iconst (-1), 1) := by decide +kernel
theorem dX9_within_16 : decode cX9_within 16 = .ok (.ireturn, 1) := by decide +kernel
theorem dX9_within_17 : decode cX9_within 17 = .ok (.aload_n 0, 1) := by decide +kernel
theorem dX9_within_18 : decode cX9_within 18 = .ok (.getfield 19, 3) := by decide +kernel
theorem dX9_within_21 : decode cX9_within 21 = .ok (.getfield 72, 3) := by decide +kernel
theorem dX9_within_24 : decode cX9_within 24 = .ok (.iload_n 1, 1) := by decide +kernel
theorem dX9_within_25 : decode cX9_within 25 = .ok (.iload_n 2, 1) := by decide +kernel
theorem dX9_within_26 : decode cX9_within 26 = .ok (.invokevirtual 236, 3) := by decide +kernel
theorem dX9_within_29 : decode cX9_within 29 = .ok (.ireturn, 1) := by decide +kernel
theorem dX9_middle_0 : decode cX9_middle 0 = .ok (.aload_n 0, 1) := by decide +kernel
theorem dX9_middle_1 : decode cX9_middle 1 = .ok (.getfield 19, 3) := by decide +kernel
theorem dX9_middle_4 : decode cX9_middle 4 = .ok (.getfield 72, 3) := by decide +kernel
theorem dX9_middle_7 : decode cX9_middle 7 = .ok (.invokevirtual 239, 3) := by decide +kernel
theorem dX9_middle_10 : decode cX9_middle 10 = .ok (.ireturn, 1) := by decide +kernel
theorem dX9_load_0 : decode cX9_load 0 = .ok (.iload_n 1, 1) := by decide +kernel
theorem dX9_load_1 : decode cX9_load 1 = .ok (.ifCond .lt 16, 3) := by decide +kernel
theorem dX9_load_4 : decode cX9_load 4 = .ok (.iload_n 1, 1) := by decide +kernel
theorem dX9_load_5 : decode cX9_load 5 = .ok (.aload_n 0, 1) := by decide +kernel
theorem dX9_load_6 : decode cX9_load 6 = .ok (.getfield 19, 3) := by decide +kernel
theorem dX9_load_9 : decode cX9_load 9 = .ok (.getfield 122, 3) := by decide +kernel
theorem dX9_load_12 : decode cX9_load 12 = .ok (.iconst 3, 1) := by decide +kernel
theorem dX9_load_13 : decode cX9_load 13 = .ok (.iaload, 1) := by decide +kernel
theorem dX9_load_14 : decode cX9_load 14 = .ok (.if_icmp .lt 5, 3) := by decide +kernel
theorem dX9_load_17 : decode cX9_load 17 = .ok (.iconst (-1), 1) := by decide +kernel
theorem dX9_load_18 : decode cX9_load 18 = .ok (.ireturn, 1) := by decide +kernel
theorem dX9_load_19 : decode cX9_load 19 = .ok (.iconst 0, 1) := by decide +kernel
theorem dX9_load_20 : decode cX9_load 20 = .ok (.istore_n 2, 1) := by decide +kernel
theorem dX9_load_21 : decode cX9_load 21 = .ok (.iconst 0, 1) := by decide +kernel
theorem dX9_load_22 : decode cX9_load 22 = .ok (.istore_n 3, 1) := by decide +kernel
theorem dX9_load_23 : decode cX9_load 23 = .ok (.iload_n 3, 1) := by decide +kernel
theorem dX9_load_24 : decode cX9_load 24 = .ok (.sipush 10000, 3) := by decide +kernel
theorem dX9_load_27 : decode cX9_load 27 = .ok (.if_icmp .ge 24, 3) := by decide +kernel
theorem dX9_load_30 : decode cX9_load 30 = .ok (.aload_n 0, 1) := by decide +kernel
theorem dX9_load_31 : decode cX9_load 31 = .ok (.getfield 19, 3) := by decide +kernel
theorem dX9_load_34 : decode cX9_load 34 = .ok (.iload_n 3, 1) := by decide +kernel
theorem dX9_load_35 : decode cX9_load 35 = .ok (.invokevirtual 137, 3) := by decide +kernel
theorem dX9_load_38 : decode cX9_load 38 = .ok (.iload_n 1, 1) := by decide +kernel
theorem dX9_load_39 : decode cX9_load 39 = .ok (.if_icmp .ne 6, 3) := by decide +kernel
theorem dX9_load_42 : decode cX9_load 42 = .ok (.iinc 2 1, 3) := by decide +kernel
theorem dX9_load_45 : decode cX9_load 45 = .ok (.iinc 3 1, 3) := by decide +kernel
theorem dX9_load_48 : decode cX9_load 48 = .ok (.goto (-25), 3) := by decide +kernel
theorem dX9_load_51 : decode cX9_load 51 = .ok (.iload_n 2, 1) := by decide +kernel
theorem dX9_load_52 : decode cX9_load 52 = .ok (.ireturn, 1) := by decide +kernel
theorem dX9_count_0 : decode cX9_count 0 = .ok (.iload_n 1, 1) := by decide +kernel
theorem dX9_count_1 : decode cX9_count 1 = .ok (.tableswitch 306 0 19 #[95, 103, 114, 122, 130, 143, 156, 169, 182, 190, 209, 220, 230, 240, 250, 260, 271, 279, 290, 298], 95) := by decide +kernel
theorem dX9_count_96 : decode cX9_count 96 = .ok (.aload_n 0, 1) := by decide +kernel
theorem dX9_count_97 : decode cX9_count 97 = .ok (.getfield 19, 3) := by decide +kernel
theorem dX9_count_100 : decode cX9_count 100 = .ok (.getfield 64, 3) := by decide +kernel
theorem dX9_count_103 : decode cX9_count 103 = .ok (.ireturn, 1) := by decide +kernel
theorem dX9_count_104 : decode cX9_count 104 = .ok (.aload_n 0, 1) := by decide +kernel
theorem dX9_count_105 : decode cX9_count 105 = .ok (.getfield 19, 3) := by decide +kernel
theorem dX9_count_108 : decode cX9_count 108 = .ok (.getfield 72, 3) := by decide +kernel
theorem dX9_count_111 : decode cX9_count 111 = .ok (.getfield 242, 3) := by decide +kernel
theorem dX9_count_114 : decode cX9_count 114 = .ok (.ireturn, 1) := by decide +kernel
theorem dX9_count_115 : decode cX9_count 115 = .ok (.aload_n 0, 1) := by decide +kernel
theorem dX9_count_116 : decode cX9_count 116 = .ok (.getfield 19, 3) := by decide +kernel
theorem dX9_count_119 : decode cX9_count 119 = .ok (.getfield 245, 3) := by decide +kernel
theorem dX9_count_122 : decode cX9_count 122 = .ok (.ireturn, 1) := by decide +kernel
theorem dX9_count_123 : decode cX9_count 123 = .ok (.aload_n 0, 1) := by decide +kernel
theorem dX9_count_124 : decode cX9_count 124 = .ok (.getfield 19, 3) := by decide +kernel
theorem dX9_count_127 : decode cX9_count 127 = .ok (.getfield 248, 3) := by decide +kernel
theorem dX9_count_130 : decode cX9_count 130 = .ok (.ireturn, 1) := by decide +kernel
theorem dX9_count_131 : decode cX9_count 131 = .ok (.aload_n 0, 1) := by decide +kernel
theorem dX9_count_132 : decode cX9_count 132 = .ok (.getfield 19, 3) := by decide +kernel
theorem dX9_count_135 : decode cX9_count 135 = .ok (.getfield 72, 3) := by decide +kernel
theorem dX9_count_138 : decode cX9_count 138 = .ok (.getfield 76, 3) := by decide +kernel
theorem dX9_count_141 : decode cX9_count 141 = .ok (.iconst 1, 1) := by decide +kernel
theorem dX9_count_142 : decode cX9_count 142 = .ok (.iaload, 1) := by decide +kernel
theorem dX9_count_143 : decode cX9_count 143 = .ok (.ireturn, 1) := by decide +kernel
theorem dX9_count_144 : decode cX9_count 144 = .ok (.aload_n 0, 1) := by decide +kernel
theorem dX9_count_145 : decode cX9_count 145 = .ok (.getfield 19, 3) := by decide +kernel
theorem dX9_count_148 : decode cX9_count 148 = .ok (.getfield 72, 3) := by decide +kernel
theorem dX9_count_151 : decode cX9_count 151 = .ok (.getfield 76, 3) := by decide +kernel
theorem dX9_count_154 : decode cX9_count 154 = .ok (.iconst 2, 1) := by decide +kernel
theorem dX9_count_155 : decode cX9_count 155 = .ok (.iaload, 1) := by decide +kernel
theorem dX9_count_156 : decode cX9_count 156 = .ok (.ireturn, 1) := by decide +kernel
theorem dX9_count_157 : decode cX9_count 157 = .ok (.aload_n 0, 1) := by decide +kernel
theorem dX9_count_158 : decode cX9_count 158 = .ok (.getfield 19, 3) := by decide +kernel
theorem dX9_count_161 : decode cX9_count 161 = .ok (.getfield 72, 3) := by decide +kernel
theorem dX9_count_164 : decode cX9_count 164 = .ok (.getfield 76, 3) := by decide +kernel
theorem dX9_count_167 : decode cX9_count 167 = .ok (.iconst 4, 1) := by decide +kernel
theorem dX9_count_168 : decode cX9_count 168 = .ok (.iaload, 1) := by decide +kernel
theorem dX9_count_169 : decode cX9_count 169 = .ok (.ireturn, 1) := by decide +kernel
theorem dX9_count_170 : decode cX9_count 170 = .ok (.aload_n 0, 1) := by decide +kernel
theorem dX9_count_171 : decode cX9_count 171 = .ok (.getfield 19, 3) := by decide +kernel
theorem dX9_count_174 : decode cX9_count 174 = .ok (.getfield 72, 3) := by decide +kernel
theorem dX9_count_177 : decode cX9_count 177 = .ok (.getfield 76, 3) := by decide +kernel
theorem dX9_count_180 : decode cX9_count 180 = .ok (.iconst 3, 1) := by decide +kernel
theorem dX9_count_181 : decode cX9_count 181 = .ok (.iaload, 1) := by decide +kernel
theorem dX9_count_182 : decode cX9_count 182 = .ok (.ireturn, 1) := by decide +kernel
theorem dX9_count_183 : decode cX9_count 183 = .ok (.aload_n 0, 1) := by decide +kernel
theorem dX9_count_184 : decode cX9_count 184 = .ok (.getfield 19, 3) := by decide +kernel
theorem dX9_count_187 : decode cX9_count 187 = .ok (.invokevirtual 251, 3) := by decide +kernel
theorem dX9_count_190 : decode cX9_count 190 = .ok (.ireturn, 1) := by decide +kernel
theorem dX9_count_191 : decode cX9_count 191 = .ok (.aload_n 0, 1) := by decide +kernel
theorem dX9_count_192 : decode cX9_count 192 = .ok (.getfield 19, 3) := by decide +kernel
theorem dX9_count_195 : decode cX9_count 195 = .ok (.invokevirtual 251, 3) := by decide +kernel
theorem dX9_count_198 : decode cX9_count 198 = .ok (.aload_n 0, 1) := by decide +kernel
theorem dX9_count_199 : decode cX9_count 199 = .ok (.getfield 19, 3) := by decide +kernel
theorem dX9_count_202 : decode cX9_count 202 = .ok (.getfield 171, 3) := by decide +kernel
theorem dX9_count_205 : decode cX9_count 205 = .ok (.getfield 254, 3) := by decide +kernel
theorem dX9_count_208 : decode cX9_count 208 = .ok (.isub, 1) := by decide +kernel
theorem dX9_count_209 : decode cX9_count 209 = .ok (.ireturn, 1) := by decide +kernel
theorem dX9_count_210 : decode cX9_count 210 = .ok (.aload_n 0, 1) := by decide +kernel
theorem dX9_count_211 : decode cX9_count 211 = .ok (.getfield 19, 3) := by decide +kernel
theorem dX9_count_214 : decode cX9_count 214 = .ok (.getfield 126, 3) := by decide +kernel
theorem dX9_count_217 : decode cX9_count 217 = .ok (.getfield 255, 3) := by decide +kernel
theorem dX9_count_220 : decode cX9_count 220 = .ok (.ireturn, 1) := by decide +kernel
theorem dX9_count_221 : decode cX9_count 221 = .ok (.aload_n 0, 1) := by decide +kernel
theorem dX9_count_222 : decode cX9_count 222 = .ok (.getfield 19, 3) := by decide +kernel
theorem dX9_count_225 : decode cX9_count 225 = .ok (.getfield 122, 3) := by decide +kernel
theorem dX9_count_228 : decode cX9_count 228 = .ok (.iconst 0, 1) := by decide +kernel
theorem dX9_count_229 : decode cX9_count 229 = .ok (.iaload, 1) := by decide +kernel
theorem dX9_count_230 : decode cX9_count 230 = .ok (.ireturn, 1) := by decide +kernel
theorem dX9_count_231 : decode cX9_count 231 = .ok (.aload_n 0, 1) := by decide +kernel
theorem dX9_count_232 : decode cX9_count 232 = .ok (.getfield 19, 3) := by decide +kernel
theorem dX9_count_235 : decode cX9_count 235 = .ok (.getfield 122, 3) := by decide +kernel
theorem dX9_count_238 : decode cX9_count 238 = .ok (.iconst 1, 1) := by decide +kernel
theorem dX9_count_239 : decode cX9_count 239 = .ok (.iaload, 1) := by decide +kernel
theorem dX9_count_240 : decode cX9_count 240 = .ok (.ireturn, 1) := by decide +kernel
theorem dX9_count_241 : decode cX9_count 241 = .ok (.aload_n 0, 1) := by decide +kernel
theorem dX9_count_242 : decode cX9_count 242 = .ok (.getfield 19, 3) := by decide +kernel
theorem dX9_count_245 : decode cX9_count 245 = .ok (.getfield 122, 3) := by decide +kernel
theorem dX9_count_248 : decode cX9_count 248 = .ok (.iconst 2, 1) := by decide +kernel
theorem dX9_count_249 : decode cX9_count 249 = .ok (.iaload, 1) := by decide +kernel
theorem dX9_count_250 : decode cX9_count 250 = .ok (.ireturn, 1) := by decide +kernel
theorem dX9_count_251 : decode cX9_count 251 = .ok (.aload_n 0, 1) := by decide +kernel
theorem dX9_count_252 : decode cX9_count 252 = .ok (.getfield 19, 3) := by decide +kernel
theorem dX9_count_255 : decode cX9_count 255 = .ok (.getfield 122, 3) := by decide +kernel
theorem dX9_count_258 : decode cX9_count 258 = .ok (.iconst 5, 1) := by decide +kernel
theorem dX9_count_259 : decode cX9_count 259 = .ok (.iaload, 1) := by decide +kernel
theorem dX9_count_260 : decode cX9_count 260 = .ok (.ireturn, 1) := by decide +kernel
theorem dX9_count_261 : decode cX9_count 261 = .ok (.aload_n 0, 1) := by decide +kernel
theorem dX9_count_262 : decode cX9_count 262 = .ok (.getfield 19, 3) := by decide +kernel
theorem dX9_count_265 : decode cX9_count 265 = .ok (.getfield 122, 3) := by decide +kernel
theorem dX9_count_268 : decode cX9_count 268 = .ok (.bipush 6, 2) := by decide +kernel
theorem dX9_count_270 : decode cX9_count 270 = .ok (.iaload, 1) := by decide +kernel
theorem dX9_count_271 : decode cX9_count 271 = .ok (.ireturn, 1) := by decide +kernel
theorem dX9_count_272 : decode cX9_count 272 = .ok (.aload_n 0, 1) := by decide +kernel
theorem dX9_count_273 : decode cX9_count 273 = .ok (.getfield 10, 3) := by decide +kernel
theorem dX9_count_276 : decode cX9_count 276 = .ok (.getfield 30, 3) := by decide +kernel
theorem dX9_count_279 : decode cX9_count 279 = .ok (.ireturn, 1) := by decide +kernel
theorem dX9_count_280 : decode cX9_count 280 = .ok (.aload_n 0, 1) := by decide +kernel
theorem dX9_count_281 : decode cX9_count 281 = .ok (.getfield 19, 3) := by decide +kernel
theorem dX9_count_284 : decode cX9_count 284 = .ok (.getfield 122, 3) := by decide +kernel
theorem dX9_count_287 : decode cX9_count 287 = .ok (.bipush 7, 2) := by decide +kernel
theorem dX9_count_289 : decode cX9_count 289 = .ok (.iaload, 1) := by decide +kernel
theorem dX9_count_290 : decode cX9_count 290 = .ok (.ireturn, 1) := by decide +kernel
theorem dX9_count_291 : decode cX9_count 291 = .ok (.aload_n 0, 1) := by decide +kernel
theorem dX9_count_292 : decode cX9_count 292 = .ok (.getfield 19, 3) := by decide +kernel
theorem dX9_count_295 : decode cX9_count 295 = .ok (.getfield 256, 3) := by decide +kernel
theorem dX9_count_298 : decode cX9_count 298 = .ok (.ireturn, 1) := by decide +kernel
theorem dX9_count_299 : decode cX9_count 299 = .ok (.aload_n 0, 1) := by decide +kernel
theorem dX9_count_300 : decode cX9_count 300 = .ok (.getfield 19, 3) := by decide +kernel
theorem dX9_count_303 : decode cX9_count 303 = .ok (.getfield 85, 3) := by decide +kernel
theorem dX9_count_306 : decode cX9_count 306 = .ok (.ireturn, 1) := by decide +kernel
theorem dX9_count_307 : decode cX9_count 307 = .ok (.iconst (-1), 1) := by decide +kernel
theorem dX9_count_308 : decode cX9_count 308 = .ok (.ireturn, 1) := by decide +kernel
theorem dX9_perform_0 : decode cX9_perform 0 = .ok (.iconst 0, 1) := by decide +kernel
theorem dX9_perform_1 : decode cX9_perform 1 = .ok (.istore_n 1, 1) := by decide +kernel
theorem dX9_perform_2 : decode cX9_perform 2 = .ok (.iconst 0, 1) := by decide +kernel
theorem dX9_perform_3 : decode cX9_perform 3 = .ok (.istore_n 2, 1) := by decide +kernel
theorem dX9_perform_4 : decode cX9_perform 4 = .ok (.iload_n 2, 1) := by decide +kernel
theorem dX9_perform_5 : decode cX9_perform 5 = .ok (.aload_n 0, 1) := by decide +kernel
theorem dX9_perform_6 : decode cX9_perform 6 = .ok (.getfield 10, 3) := by decide +kernel
theorem dX9_perform_9 : decode cX9_perform 9 = .ok (.getfield 50, 3) := by decide +kernel
theorem dX9_perform_12 : decode cX9_perform 12 = .ok (.if_icmp .ge 212, 3) := by decide +kernel
theorem dX9_perform_15 : decode cX9_perform 15 = .ok (.aload_n 0, 1) := by decide +kernel
theorem dX9_perform_16 : decode cX9_perform 16 = .ok (.getfield 10, 3) := by decide +kernel
theorem dX9_perform_19 : decode cX9_perform 19 = .ok (.iload_n 1, 1) := by decide +kernel
theorem dX9_perform_20 : decode cX9_perform 20 = .ok (.invokevirtual 259, 3) := by decide +kernel
theorem dX9_perform_23 : decode cX9_perform 23 = .ok (.istore_n 3, 1) := by decide +kernel
theorem dX9_perform_24 : decode cX9_perform 24 = .ok (.aload_n 0, 1) := by decide +kernel
theorem dX9_perform_25 : decode cX9_perform 25 = .ok (.getfield 10, 3) := by decide +kernel
theorem dX9_perform_28 : decode cX9_perform 28 = .ok (.iload_n 1, 1) := by decide +kernel
theorem dX9_perform_29 : decode cX9_perform 29 = .ok (.iconst 1, 1) := by decide +kernel
theorem dX9_perform_30 : decode cX9_perform 30 = .ok (.iadd, 1) := by decide +kernel
theorem dX9_perform_31 : decode cX9_perform 31 = .ok (.invokevirtual 259, 3) := by decide +kernel
theorem dX9_perform_34 : decode cX9_perform 34 = .ok (.istore 4, 2) := by decide +kernel
theorem dX9_perform_36 : decode cX9_perform 36 = .ok (.iload_n 3, 1) := by decide +kernel
theorem dX9_perform_37 : decode cX9_perform 37 = .ok (.ifCond .lt 23, 3) := by decide +kernel
theorem dX9_perform_40 : decode cX9_perform 40 = .ok (.iload_n 3, 1) := by decide +kernel
theorem dX9_perform_41 : decode cX9_perform 41 = .ok (.bipush 8, 2) := by decide +kernel
theorem dX9_perform_43 : decode cX9_perform 43 = .ok (.if_icmp .ge 17, 3) := by decide +kernel
theorem dX9_perform_46 : decode cX9_perform 46 = .ok (.aload_n 0, 1) := by decide +kernel
theorem dX9_perform_47 : decode cX9_perform 47 = .ok (.getfield 19, 3) := by decide +kernel
theorem dX9_perform_50 : decode cX9_perform 50 = .ok (.getfield 122, 3) := by decide +kernel
theorem dX9_perform_53 : decode cX9_perform 53 = .ok (.iload_n 3, 1) := by decide +kernel
theorem dX9_perform_54 : decode cX9_perform 54 = .ok (.iload 4, 2) := by decide +kernel
theorem dX9_perform_56 : decode cX9_perform 56 = .ok (.iastore, 1) := by decide +kernel
theorem dX9_perform_57 : decode cX9_perform 57 = .ok (.goto 152, 3) := by decide +kernel
theorem dX9_perform_60 : decode cX9_perform 60 = .ok (.iload_n 3, 1) := by decide +kernel
theorem dX9_perform_61 : decode cX9_perform 61 = .ok (.bipush 8, 2) := by decide +kernel
theorem dX9_perform_63 : decode cX9_perform 63 = .ok (.if_icmp .ne 20, 3) := by decide +kernel
theorem dX9_perform_66 : decode cX9_perform 66 = .ok (.aload_n 0, 1) := by decide +kernel
theorem dX9_perform_67 : decode cX9_perform 67 = .ok (.getfield 19, 3) := by decide +kernel
theorem dX9_perform_70 : decode cX9_perform 70 = .ok (.aload_n 0, 1) := by decide +kernel
theorem dX9_perform_71 : decode cX9_perform 71 = .ok (.getfield 10, 3) := by decide +kernel
theorem dX9_perform_74 : decode cX9_perform 74 = .ok (.iload_n 1, 1) := by decide +kernel
theorem dX9_perform_75 : decode cX9_perform 75 = .ok (.iconst 1, 1) := by decide +kernel
theorem dX9_perform_76 : decode cX9_perform 76 = .ok (.iadd, 1) := by decide +kernel
theorem dX9_perform_77 : decode cX9_perform 77 = .ok (.invokevirtual 262, 3) := by decide +kernel
theorem dX9_perform_80 : decode cX9_perform 80 = .ok (.goto 129, 3) := by decide +kernel
theorem dX9_perform_83 : decode cX9_perform 83 = .ok (.iload_n 3, 1) := by decide +kernel
theorem dX9_perform_84 : decode cX9_perform 84 = .ok (.bipush 9, 2) := by decide +kernel
theorem dX9_perform_86 : decode cX9_perform 86 = .ok (.if_icmp .ne 38, 3) := by decide +kernel
theorem dX9_perform_89 : decode cX9_perform 89 = .ok (.aload_n 0, 1) := by decide +kernel
theorem dX9_perform_90 : decode cX9_perform 90 = .ok (.getfield 19, 3) := by decide +kernel
theorem dX9_perform_93 : decode cX9_perform 93 = .ok (.iload 4, 2) := by decide +kernel
theorem dX9_perform_95 : decode cX9_perform 95 = .ok (.aload_n 0, 1) := by decide +kernel
theorem dX9_perform_96 : decode cX9_perform 96 = .ok (.getfield 10, 3) := by decide +kernel
theorem dX9_perform_99 : decode cX9_perform 99 = .ok (.iload_n 1, 1) := by decide +kernel
theorem dX9_perform_100 : decode cX9_perform 100 = .ok (.iconst 2, 1) := by decide +kernel
theorem dX9_perform_101 : decode cX9_perform 101 = .ok (.iadd, 1) := by decide +kernel
theorem dX9_perform_102 : decode cX9_perform 102 = .ok (.invokevirtual 259, 3) := by decide +kernel
theorem dX9_perform_105 : decode cX9_perform 105 = .ok (.aload_n 0, 1) := by decide +kernel
theorem dX9_perform_106 : decode cX9_perform 106 = .ok (.getfield 10, 3) := by decide +kernel
theorem dX9_perform_109 : decode cX9_perform 109 = .ok (.iload_n 1, 1) := by decide +kernel
theorem dX9_perform_110 : decode cX9_perform 110 = .ok (.iconst 3, 1) := by decide +kernel
theorem dX9_perform_111 : decode cX9_perform 111 = .ok (.iadd, 1) := by decide +kernel
theorem dX9_perform_112 : decode cX9_perform 112 = .ok (.invokevirtual 259, 3) := by decide +kernel
theorem dX9_perform_115 : decode cX9_perform 115 = .ok (.bipush (-2), 2) := by decide +kernel
theorem dX9_perform_117 : decode cX9_perform 117 = .ok (.invokevirtual 60, 3) := by decide +kernel
theorem dX9_perform_120 : decode cX9_perform 120 = .ok (.pop, 1) := by decide +kernel
theorem dX9_perform_121 : decode cX9_perform 121 = .ok (.goto 88, 3) := by decide +kernel
theorem dX9_perform_124 : decode cX9_perform 124 = .ok (.iload_n 3, 1) := by decide +kernel
theorem dX9_perform_125 : decode cX9_perform 125 = .ok (.bipush 10, 2) := by decide +kernel
theorem dX9_perform_127 : decode cX9_perform 127 = .ok (.if_icmp .ne 20, 3) := by decide +kernel
theorem dX9_perform_130 : decode cX9_perform 130 = .ok (.aload_n 0, 1) := by decide +kernel
theorem dX9_perform_131 : decode cX9_perform 131 = .ok (.getfield 19, 3) := by decide +kernel
theorem dX9_perform_134 : decode cX9_perform 134 = .ok (.dup, 1) := by decide +kernel
theorem dX9_perform_135 : decode cX9_perform 135 = .ok (.getfield 64, 3) := by decide +kernel
theorem dX9_perform_138 : decode cX9_perform 138 = .ok (.iload 4, 2) := by decide +kernel
theorem dX9_perform_140 : decode cX9_perform 140 = .ok (.iadd, 1) := by decide +kernel
theorem dX9_perform_141 : decode cX9_perform 141 = .ok (.putfield 64, 3) := by decide +kernel
theorem dX9_perform_144 : decode cX9_perform 144 = .ok (.goto 65, 3) := by decide +kernel
theorem dX9_perform_147 : decode cX9_perform 147 = .ok (.iload_n 3, 1) := by decide +kernel
theorem dX9_perform_148 : decode cX9_perform 148 = .ok (.bipush 11, 2) := by decide +kernel
theorem dX9_perform_150 : decode cX9_perform 150 = .ok (.if_icmp .ne 30, 3) := by decide +kernel
theorem dX9_perform_153 : decode cX9_perform 153 = .ok (.iconst 0, 1) := by decide +kernel
theorem dX9_perform_154 : decode cX9_perform 154 = .ok (.istore 5, 2) := by decide +kernel
theorem dX9_perform_156 : decode cX9_perform 156 = .ok (.iload 5, 2) := by decide +kernel
theorem dX9_perform_158 : decode cX9_perform 158 = .ok (.iload 4, 2) := by decide +kernel
theorem dX9_perform_160 : decode cX9_perform 160 = .ok (.if_icmp .ge 17, 3) := by decide +kernel
theorem dX9_perform_163 : decode cX9_perform 163 = .ok (.aload_n 0, 1) := by decide +kernel
theorem dX9_perform_164 : decode cX9_perform 164 = .ok (.getfield 19, 3) := by decide +kernel
theorem dX9_perform_167 : decode cX9_perform 167 = .ok (.invokevirtual 68, 3) := by decide +kernel
theorem dX9_perform_170 : decode cX9_perform 170 = .ok (.pop, 1) := by decide +kernel
theorem dX9_perform_171 : decode cX9_perform 171 = .ok (.iinc 5 1, 3) := by decide +kernel
theorem dX9_perform_174 : decode cX9_perform 174 = .ok (.goto (-18), 3) := by decide +kernel
theorem dX9_perform_177 : decode cX9_perform 177 = .ok (.goto 32, 3) := by decide +kernel
theorem dX9_perform_180 : decode cX9_perform 180 = .ok (.iload_n 3, 1) := by decide +kernel
theorem dX9_perform_181 : decode cX9_perform 181 = .ok (.bipush 12, 2) := by decide +kernel
theorem dX9_perform_183 : decode cX9_perform 183 = .ok (.if_icmp .ne 26, 3) := by decide +kernel
theorem dX9_perform_186 : decode cX9_perform 186 = .ok (.iconst 0, 1) := by decide +kernel
theorem dX9_perform_187 : decode cX9_perform 187 = .ok (.istore 5, 2) := by decide +kernel
theorem dX9_perform_189 : decode cX9_perform 189 = .ok (.iload 5, 2) := by decide +kernel
theorem dX9_perform_191 : decode cX9_perform 191 = .ok (.iload 4, 2) := by decide +kernel
theorem dX9_perform_193 : decode cX9_perform 193 = .ok (.if_icmp .ge 16, 3) := by decide +kernel
theorem dX9_perform_196 : decode cX9_perform 196 = .ok (.aload_n 0, 1) := by decide +kernel
theorem dX9_perform_197 : decode cX9_perform 197 = .ok (.getfield 19, 3) := by decide +kernel
theorem dX9_perform_200 : decode cX9_perform 200 = .ok (.invokevirtual 82, 3) := by decide +kernel
theorem dX9_perform_203 : decode cX9_perform 203 = .ok (.iinc 5 1, 3) := by decide +kernel
theorem dX9_perform_206 : decode cX9_perform 206 = .ok (.goto (-17), 3) := by decide +kernel
theorem dX9_perform_209 : decode cX9_perform 209 = .ok (.iload_n 1, 1) := by decide +kernel
theorem dX9_perform_210 : decode cX9_perform 210 = .ok (.iconst 1, 1) := by decide +kernel
theorem dX9_perform_211 : decode cX9_perform 211 = .ok (.iload_n 3, 1) := by decide +kernel
theorem dX9_perform_212 : decode cX9_perform 212 = .ok (.invokestatic 266, 3) := by decide +kernel
theorem dX9_perform_215 : decode cX9_perform 215 = .ok (.iadd, 1) := by decide +kernel
theorem dX9_perform_216 : decode cX9_perform 216 = .ok (.iadd, 1) := by decide +kernel
theorem dX9_perform_217 : decode cX9_perform 217 = .ok (.istore_n 1, 1) := by decide +kernel
theorem dX9_perform_218 : decode cX9_perform 218 = .ok (.iinc 2 1, 3) := by decide +kernel
theorem dX9_perform_221 : decode cX9_perform 221 = .ok (.goto (-217), 3) := by decide +kernel
theorem dX9_perform_224 : decode cX9_perform 224 = .ok (.return_, 1) := by decide +kernel
def p_X9_feed (h : Hp) (o0 : Nat) (x1 : Int32) (x2 : Int32) (x3 : Int32) (x4 : Int32) (x5 : Int32) : Option (Int32 × Hp) :=
  if ((h (o0 + 1) 1) + 20) ≤ 900 then (Option.bind (p_X3_append h (o0 + 1) x1) fun r1 => Option.bind (p_X3_append r1 (o0 + 1) x2) fun r2 => Option.bind (p_X3_append r2 (o0 + 1) x3) fun r3 => Option.bind (p_X3_append r3 (o0 + 1) x4) fun r4 => Option.bind (p_X3_append r4 (o0 + 1) x5) fun r5 => some (r5 (o0 + 1) 1, r5)) else (some ((-1), h))
set_option maxRecDepth 4000 in
theorem s_X9_feed {p : Program} {l : Launch} {e : Env} {s : State} {m : MethodId} {args : Array Value} {below : List Frame} {meth : Method} {c : Code} {G : GT} (cx : CX p s m args c cX9_feed 6 RX9 G) (hr : meth.sig.returnType = (some .int)) (hlk : meth.locks = false) (h : Hp) (o0 : Nat) (x1 : Int32) (x2 : Int32) (x3 : Int32) (x4 : Int32) (x5 : Int32) (hk_o0 : kd o0 = 8) : PF p l e (rmc 1 22) s m args below meth c 6 G 0 0 (QI below G args s) 0 [some (.ref (gad G o0)), some (.int x1), some (.int x2), some (.int x3), some (.int x4), some (.int x5)] [] h (p_X9_feed h o0 x1 x2 x3 x4 x5) := by
  unfold p_X9_feed
  refine f_aload_n (pc := 0) cx dX9_feed_0 rfl rfl ?_
  refine g_X9_10 (pc := 1) cx hk_o0 dX9_feed_1 ?_
  refine g_X9_30 (pc := 4) cx (kf_8_0 hk_o0) dX9_feed_4 ?_
  refine f_bipush (pc := 7) cx dX9_feed_7 kc_bipush_20 ?_
  refine f_iadd (pc := 9) cx dX9_feed_9 ?_
  refine f_sipush (pc := 10) cx dX9_feed_10 kc_sipush_900 ?_
  refine f_icmp_le (pc := 13) (tgt := 18) cx dX9_feed_13 (by decide) (fun _ => ?_) (fun _ => ?_)
  · refine f_aload_n (pc := 18) cx dX9_feed_18 rfl rfl ?_
    refine g_X9_10 (pc := 19) cx hk_o0 dX9_feed_19 ?_
    refine f_iload_n (pc := 22) cx dX9_feed_22 rfl rfl ?_
    refine f_bind (fun r1 hr1 => ?_)
    refine k_X9_34 (pc := 23) cx (c_X3_append l G _ (o0 + 1) x1 (kf_8_0 hk_o0) r1 hr1) (kf_8_0 hk_o0) ⟨by decide, by decide⟩ ⟨Nat.zero_le _, Nat.zero_le _⟩ (Nat.le_of_ble_eq_true rfl) dX9_feed_23 ?_
    refine f_aload_n (pc := 26) cx dX9_feed_26 rfl rfl ?_
    refine g_X9_10 (pc := 27) cx hk_o0 dX9_feed_27 ?_
    refine f_iload_n (pc := 30) cx dX9_feed_30 rfl rfl ?_
    refine f_bind (fun r2 hr2 => ?_)
    refine k_X9_34 (pc := 31) cx (c_X3_append l G _ (o0 + 1) x2 (kf_8_0 hk_o0) r2 hr2) (kf_8_0 hk_o0) ⟨by decide, by decide⟩ ⟨Nat.zero_le _, Nat.zero_le _⟩ (Nat.le_of_ble_eq_true rfl) dX9_feed_31 ?_
    refine f_aload_n (pc := 34) cx dX9_feed_34 rfl rfl ?_
    refine g_X9_10 (pc := 35) cx hk_o0 dX9_feed_35 ?_
    refine f_iload_n (pc := 38) cx dX9_feed_38 rfl rfl ?_
    refine f_bind (fun r3 hr3 => ?_)
    refine k_X9_34 (pc := 39) cx (c_X3_append l G _ (o0 + 1) x3 (kf_8_0 hk_o0) r3 hr3) (kf_8_0 hk_o0) ⟨by decide, by decide⟩ ⟨Nat.zero_le _, Nat.zero_le _⟩ (Nat.le_of_ble_eq_true rfl) dX9_feed_39 ?_
    refine f_aload_n (pc := 42) cx dX9_feed_42 rfl rfl ?_
    refine g_X9_10 (pc := 43) cx hk_o0 dX9_feed_43 ?_
    refine f_iload (pc := 46) cx dX9_feed_46 rfl ?_
    refine f_bind (fun r4 hr4 => ?_)
    refine k_X9_34 (pc := 48) cx (c_X3_append l G _ (o0 + 1) x4 (kf_8_0 hk_o0) r4 hr4) (kf_8_0 hk_o0) ⟨by decide, by decide⟩ ⟨Nat.zero_le _, Nat.zero_le _⟩ (Nat.le_of_ble_eq_true rfl) dX9_feed_48 ?_
    refine f_aload_n (pc := 51) cx dX9_feed_51 rfl rfl ?_
    refine g_X9_10 (pc := 52) cx hk_o0 dX9_feed_52 ?_
    refine f_iload (pc := 55) cx dX9_feed_55 rfl ?_
    refine f_bind (fun r5 hr5 => ?_)
    refine k_X9_34 (pc := 57) cx (c_X3_append l G _ (o0 + 1) x5 (kf_8_0 hk_o0) r5 hr5) (kf_8_0 hk_o0) ⟨by decide, by decide⟩ ⟨Nat.zero_le _, Nat.zero_le _⟩ (Nat.le_of_ble_eq_true rfl) dX9_feed_57 ?_
    refine f_aload_n (pc := 60) cx dX9_feed_60 rfl rfl ?_
    refine g_X9_10 (pc := 61) cx hk_o0 dX9_feed_61 ?_
    refine g_X9_30 (pc := 64) cx (kf_8_0 hk_o0) dX9_feed_64 ?_
    exact f_iret cx hr hlk rfl dX9_feed_67
  · refine f_iconst (pc := 16) cx dX9_feed_16 kc_iconst_m1 ?_
    exact f_iret cx hr hlk rfl dX9_feed_17
set_option maxRecDepth 4000 in
theorem c_X9_feed (l : Launch) (G : GT) (h : Hp) (o0 : Nat) (x1 : Int32) (x2 : Int32) (x3 : Int32) (x4 : Int32) (x5 : Int32) (hk_o0 : kd o0 = 8) : CtI l G yX9_feed cX9_feed 6 (some .int) 1 22 [.ref (gad G o0), .int x1, .int x2, .int x3, .int x4, .int x5] h (p_X9_feed h o0 x1 x2 x3 x4 x5) := fun a ha => Ct.of (lv := [some (.ref (gad G o0)), some (.int x1), some (.int x2), some (.int x3), some (.int x4), some (.int x5)]) (by decide) rfl (Nat.le_of_ble_eq_true rfl) rfl (fun p e s m args below meth c cx hr hlk => s_X9_feed cx hr hlk h o0 x1 x2 x3 x4 x5 hk_o0 a ha)
def p_X9_fault (h : Hp) (o0 : Nat) (x1 : Int32) : Option (Int32 × Hp) :=
  if x1 = 0 then (some (h (o0 + 1) 10, h)) else (if x1 = 1 then (some (h (o0 + 1) 11, h)) else (some ((-1), h)))
set_option maxRecDepth 4000 in
theorem s_X9_fault {p : Program} {l : Launch} {e : Env} {s : State} {m : MethodId} {args : Array Value} {below : List Frame} {meth : Method} {c : Code} {G : GT} (cx : CX p s m args c cX9_fault 2 RX9 G) (hr : meth.sig.returnType = (some .int)) (hlk : meth.locks = false) (h : Hp) (o0 : Nat) (x1 : Int32) (hk_o0 : kd o0 = 8) : PF p l e (rmc 0 0) s m args below meth c 2 G 0 0 (QI below G args s) 0 [some (.ref (gad G o0)), some (.int x1)] [] h (p_X9_fault h o0 x1) := by
  unfold p_X9_fault
  refine f_iload_n (pc := 0) cx dX9_fault_0 rfl rfl ?_
  refine f_if_ne (pc := 1) (tgt := 12) cx dX9_fault_1 (by decide) (fun _ => ?_) (fun _ => ?_)
  · refine f_aload_n (pc := 4) cx dX9_fault_4 rfl rfl ?_
    refine g_X9_10 (pc := 5) cx hk_o0 dX9_fault_5 ?_
    refine g_X9_41 (pc := 8) cx (kf_8_0 hk_o0) dX9_fault_8 ?_
    exact f_iret cx hr hlk rfl dX9_fault_11
  · refine f_iload_n (pc := 12) cx dX9_fault_12 rfl rfl ?_
    refine f_iconst (pc := 13) cx dX9_fault_13 kc_iconst_1 ?_
    refine f_icmp_ne (pc := 14) (tgt := 27) cx dX9_fault_14 (by decide) (fun _ => ?_) (fun _ => ?_)
    · refine f_aload_n (pc := 17) cx dX9_fault_17 rfl rfl ?_
      refine g_X9_10 (pc := 18) cx hk_o0 dX9_fault_18 ?_
      refine g_X9_53 (pc := 21) cx (kf_8_0 hk_o0) dX9_fault_21 ?_
      refine f_goto (pc := 24) (tgt := 28) cx dX9_fault_24 (by decide) ?_
      exact f_iret cx hr hlk rfl dX9_fault_28
    · refine f_iconst (pc := 27) cx dX9_fault_27 kc_iconst_m1 ?_
      exact f_iret cx hr hlk rfl dX9_fault_28
set_option maxRecDepth 4000 in
theorem c_X9_fault (l : Launch) (G : GT) (h : Hp) (o0 : Nat) (x1 : Int32) (hk_o0 : kd o0 = 8) : CtI l G yX9_fault cX9_fault 2 (some .int) 0 0 [.ref (gad G o0), .int x1] h (p_X9_fault h o0 x1) := fun a ha => Ct.of (lv := [some (.ref (gad G o0)), some (.int x1)]) (by decide) rfl (Nat.le_of_ble_eq_true rfl) rfl (fun p e s m args below meth c cx hr hlk => s_X9_fault cx hr hlk h o0 x1 hk_o0 a ha)
def p_X9_come (h : Hp) (o0 : Nat) (x1 : Int32) (x2 : Int32) (x3 : Int32) : Option (Int32 × Hp) :=
  Option.bind (p_X9_fits h 13 x1) fun r1 => if r1.1 = 0 then (some ((-1), r1.2)) else (Option.bind (p_X9_fits r1.2 14 x2) fun r2 => if r2.1 = 0 then (some ((-1), r2.2)) else (Option.bind (p_X9_fits r2.2 15 x3) fun r3 => if r3.1 = 0 then (some ((-1), r3.2)) else (Option.bind (p_X8_arrive r3.2 (o0 + 10) x1 x2 x3 (-2)) fun r4 => some (r4.1, r4.2))))
set_option maxRecDepth 4000 in
theorem s_X9_come {p : Program} {l : Launch} {e : Env} {s : State} {m : MethodId} {args : Array Value} {below : List Frame} {meth : Method} {c : Code} {G : GT} (cx : CX p s m args c cX9_come 4 RX9 G) (hr : meth.sig.returnType = (some .int)) (hlk : meth.locks = false) (h : Hp) (o0 : Nat) (x1 : Int32) (x2 : Int32) (x3 : Int32) (hk_o0 : kd o0 = 8) : PF p l e (rmc 4 93) s m args below meth c 4 G 0 0 (QI below G args s) 0 [some (.ref (gad G o0)), some (.int x1), some (.int x2), some (.int x3)] [] h (p_X9_come h o0 x1 x2 x3) := by
  unfold p_X9_come
  refine f_bipush (pc := 0) cx dX9_come_0 kc_bipush_13 ?_
  refine f_iload_n (pc := 2) cx dX9_come_2 rfl rfl ?_
  refine f_bind (fun r1 hr1 => ?_)
  refine k_X9_56 (pc := 3) cx (c_X9_fits l G _ 13 x1 r1 hr1) ⟨by decide, by decide⟩ ⟨Nat.zero_le _, Nat.zero_le _⟩ (Nat.le_of_ble_eq_true rfl) dX9_come_3 ?_
  refine f_if_eq (pc := 6) (tgt := 27) cx dX9_come_6 (by decide) (fun _ => ?_) (fun _ => ?_)
  · refine f_iconst (pc := 27) cx dX9_come_27 kc_iconst_m1 ?_
    exact f_iret cx hr hlk rfl dX9_come_28
  · refine f_bipush (pc := 9) cx dX9_come_9 kc_bipush_14 ?_
    refine f_iload_n (pc := 11) cx dX9_come_11 rfl rfl ?_
    refine f_bind (fun r2 hr2 => ?_)
    refine k_X9_56 (pc := 12) cx (c_X9_fits l G _ 14 x2 r2 hr2) ⟨by decide, by decide⟩ ⟨Nat.zero_le _, Nat.zero_le _⟩ (Nat.le_of_ble_eq_true rfl) dX9_come_12 ?_
    refine f_if_eq (pc := 15) (tgt := 27) cx dX9_come_15 (by decide) (fun _ => ?_) (fun _ => ?_)
    · refine f_iconst (pc := 27) cx dX9_come_27 kc_iconst_m1 ?_
      exact f_iret cx hr hlk rfl dX9_come_28
    · refine f_bipush (pc := 18) cx dX9_come_18 kc_bipush_15 ?_
      refine f_iload_n (pc := 20) cx dX9_come_20 rfl rfl ?_
      refine f_bind (fun r3 hr3 => ?_)
      refine k_X9_56 (pc := 21) cx (c_X9_fits l G _ 15 x3 r3 hr3) ⟨by decide, by decide⟩ ⟨Nat.zero_le _, Nat.zero_le _⟩ (Nat.le_of_ble_eq_true rfl) dX9_come_21 ?_
      refine f_if_ne (pc := 24) (tgt := 29) cx dX9_come_24 (by decide) (fun _ => ?_) (fun _ => ?_)
      · refine f_iconst (pc := 27) cx dX9_come_27 kc_iconst_m1 ?_
        exact f_iret cx hr hlk rfl dX9_come_28
      · refine f_aload_n (pc := 29) cx dX9_come_29 rfl rfl ?_
        refine g_X9_19 (pc := 30) cx hk_o0 dX9_come_30 ?_
        refine f_iload_n (pc := 33) cx dX9_come_33 rfl rfl ?_
        refine f_iload_n (pc := 34) cx dX9_come_34 rfl rfl ?_
        refine f_iload_n (pc := 35) cx dX9_come_35 rfl rfl ?_
        refine f_bipush (pc := 36) cx dX9_come_36 kc_bipush_m2 ?_
        refine f_bind (fun r4 hr4 => ?_)
        refine k_X9_60 (pc := 38) cx (c_X8_arrive l G _ (o0 + 10) x1 x2 x3 (-2) (kf_8_1 hk_o0) r4 hr4) (kf_8_1 hk_o0) ⟨by decide, by decide⟩ ⟨Nat.zero_le _, Nat.zero_le _⟩ (Nat.le_of_ble_eq_true rfl) dX9_come_38 ?_
        exact f_iret cx hr hlk rfl dX9_come_41
set_option maxRecDepth 4000 in
theorem c_X9_come (l : Launch) (G : GT) (h : Hp) (o0 : Nat) (x1 : Int32) (x2 : Int32) (x3 : Int32) (hk_o0 : kd o0 = 8) : CtI l G yX9_come cX9_come 4 (some .int) 4 93 [.ref (gad G o0), .int x1, .int x2, .int x3] h (p_X9_come h o0 x1 x2 x3) := fun a ha => Ct.of (lv := [some (.ref (gad G o0)), some (.int x1), some (.int x2), some (.int x3)]) (by decide) rfl (Nat.le_of_ble_eq_true rfl) rfl (fun p e s m args below meth c cx hr hlk => s_X9_come cx hr hlk h o0 x1 x2 x3 hk_o0 a ha)
def p_X9_pass (h : Hp) (o0 : Nat) (x1 : Int32) : Option (Int32 × Hp) :=
  Option.bind (p_X9_fits h 16 x1) fun r1 => if r1.1 = 0 then (some ((-1), r1.2)) else (if ((r1.2 (o0 + 10) 7) + x1) ≤ 999999 then (nv (hp r1.2 (o0 + 10) 7 ((r1.2 (o0 + 10) 7) + x1)) fun h2 => some (h2 (o0 + 10) 7, h2)) else (some ((-1), r1.2)))
set_option maxRecDepth 4000 in
theorem s_X9_pass {p : Program} {l : Launch} {e : Env} {s : State} {m : MethodId} {args : Array Value} {below : List Frame} {meth : Method} {c : Code} {G : GT} (cx : CX p s m args c cX9_pass 2 RX9 G) (hr : meth.sig.returnType = (some .int)) (hlk : meth.locks = false) (h : Hp) (o0 : Nat) (x1 : Int32) (hk_o0 : kd o0 = 8) : PF p l e (rmc 1 21) s m args below meth c 2 G 0 0 (QI below G args s) 0 [some (.ref (gad G o0)), some (.int x1)] [] h (p_X9_pass h o0 x1) := by
  unfold p_X9_pass
  refine f_bipush (pc := 0) cx dX9_pass_0 kc_bipush_16 ?_
  refine f_iload_n (pc := 2) cx dX9_pass_2 rfl rfl ?_
  refine f_bind (fun r1 hr1 => ?_)
  refine k_X9_56 (pc := 3) cx (c_X9_fits l G _ 16 x1 r1 hr1) ⟨by decide, by decide⟩ ⟨Nat.zero_le _, Nat.zero_le _⟩ (Nat.le_of_ble_eq_true rfl) dX9_pass_3 ?_
  refine f_if_eq (pc := 6) (tgt := 23) cx dX9_pass_6 (by decide) (fun _ => ?_) (fun _ => ?_)
  · refine f_iconst (pc := 23) cx dX9_pass_23 kc_iconst_m1 ?_
    exact f_iret cx hr hlk rfl dX9_pass_24
  · refine f_aload_n (pc := 9) cx dX9_pass_9 rfl rfl ?_
    refine g_X9_19 (pc := 10) cx hk_o0 dX9_pass_10 ?_
    refine g_X9_64 (pc := 13) cx (kf_8_1 hk_o0) dX9_pass_13 ?_
    refine f_iload_n (pc := 16) cx dX9_pass_16 rfl rfl ?_
    refine f_iadd (pc := 17) cx dX9_pass_17 ?_
    refine f_ldc (pc := 18) cx w_868 dX9_pass_18 ?_
    refine f_icmp_le (pc := 20) (tgt := 25) cx dX9_pass_20 (by decide) (fun _ => ?_) (fun _ => ?_)
    · refine f_aload_n (pc := 25) cx dX9_pass_25 rfl rfl ?_
      refine g_X9_19 (pc := 26) cx hk_o0 dX9_pass_26 ?_
      refine f_dup (pc := 29) cx dX9_pass_29 rfl ?_
      refine g_X9_64 (pc := 30) cx (kf_8_1 hk_o0) dX9_pass_30 ?_
      refine f_iload_n (pc := 33) cx dX9_pass_33 rfl rfl ?_
      refine f_iadd (pc := 34) cx dX9_pass_34 ?_
      refine u_X9_64 (pc := 35) cx (kf_8_1 hk_o0) dX9_pass_35 ?_
      refine f_nvh (fun h2 => ?_)
      refine f_aload_n (pc := 38) cx dX9_pass_38 rfl rfl ?_
      refine g_X9_19 (pc := 39) cx hk_o0 dX9_pass_39 ?_
      refine g_X9_64 (pc := 42) cx (kf_8_1 hk_o0) dX9_pass_42 ?_
      exact f_iret cx hr hlk rfl dX9_pass_45
    · refine f_iconst (pc := 23) cx dX9_pass_23 kc_iconst_m1 ?_
      exact f_iret cx hr hlk rfl dX9_pass_24
set_option maxRecDepth 4000 in
theorem c_X9_pass (l : Launch) (G : GT) (h : Hp) (o0 : Nat) (x1 : Int32) (hk_o0 : kd o0 = 8) : CtI l G yX9_pass cX9_pass 2 (some .int) 1 21 [.ref (gad G o0), .int x1] h (p_X9_pass h o0 x1) := fun a ha => Ct.of (lv := [some (.ref (gad G o0)), some (.int x1)]) (by decide) rfl (Nat.le_of_ble_eq_true rfl) rfl (fun p e s m args below meth c cx hr hlk => s_X9_pass cx hr hlk h o0 x1 hk_o0 a ha)
def p_X9_go (h : Hp) (o0 : Nat) : Option (Int32 × Hp) :=
  Option.bind (p_X8_serve h (o0 + 10)) fun r1 => some (r1.1, r1.2)
set_option maxRecDepth 4000 in
theorem s_X9_go {p : Program} {l : Launch} {e : Env} {s : State} {m : MethodId} {args : Array Value} {below : List Frame} {meth : Method} {c : Code} {G : GT} (cx : CX p s m args c cX9_go 1 RX9 G) (hr : meth.sig.returnType = (some .int)) (hlk : meth.locks = false) (h : Hp) (o0 : Nat) (hk_o0 : kd o0 = 8) : PF p l e (rmc 5 120) s m args below meth c 1 G 0 0 (QI below G args s) 0 [some (.ref (gad G o0))] [] h (p_X9_go h o0) := by
  unfold p_X9_go
  refine f_aload_n (pc := 0) cx dX9_go_0 rfl rfl ?_
  refine g_X9_19 (pc := 1) cx hk_o0 dX9_go_1 ?_
  refine f_bind (fun r1 hr1 => ?_)
  refine k_X9_68 (pc := 4) cx (c_X8_serve l G _ (o0 + 10) (kf_8_1 hk_o0) r1 hr1) (kf_8_1 hk_o0) ⟨by decide, by decide⟩ ⟨Nat.zero_le _, Nat.zero_le _⟩ (Nat.le_of_ble_eq_true rfl) dX9_go_4 ?_
  exact f_iret cx hr hlk rfl dX9_go_7
set_option maxRecDepth 4000 in
theorem c_X9_go (l : Launch) (G : GT) (h : Hp) (o0 : Nat) (hk_o0 : kd o0 = 8) : CtI l G yX9_go cX9_go 1 (some .int) 5 120 [.ref (gad G o0)] h (p_X9_go h o0) := fun a ha => Ct.of (lv := [some (.ref (gad G o0))]) (by decide) rfl (Nat.le_of_ble_eq_true rfl) rfl (fun p e s m args below meth c cx hr hlk => s_X9_go cx hr hlk h o0 hk_o0 a ha)
def b_X9_run_26 (o0 : Nat) (x1 : Int32) (x2 : Int32) (k26 : Hp × Int32 → Option (Int32 × Hp)) (q : Hp × Int32) : Option (Int32 × Hp) :=
  if x1 ≤ q.2 then (some ((q.1 (o0 + 10 + 2 + 13) 1) - x2, q.1)) else (Option.bind (p_X8_tick q.1 (o0 + 10)) fun r1 => k26 (r1, q.2 + 1))
def p_X9_run (h : Hp) (o0 : Nat) (x1 : Int32) : Option (Int32 × Hp) :=
  Option.bind (p_X9_fits h 18 x1) fun r2 => if r2.1 = 0 then (some ((-1), r2.2)) else (nv (r2.2 (o0 + 10 + 2 + 13) 1) fun v3 => lp (b_X9_run_26 o0 x1 v3) FU (r2.2, 0))
set_option maxRecDepth 4000 in
theorem s_X9_run_26 {p : Program} {l : Launch} {e : Env} {s : State} {m : MethodId} {args : Array Value} {below : List Frame} {meth : Method} {c : Code} {G : GT} (cx : CX p s m args c cX9_run 4 RX9 G) (hr : meth.sig.returnType = (some .int)) (hlk : meth.locks = false) (o0 : Nat) (x1 : Int32) (x2 : Int32) (hk_o0 : kd o0 = 8) : ∀ (n : Nat) (q : Hp × Int32), PF p l e (rmc 6 141) s m args below meth c 4 G 0 0 (QI below G args s) 26 [some (.ref (gad G o0)), some (.int x1), some (.int x2), some (.int q.2)] [] q.1 (lp (b_X9_run_26 o0 x1 x2) n q) := by
  refine f_lp (lvf := fun (q : Hp × Int32) => [some (.ref (gad G o0)), some (.int x1), some (.int x2), some (.int q.2)]) (hf := fun (q : Hp × Int32) => q.1) (fun k26 hk26 q => ?_)
  show PF p l e (rmc 6 141) s m args below meth c 4 G 0 0 (QI below G args s) 26 [some (.ref (gad G o0)), some (.int x1), some (.int x2), some (.int q.2)] [] q.1 (b_X9_run_26 o0 x1 x2 k26 q)
  unfold b_X9_run_26
  refine f_iload_n (pc := 26) cx dX9_run_26 rfl rfl ?_
  refine f_iload_n (pc := 27) cx dX9_run_27 rfl rfl ?_
  refine f_icmp_ge (pc := 28) (tgt := 44) cx dX9_run_28 (by decide) (fun _ => ?_) (fun _ => ?_)
  · refine f_aload_n (pc := 44) cx dX9_run_44 rfl rfl ?_
    refine g_X9_19 (pc := 45) cx hk_o0 dX9_run_45 ?_
    refine g_X9_72 (pc := 48) cx (kf_8_1 hk_o0) dX9_run_48 ?_
    refine g_X9_76 (pc := 51) cx (kf_7_1 (kf_8_1 hk_o0)) dX9_run_51 ?_
    refine f_iconst (pc := 54) cx dX9_run_54 kc_iconst_1 ?_
    refine f_ialdk (pc := 55) (j := 1) (n := 5) cx (kf_1_12 (kf_7_1 (kf_8_1 hk_o0))) (by decide) (by decide) kl_1 dX9_run_55 ?_
    refine f_iload_n (pc := 56) cx dX9_run_56 rfl rfl ?_
    refine f_isub (pc := 57) cx dX9_run_57 ?_
    exact f_iret cx hr hlk rfl dX9_run_58
  · refine f_aload_n (pc := 31) cx dX9_run_31 rfl rfl ?_
    refine g_X9_19 (pc := 32) cx hk_o0 dX9_run_32 ?_
    refine f_bind (fun r1 hr1 => ?_)
    refine k_X9_82 (pc := 35) cx (c_X8_tick l G _ (o0 + 10) (kf_8_1 hk_o0) r1 hr1) (kf_8_1 hk_o0) ⟨by decide, by decide⟩ ⟨Nat.zero_le _, Nat.zero_le _⟩ (Nat.le_of_ble_eq_true rfl) dX9_run_35 ?_
    refine f_iinc3 (pc := 38) cx dX9_run_38 kc_iconst_1 (by decide) rfl ?_
    refine f_goto (pc := 41) (tgt := 26) cx dX9_run_41 (by decide) ?_
    exact f_weak (LSb.s (LSb.s (LSb.s (LSb.s LSb.e)))) (hk26 (r1, q.2 + 1))
set_option maxRecDepth 4000 in
theorem s_X9_run {p : Program} {l : Launch} {e : Env} {s : State} {m : MethodId} {args : Array Value} {below : List Frame} {meth : Method} {c : Code} {G : GT} (cx : CX p s m args c cX9_run 4 RX9 G) (hr : meth.sig.returnType = (some .int)) (hlk : meth.locks = false) (h : Hp) (o0 : Nat) (x1 : Int32) (hk_o0 : kd o0 = 8) : PF p l e (rmc 6 141) s m args below meth c 4 G 0 0 (QI below G args s) 0 [some (.ref (gad G o0)), some (.int x1), none, none] [] h (p_X9_run h o0 x1) := by
  unfold p_X9_run
  refine f_bipush (pc := 0) cx dX9_run_0 kc_bipush_18 ?_
  refine f_iload_n (pc := 2) cx dX9_run_2 rfl rfl ?_
  refine f_bind (fun r2 hr2 => ?_)
  refine k_X9_56 (pc := 3) cx (c_X9_fits l G _ 18 x1 r2 hr2) ⟨by decide, by decide⟩ ⟨Nat.zero_le _, Nat.zero_le _⟩ (Nat.le_of_ble_eq_true rfl) dX9_run_3 ?_
  refine f_if_ne (pc := 6) (tgt := 11) cx dX9_run_6 (by decide) (fun _ => ?_) (fun _ => ?_)
  · refine f_iconst (pc := 9) cx dX9_run_9 kc_iconst_m1 ?_
    exact f_iret cx hr hlk rfl dX9_run_10
  · refine f_aload_n (pc := 11) cx dX9_run_11 rfl rfl ?_
    refine g_X9_19 (pc := 12) cx hk_o0 dX9_run_12 ?_
    refine g_X9_72 (pc := 15) cx (kf_8_1 hk_o0) dX9_run_15 ?_
    refine g_X9_76 (pc := 18) cx (kf_7_1 (kf_8_1 hk_o0)) dX9_run_18 ?_
    refine f_iconst (pc := 21) cx dX9_run_21 kc_iconst_1 ?_
    refine f_ialdk (pc := 22) (j := 1) (n := 5) cx (kf_1_12 (kf_7_1 (kf_8_1 hk_o0))) (by decide) (by decide) kl_1 dX9_run_22 ?_
    refine f_nvi (fun v3 => ?_)
    refine f_istore2 (pc := 23) cx dX9_run_23 (by decide) rfl ?_
    refine f_iconst (pc := 24) cx dX9_run_24 kc_iconst_0 ?_
    refine f_istore3 (pc := 25) cx dX9_run_25 (by decide) rfl ?_
    exact f_weak (LSb.s (LSb.s (LSb.s (LSb.s LSb.e)))) (s_X9_run_26 cx hr hlk o0 x1 v3 hk_o0 FU (r2.2, 0))
set_option maxRecDepth 4000 in
theorem c_X9_run (l : Launch) (G : GT) (h : Hp) (o0 : Nat) (x1 : Int32) (hk_o0 : kd o0 = 8) : CtI l G yX9_run cX9_run 4 (some .int) 6 141 [.ref (gad G o0), .int x1] h (p_X9_run h o0 x1) := fun a ha => Ct.of (lv := [some (.ref (gad G o0)), some (.int x1), none, none]) (by decide) rfl (Nat.le_of_ble_eq_true rfl) rfl (fun p e s m args below meth c cx hr hlk => s_X9_run cx hr hlk h o0 x1 hk_o0 a ha)
def p_X9_sender (h : Hp) (o0 : Nat) (x1 : Int32) (x2 : Int32) : Option (Int32 × Hp) :=
  if x1 < 0 then (some ((-1), h)) else (if (h (o0 + 10) 6) ≤ x1 then (some ((-1), h)) else (if x1 < 4 then (if ib x1 4 then (Option.bind (p_X5_tell h (o0 + 10 + 35 + 1 + Int32.toNatClampNeg x1) x2) fun r2 => some (r2.1, r2.2)) else none) else (some ((-1), h))))
set_option maxRecDepth 4000 in
theorem s_X9_sender {p : Program} {l : Launch} {e : Env} {s : State} {m : MethodId} {args : Array Value} {below : List Frame} {meth : Method} {c : Code} {G : GT} (cx : CX p s m args c cX9_sender 3 RX9 G) (hr : meth.sig.returnType = (some .int)) (hlk : meth.locks = false) (h : Hp) (o0 : Nat) (x1 : Int32) (x2 : Int32) (hk_o0 : kd o0 = 8) : PF p l e (rmc 1 21) s m args below meth c 3 G 0 0 (QI below G args s) 0 [some (.ref (gad G o0)), some (.int x1), some (.int x2)] [] h (p_X9_sender h o0 x1 x2) := by
  unfold p_X9_sender
  refine f_iload_n (pc := 0) cx dX9_sender_0 rfl rfl ?_
  refine f_if_lt (pc := 1) (tgt := 20) cx dX9_sender_1 (by decide) (fun _ => ?_) (fun _ => ?_)
  · refine f_iconst (pc := 20) cx dX9_sender_20 kc_iconst_m1 ?_
    exact f_iret cx hr hlk rfl dX9_sender_21
  · refine f_iload_n (pc := 4) cx dX9_sender_4 rfl rfl ?_
    refine f_aload_n (pc := 5) cx dX9_sender_5 rfl rfl ?_
    refine g_X9_19 (pc := 6) cx hk_o0 dX9_sender_6 ?_
    refine g_X9_85 (pc := 9) cx (kf_8_1 hk_o0) dX9_sender_9 ?_
    refine f_icmp_ge (pc := 12) (tgt := 20) cx dX9_sender_12 (by decide) (fun _ => ?_) (fun _ => ?_)
    · refine f_iconst (pc := 20) cx dX9_sender_20 kc_iconst_m1 ?_
      exact f_iret cx hr hlk rfl dX9_sender_21
    · refine f_iload_n (pc := 15) cx dX9_sender_15 rfl rfl ?_
      refine f_iconst (pc := 16) cx dX9_sender_16 kc_iconst_4 ?_
      refine f_icmp_lt (pc := 17) (tgt := 22) cx dX9_sender_17 (by decide) (fun _ => ?_) (fun _ => ?_)
      · refine f_aload_n (pc := 22) cx dX9_sender_22 rfl rfl ?_
        refine g_X9_19 (pc := 23) cx hk_o0 dX9_sender_23 ?_
        refine g_X9_88 (pc := 26) cx (kf_8_1 hk_o0) dX9_sender_26 ?_
        refine f_iload_n (pc := 29) cx dX9_sender_29 rfl rfl ?_
        refine f_need (fun c1 => ?_)
        refine f_aldS (pc := 30) cx (kf_7_4 (kf_8_1 hk_o0)) c1 dX9_sender_30 ?_
        refine f_iload_n (pc := 31) cx dX9_sender_31 rfl rfl ?_
        refine f_bind (fun r2 hr2 => ?_)
        refine k_X9_92 (pc := 32) cx (c_X5_tell l G _ (o0 + 10 + 35 + 1 + Int32.toNatClampNeg x1) x2 (ka_s (kf_7_4 (kf_8_1 hk_o0)) c1) r2 hr2) (ka_s (kf_7_4 (kf_8_1 hk_o0)) c1) ⟨by decide, by decide⟩ ⟨Nat.zero_le _, Nat.zero_le _⟩ (Nat.le_of_ble_eq_true rfl) dX9_sender_32 ?_
        exact f_iret cx hr hlk rfl dX9_sender_35
      · refine f_iconst (pc := 20) cx dX9_sender_20 kc_iconst_m1 ?_
        exact f_iret cx hr hlk rfl dX9_sender_21
set_option maxRecDepth 4000 in
theorem c_X9_sender (l : Launch) (G : GT) (h : Hp) (o0 : Nat) (x1 : Int32) (x2 : Int32) (hk_o0 : kd o0 = 8) : CtI l G yX9_sender cX9_sender 3 (some .int) 1 21 [.ref (gad G o0), .int x1, .int x2] h (p_X9_sender h o0 x1 x2) := fun a ha => Ct.of (lv := [some (.ref (gad G o0)), some (.int x1), some (.int x2)]) (by decide) rfl (Nat.le_of_ble_eq_true rfl) rfl (fun p e s m args below meth c cx hr hlk => s_X9_sender cx hr hlk h o0 x1 x2 hk_o0 a ha)
def p_X9_whose (h : Hp) (o0 : Nat) (x1 : Int32) : Option (Int32 × Hp) :=
  Option.bind (p_X1_has h (o0 + 10 + 2) x1) fun r1 => if r1.1 = 0 then (some ((-1), r1.2)) else (if ib x1 200 then (some (r1.2 (o0 + 10 + 2 + 6) (Int32.toNatClampNeg x1), r1.2)) else none)
set_option maxRecDepth 4000 in
theorem s_X9_whose {p : Program} {l : Launch} {e : Env} {s : State} {m : MethodId} {args : Array Value} {below : List Frame} {meth : Method} {c : Code} {G : GT} (cx : CX p s m args c cX9_whose 2 RX9 G) (hr : meth.sig.returnType = (some .int)) (hlk : meth.locks = false) (h : Hp) (o0 : Nat) (x1 : Int32) (hk_o0 : kd o0 = 8) : PF p l e (rmc 1 21) s m args below meth c 2 G 0 0 (QI below G args s) 0 [some (.ref (gad G o0)), some (.int x1)] [] h (p_X9_whose h o0 x1) := by
  unfold p_X9_whose
  refine f_aload_n (pc := 0) cx dX9_whose_0 rfl rfl ?_
  refine g_X9_19 (pc := 1) cx hk_o0 dX9_whose_1 ?_
  refine g_X9_72 (pc := 4) cx (kf_8_1 hk_o0) dX9_whose_4 ?_
  refine f_iload_n (pc := 7) cx dX9_whose_7 rfl rfl ?_
  refine f_bind (fun r1 hr1 => ?_)
  refine k_X9_98 (pc := 8) cx (c_X1_has l G _ (o0 + 10 + 2) x1 (kf_7_1 (kf_8_1 hk_o0)) r1 hr1) (kf_7_1 (kf_8_1 hk_o0)) ⟨by decide, by decide⟩ ⟨Nat.zero_le _, Nat.zero_le _⟩ (Nat.le_of_ble_eq_true rfl) dX9_whose_8 ?_
  refine f_if_eq (pc := 11) (tgt := 29) cx dX9_whose_11 (by decide) (fun _ => ?_) (fun _ => ?_)
  · refine f_iconst (pc := 29) cx dX9_whose_29 kc_iconst_m1 ?_
    exact f_iret cx hr hlk rfl dX9_whose_30
  · refine f_aload_n (pc := 14) cx dX9_whose_14 rfl rfl ?_
    refine g_X9_19 (pc := 15) cx hk_o0 dX9_whose_15 ?_
    refine g_X9_72 (pc := 18) cx (kf_8_1 hk_o0) dX9_whose_18 ?_
    refine g_X9_102 (pc := 21) cx (kf_7_1 (kf_8_1 hk_o0)) dX9_whose_21 ?_
    refine f_iload_n (pc := 24) cx dX9_whose_24 rfl rfl ?_
    refine f_need (fun c2 => ?_)
    refine f_iald (pc := 25) (n := 200) cx (kf_1_5 (kf_7_1 (kf_8_1 hk_o0))) (by decide) c2 dX9_whose_25 ?_
    refine f_goto (pc := 26) (tgt := 30) cx dX9_whose_26 (by decide) ?_
    exact f_iret cx hr hlk rfl dX9_whose_30
set_option maxRecDepth 4000 in
theorem c_X9_whose (l : Launch) (G : GT) (h : Hp) (o0 : Nat) (x1 : Int32) (hk_o0 : kd o0 = 8) : CtI l G yX9_whose cX9_whose 2 (some .int) 1 21 [.ref (gad G o0), .int x1] h (p_X9_whose h o0 x1) := fun a ha => Ct.of (lv := [some (.ref (gad G o0)), some (.int x1)]) (by decide) rfl (Nat.le_of_ble_eq_true rfl) rfl (fun p e s m args below meth c cx hr hlk => s_X9_whose cx hr hlk h o0 x1 hk_o0 a ha)
def p_X9_ifRun (h : Hp) (o0 : Nat) (x1 : Int32) (x2 : Int32) : Option (Int32 × Hp) :=
  Option.bind (p_X9_fits h 18 x1) fun r1 => if r1.1 = 0 then (some ((-1), r1.2)) else (if x2 < 0 then (some ((-1), r1.2)) else (if x2 ≤ 5 then (Option.bind (p_X6_afterTicks r1.2 (o0 + 59) (o0 + 10) x1 x2) fun r2 => some (r2.1, r2.2)) else (some ((-1), r1.2))))
set_option maxRecDepth 4000 in
theorem s_X9_ifRun {p : Program} {l : Launch} {e : Env} {s : State} {m : MethodId} {args : Array Value} {below : List Frame} {meth : Method} {c : Code} {G : GT} (cx : CX p s m args c cX9_ifRun 3 RX9 G) (hr : meth.sig.returnType = (some .int)) (hlk : meth.locks = false) (h : Hp) (o0 : Nat) (x1 : Int32) (x2 : Int32) (hk_o0 : kd o0 = 8) : PF p l e (rmc 7 165) s m args below meth c 3 G 0 0 (QI below G args s) 0 [some (.ref (gad G o0)), some (.int x1), some (.int x2)] [] h (p_X9_ifRun h o0 x1 x2) := by
  unfold p_X9_ifRun
  refine f_bipush (pc := 0) cx dX9_ifRun_0 kc_bipush_18 ?_
  refine f_iload_n (pc := 2) cx dX9_ifRun_2 rfl rfl ?_
  refine f_bind (fun r1 hr1 => ?_)
  refine k_X9_56 (pc := 3) cx (c_X9_fits l G _ 18 x1 r1 hr1) ⟨by decide, by decide⟩ ⟨Nat.zero_le _, Nat.zero_le _⟩ (Nat.le_of_ble_eq_true rfl) dX9_ifRun_3 ?_
  refine f_if_eq (pc := 6) (tgt := 18) cx dX9_ifRun_6 (by decide) (fun _ => ?_) (fun _ => ?_)
  · refine f_iconst (pc := 18) cx dX9_ifRun_18 kc_iconst_m1 ?_
    exact f_iret cx hr hlk rfl dX9_ifRun_19
  · refine f_iload_n (pc := 9) cx dX9_ifRun_9 rfl rfl ?_
    refine f_if_lt (pc := 10) (tgt := 18) cx dX9_ifRun_10 (by decide) (fun _ => ?_) (fun _ => ?_)
    · refine f_iconst (pc := 18) cx dX9_ifRun_18 kc_iconst_m1 ?_
      exact f_iret cx hr hlk rfl dX9_ifRun_19
    · refine f_iload_n (pc := 13) cx dX9_ifRun_13 rfl rfl ?_
      refine f_iconst (pc := 14) cx dX9_ifRun_14 kc_iconst_5 ?_
      refine f_icmp_le (pc := 15) (tgt := 20) cx dX9_ifRun_15 (by decide) (fun _ => ?_) (fun _ => ?_)
      · refine f_aload_n (pc := 20) cx dX9_ifRun_20 rfl rfl ?_
        refine g_X9_26 (pc := 21) cx hk_o0 dX9_ifRun_21 ?_
        refine f_aload_n (pc := 24) cx dX9_ifRun_24 rfl rfl ?_
        refine g_X9_19 (pc := 25) cx hk_o0 dX9_ifRun_25 ?_
        refine f_iload_n (pc := 28) cx dX9_ifRun_28 rfl rfl ?_
        refine f_iload_n (pc := 29) cx dX9_ifRun_29 rfl rfl ?_
        refine f_bind (fun r2 hr2 => ?_)
        refine k_X9_105 (pc := 30) cx (c_X6_afterTicks l G _ (o0 + 59) (o0 + 10) x1 x2 (kf_8_2 hk_o0) (kf_8_1 hk_o0) r2 hr2) (kf_8_2 hk_o0) ⟨by decide, by decide⟩ ⟨Nat.zero_le _, Nat.zero_le _⟩ (Nat.le_of_ble_eq_true rfl) dX9_ifRun_30 ?_
        exact f_iret cx hr hlk rfl dX9_ifRun_33
      · refine f_iconst (pc := 18) cx dX9_ifRun_18 kc_iconst_m1 ?_
        exact f_iret cx hr hlk rfl dX9_ifRun_19
set_option maxRecDepth 4000 in
theorem c_X9_ifRun (l : Launch) (G : GT) (h : Hp) (o0 : Nat) (x1 : Int32) (x2 : Int32) (hk_o0 : kd o0 = 8) : CtI l G yX9_ifRun cX9_ifRun 3 (some .int) 7 165 [.ref (gad G o0), .int x1, .int x2] h (p_X9_ifRun h o0 x1 x2) := fun a ha => Ct.of (lv := [some (.ref (gad G o0)), some (.int x1), some (.int x2)]) (by decide) rfl (Nat.le_of_ble_eq_true rfl) rfl (fun p e s m args below meth c cx hr hlk => s_X9_ifRun cx hr hlk h o0 x1 x2 hk_o0 a ha)
def p_X9_firstCut (h : Hp) (o0 : Nat) (x1 : Int32) : Option (Int32 × Hp) :=
  Option.bind (p_X9_fits h 18 x1) fun r1 => if r1.1 = 0 then (some ((-1), r1.2)) else (Option.bind (p_X6_tickOfFirstCut r1.2 (o0 + 59) (o0 + 10) x1) fun r2 => some (r2.1, r2.2))
set_option maxRecDepth 4000 in
theorem s_X9_firstCut {p : Program} {l : Launch} {e : Env} {s : State} {m : MethodId} {args : Array Value} {below : List Frame} {meth : Method} {c : Code} {G : GT} (cx : CX p s m args c cX9_firstCut 2 RX9 G) (hr : meth.sig.returnType = (some .int)) (hlk : meth.locks = false) (h : Hp) (o0 : Nat) (x1 : Int32) (hk_o0 : kd o0 = 8) : PF p l e (rmc 7 165) s m args below meth c 2 G 0 0 (QI below G args s) 0 [some (.ref (gad G o0)), some (.int x1)] [] h (p_X9_firstCut h o0 x1) := by
  unfold p_X9_firstCut
  refine f_bipush (pc := 0) cx dX9_firstCut_0 kc_bipush_18 ?_
  refine f_iload_n (pc := 2) cx dX9_firstCut_2 rfl rfl ?_
  refine f_bind (fun r1 hr1 => ?_)
  refine k_X9_56 (pc := 3) cx (c_X9_fits l G _ 18 x1 r1 hr1) ⟨by decide, by decide⟩ ⟨Nat.zero_le _, Nat.zero_le _⟩ (Nat.le_of_ble_eq_true rfl) dX9_firstCut_3 ?_
  refine f_if_eq (pc := 6) (tgt := 24) cx dX9_firstCut_6 (by decide) (fun _ => ?_) (fun _ => ?_)
  · refine f_iconst (pc := 24) cx dX9_firstCut_24 kc_iconst_m1 ?_
    exact f_iret cx hr hlk rfl dX9_firstCut_25
  · refine f_aload_n (pc := 9) cx dX9_firstCut_9 rfl rfl ?_
    refine g_X9_26 (pc := 10) cx hk_o0 dX9_firstCut_10 ?_
    refine f_aload_n (pc := 13) cx dX9_firstCut_13 rfl rfl ?_
    refine g_X9_19 (pc := 14) cx hk_o0 dX9_firstCut_14 ?_
    refine f_iload_n (pc := 17) cx dX9_firstCut_17 rfl rfl ?_
    refine f_bind (fun r2 hr2 => ?_)
    refine k_X9_109 (pc := 18) cx (c_X6_tickOfFirstCut l G _ (o0 + 59) (o0 + 10) x1 (kf_8_2 hk_o0) (kf_8_1 hk_o0) r2 hr2) (kf_8_2 hk_o0) ⟨by decide, by decide⟩ ⟨Nat.zero_le _, Nat.zero_le _⟩ (Nat.le_of_ble_eq_true rfl) dX9_firstCut_18 ?_
    refine f_goto (pc := 21) (tgt := 25) cx dX9_firstCut_21 (by decide) ?_
    exact f_iret cx hr hlk rfl dX9_firstCut_25
set_option maxRecDepth 4000 in
theorem c_X9_firstCut (l : Launch) (G : GT) (h : Hp) (o0 : Nat) (x1 : Int32) (hk_o0 : kd o0 = 8) : CtI l G yX9_firstCut cX9_firstCut 2 (some .int) 7 165 [.ref (gad G o0), .int x1] h (p_X9_firstCut h o0 x1) := fun a ha => Ct.of (lv := [some (.ref (gad G o0)), some (.int x1)]) (by decide) rfl (Nat.le_of_ble_eq_true rfl) rfl (fun p e s m args below meth c cx hr hlk => s_X9_firstCut cx hr hlk h o0 x1 hk_o0 a ha)
def p_X9_leastLimit (h : Hp) (o0 : Nat) (x1 : Int32) : Option (Int32 × Hp) :=
  Option.bind (p_X9_fits h 18 x1) fun r1 => if r1.1 = 0 then (some ((-1), r1.2)) else (Option.bind (p_X6_limitWithoutPushes r1.2 (o0 + 59) (o0 + 10) x1) fun r2 => some (r2.1, r2.2))
set_option maxRecDepth 4000 in
theorem s_X9_leastLimit {p : Program} {l : Launch} {e : Env} {s : State} {m : MethodId} {args : Array Value} {below : List Frame} {meth : Method} {c : Code} {G : GT} (cx : CX p s m args c cX9_leastLimit 2 RX9 G) (hr : meth.sig.returnType = (some .int)) (hlk : meth.locks = false) (h : Hp) (o0 : Nat) (x1 : Int32) (hk_o0 : kd o0 = 8) : PF p l e (rmc 7 164) s m args below meth c 2 G 0 0 (QI below G args s) 0 [some (.ref (gad G o0)), some (.int x1)] [] h (p_X9_leastLimit h o0 x1) := by
  unfold p_X9_leastLimit
  refine f_bipush (pc := 0) cx dX9_leastLimit_0 kc_bipush_18 ?_
  refine f_iload_n (pc := 2) cx dX9_leastLimit_2 rfl rfl ?_
  refine f_bind (fun r1 hr1 => ?_)
  refine k_X9_56 (pc := 3) cx (c_X9_fits l G _ 18 x1 r1 hr1) ⟨by decide, by decide⟩ ⟨Nat.zero_le _, Nat.zero_le _⟩ (Nat.le_of_ble_eq_true rfl) dX9_leastLimit_3 ?_
  refine f_if_eq (pc := 6) (tgt := 24) cx dX9_leastLimit_6 (by decide) (fun _ => ?_) (fun _ => ?_)
  · refine f_iconst (pc := 24) cx dX9_leastLimit_24 kc_iconst_m1 ?_
    exact f_iret cx hr hlk rfl dX9_leastLimit_25
  · refine f_aload_n (pc := 9) cx dX9_leastLimit_9 rfl rfl ?_
    refine g_X9_26 (pc := 10) cx hk_o0 dX9_leastLimit_10 ?_
    refine f_aload_n (pc := 13) cx dX9_leastLimit_13 rfl rfl ?_
    refine g_X9_19 (pc := 14) cx hk_o0 dX9_leastLimit_14 ?_
    refine f_iload_n (pc := 17) cx dX9_leastLimit_17 rfl rfl ?_
    refine f_bind (fun r2 hr2 => ?_)
    refine k_X9_113 (pc := 18) cx (c_X6_limitWithoutPushes l G _ (o0 + 59) (o0 + 10) x1 (kf_8_2 hk_o0) (kf_8_1 hk_o0) r2 hr2) (kf_8_2 hk_o0) ⟨by decide, by decide⟩ ⟨Nat.zero_le _, Nat.zero_le _⟩ (Nat.le_of_ble_eq_true rfl) dX9_leastLimit_18 ?_
    refine f_goto (pc := 21) (tgt := 25) cx dX9_leastLimit_21 (by decide) ?_
    exact f_iret cx hr hlk rfl dX9_leastLimit_25
set_option maxRecDepth 4000 in
theorem c_X9_leastLimit (l : Launch) (G : GT) (h : Hp) (o0 : Nat) (x1 : Int32) (hk_o0 : kd o0 = 8) : CtI l G yX9_leastLimit cX9_leastLimit 2 (some .int) 7 164 [.ref (gad G o0), .int x1] h (p_X9_leastLimit h o0 x1) := fun a ha => Ct.of (lv := [some (.ref (gad G o0)), some (.int x1)]) (by decide) rfl (Nat.le_of_ble_eq_true rfl) rfl (fun p e s m args below meth c cx hr hlk => s_X9_leastLimit cx hr hlk h o0 x1 hk_o0 a ha)
def p_X9_bestTarget (h : Hp) (o0 : Nat) (x1 : Int32) : Option (Int32 × Hp) :=
  Option.bind (p_X9_fits h 18 x1) fun r1 => if r1.1 = 0 then (some ((-1), r1.2)) else (Option.bind (p_X6_targetOfMostBytes r1.2 (o0 + 59) (o0 + 10) x1) fun r2 => some (r2.1, r2.2))
set_option maxRecDepth 4000 in
theorem s_X9_bestTarget {p : Program} {l : Launch} {e : Env} {s : State} {m : MethodId} {args : Array Value} {below : List Frame} {meth : Method} {c : Code} {G : GT} (cx : CX p s m args c cX9_bestTarget 2 RX9 G) (hr : meth.sig.returnType = (some .int)) (hlk : meth.locks = false) (h : Hp) (o0 : Nat) (x1 : Int32) (hk_o0 : kd o0 = 8) : PF p l e (rmc 7 168) s m args below meth c 2 G 0 0 (QI below G args s) 0 [some (.ref (gad G o0)), some (.int x1)] [] h (p_X9_bestTarget h o0 x1) := by
  unfold p_X9_bestTarget
  refine f_bipush (pc := 0) cx dX9_bestTarget_0 kc_bipush_18 ?_
  refine f_iload_n (pc := 2) cx dX9_bestTarget_2 rfl rfl ?_
  refine f_bind (fun r1 hr1 => ?_)
  refine k_X9_56 (pc := 3) cx (c_X9_fits l G _ 18 x1 r1 hr1) ⟨by decide, by decide⟩ ⟨Nat.zero_le _, Nat.zero_le _⟩ (Nat.le_of_ble_eq_true rfl) dX9_bestTarget_3 ?_
  refine f_if_eq (pc := 6) (tgt := 24) cx dX9_bestTarget_6 (by decide) (fun _ => ?_) (fun _ => ?_)
  · refine f_iconst (pc := 24) cx dX9_bestTarget_24 kc_iconst_m1 ?_
    exact f_iret cx hr hlk rfl dX9_bestTarget_25
  · refine f_aload_n (pc := 9) cx dX9_bestTarget_9 rfl rfl ?_
    refine g_X9_26 (pc := 10) cx hk_o0 dX9_bestTarget_10 ?_
    refine f_aload_n (pc := 13) cx dX9_bestTarget_13 rfl rfl ?_
    refine g_X9_19 (pc := 14) cx hk_o0 dX9_bestTarget_14 ?_
    refine f_iload_n (pc := 17) cx dX9_bestTarget_17 rfl rfl ?_
    refine f_bind (fun r2 hr2 => ?_)
    refine k_X9_116 (pc := 18) cx (c_X6_targetOfMostBytes l G _ (o0 + 59) (o0 + 10) x1 (kf_8_2 hk_o0) (kf_8_1 hk_o0) r2 hr2) (kf_8_2 hk_o0) ⟨by decide, by decide⟩ ⟨Nat.zero_le _, Nat.zero_le _⟩ (Nat.le_of_ble_eq_true rfl) dX9_bestTarget_18 ?_
    refine f_goto (pc := 21) (tgt := 25) cx dX9_bestTarget_21 (by decide) ?_
    exact f_iret cx hr hlk rfl dX9_bestTarget_25
set_option maxRecDepth 4000 in
theorem c_X9_bestTarget (l : Launch) (G : GT) (h : Hp) (o0 : Nat) (x1 : Int32) (hk_o0 : kd o0 = 8) : CtI l G yX9_bestTarget cX9_bestTarget 2 (some .int) 7 168 [.ref (gad G o0), .int x1] h (p_X9_bestTarget h o0 x1) := fun a ha => Ct.of (lv := [some (.ref (gad G o0)), some (.int x1)]) (by decide) rfl (Nat.le_of_ble_eq_true rfl) rfl (fun p e s m args below meth c cx hr hlk => s_X9_bestTarget cx hr hlk h o0 x1 hk_o0 a ha)
def p_X9_settle (h : Hp) (o0 : Nat) (x1 : Int32) (x2 : Int32) : Option (Int32 × Hp) :=
  if x1 < 0 then (some ((-1), h)) else (if x1 < 6 then (if ib x1 6 then (nv (tbv 4 (Int32.toNatClampNeg x1)) fun v2 => Option.bind (p_X9_fits h v2 x2) fun r3 => if r3.1 = 0 then (some ((-1), r3.2)) else (if ib v2 8 then (nv (r3.2 (o0 + 10 + 1) (Int32.toNatClampNeg v2)) fun v5 => if ib v2 8 then (nv (hp r3.2 (o0 + 10 + 1) (Int32.toNatClampNeg v2) x2) fun h7 => some (v5, h7)) else none) else none)) else none) else (some ((-1), h)))
set_option maxRecDepth 4000 in
theorem s_X9_settle {p : Program} {l : Launch} {e : Env} {s : State} {m : MethodId} {args : Array Value} {below : List Frame} {meth : Method} {c : Code} {G : GT} (cx : CX p s m args c cX9_settle 5 RX9 G) (hr : meth.sig.returnType = (some .int)) (hlk : meth.locks = false) (h : Hp) (o0 : Nat) (x1 : Int32) (x2 : Int32) (hk_o0 : kd o0 = 8) : PF p l e (rmc 1 21) s m args below meth c 5 G 0 0 (QI below G args s) 0 [some (.ref (gad G o0)), some (.int x1), some (.int x2), none, none] [] h (p_X9_settle h o0 x1 x2) := by
  unfold p_X9_settle
  refine f_iload_n (pc := 0) cx dX9_settle_0 rfl rfl ?_
  refine f_if_lt (pc := 1) (tgt := 12) cx dX9_settle_1 (by decide) (fun _ => ?_) (fun _ => ?_)
  · refine f_iconst (pc := 12) cx dX9_settle_12 kc_iconst_m1 ?_
    exact f_iret cx hr hlk rfl dX9_settle_13
  · refine f_iload_n (pc := 4) cx dX9_settle_4 rfl rfl ?_
    refine g_X9_119 (pc := 5) cx dX9_settle_5 ?_
    refine f_tlen (pc := 8) (j := 4) cx (by decide) kt_4 dX9_settle_8 ?_
    refine f_icmp_lt (pc := 9) (tgt := 14) cx dX9_settle_9 (by decide) (fun _ => ?_) (fun _ => ?_)
    · refine g_X9_119 (pc := 14) cx dX9_settle_14 ?_
      refine f_iload_n (pc := 17) cx dX9_settle_17 rfl rfl ?_
      refine f_need (fun c1 => ?_)
      refine f_tald (pc := 18) (j := 4) cx (by decide) c1 dX9_settle_18 ?_
      refine f_nvi (fun v2 => ?_)
      refine f_istore3 (pc := 19) cx dX9_settle_19 (by decide) rfl ?_
      refine f_iload_n (pc := 20) cx dX9_settle_20 rfl rfl ?_
      refine f_iload_n (pc := 21) cx dX9_settle_21 rfl rfl ?_
      refine f_bind (fun r3 hr3 => ?_)
      refine k_X9_56 (pc := 22) cx (c_X9_fits l G _ v2 x2 r3 hr3) ⟨by decide, by decide⟩ ⟨Nat.zero_le _, Nat.zero_le _⟩ (Nat.le_of_ble_eq_true rfl) dX9_settle_22 ?_
      refine f_if_ne (pc := 25) (tgt := 30) cx dX9_settle_25 (by decide) (fun _ => ?_) (fun _ => ?_)
      · refine f_iconst (pc := 28) cx dX9_settle_28 kc_iconst_m1 ?_
        exact f_iret cx hr hlk rfl dX9_settle_29
      · refine f_aload_n (pc := 30) cx dX9_settle_30 rfl rfl ?_
        refine g_X9_19 (pc := 31) cx hk_o0 dX9_settle_31 ?_
        refine g_X9_122 (pc := 34) cx (kf_8_1 hk_o0) dX9_settle_34 ?_
        refine f_iload_n (pc := 37) cx dX9_settle_37 rfl rfl ?_
        refine f_need (fun c4 => ?_)
        refine f_iald (pc := 38) (n := 8) cx (kf_7_0 (kf_8_1 hk_o0)) (by decide) c4 dX9_settle_38 ?_
        refine f_nvi (fun v5 => ?_)
        refine f_istore4 (pc := 39) cx dX9_settle_39 (by decide) rfl ?_
        refine f_aload_n (pc := 41) cx dX9_settle_41 rfl rfl ?_
        refine g_X9_19 (pc := 42) cx hk_o0 dX9_settle_42 ?_
        refine g_X9_122 (pc := 45) cx (kf_8_1 hk_o0) dX9_settle_45 ?_
        refine f_iload_n (pc := 48) cx dX9_settle_48 rfl rfl ?_
        refine f_iload_n (pc := 49) cx dX9_settle_49 rfl rfl ?_
        refine f_need (fun c6 => ?_)
        refine f_iast (pc := 50) (n := 8) cx (kf_7_0 (kf_8_1 hk_o0)) (by decide) c6 dX9_settle_50 ?_
        refine f_nvh (fun h7 => ?_)
        refine f_iload (pc := 51) cx dX9_settle_51 rfl ?_
        exact f_iret cx hr hlk rfl dX9_settle_53
    · refine f_iconst (pc := 12) cx dX9_settle_12 kc_iconst_m1 ?_
      exact f_iret cx hr hlk rfl dX9_settle_13
set_option maxRecDepth 4000 in
theorem c_X9_settle (l : Launch) (G : GT) (h : Hp) (o0 : Nat) (x1 : Int32) (x2 : Int32) (hk_o0 : kd o0 = 8) : CtI l G yX9_settle cX9_settle 5 (some .int) 1 21 [.ref (gad G o0), .int x1, .int x2] h (p_X9_settle h o0 x1 x2) := fun a ha => Ct.of (lv := [some (.ref (gad G o0)), some (.int x1), some (.int x2), none, none]) (by decide) rfl (Nat.le_of_ble_eq_true rfl) rfl (fun p e s m args below meth c cx hr hlk => s_X9_settle cx hr hlk h o0 x1 x2 hk_o0 a ha)
def p_X9_watch (h : Hp) (o0 : Nat) (x1 : Int32) (x2 : Int32) : Option (Int32 × Hp) :=
  if x1 < 0 then (some ((-1), h)) else (if 5 < x1 then (some ((-1), h)) else (if x2 < 0 then (some ((-1), h)) else (if x2 ≤ 99999 then (Option.bind (p_X7_add h (o0 + 10 + 40) x1 x2) fun r1 => some (r1.1, r1.2)) else (some ((-1), h)))))
set_option maxRecDepth 4000 in
theorem s_X9_watch {p : Program} {l : Launch} {e : Env} {s : State} {m : MethodId} {args : Array Value} {below : List Frame} {meth : Method} {c : Code} {G : GT} (cx : CX p s m args c cX9_watch 3 RX9 G) (hr : meth.sig.returnType = (some .int)) (hlk : meth.locks = false) (h : Hp) (o0 : Nat) (x1 : Int32) (x2 : Int32) (hk_o0 : kd o0 = 8) : PF p l e (rmc 1 23) s m args below meth c 3 G 0 0 (QI below G args s) 0 [some (.ref (gad G o0)), some (.int x1), some (.int x2)] [] h (p_X9_watch h o0 x1 x2) := by
  unfold p_X9_watch
  refine f_iload_n (pc := 0) cx dX9_watch_0 rfl rfl ?_
  refine f_if_lt (pc := 1) (tgt := 19) cx dX9_watch_1 (by decide) (fun _ => ?_) (fun _ => ?_)
  · refine f_iconst (pc := 19) cx dX9_watch_19 kc_iconst_m1 ?_
    exact f_iret cx hr hlk rfl dX9_watch_20
  · refine f_iload_n (pc := 4) cx dX9_watch_4 rfl rfl ?_
    refine f_iconst (pc := 5) cx dX9_watch_5 kc_iconst_5 ?_
    refine f_icmp_gt (pc := 6) (tgt := 19) cx dX9_watch_6 (by decide) (fun _ => ?_) (fun _ => ?_)
    · refine f_iconst (pc := 19) cx dX9_watch_19 kc_iconst_m1 ?_
      exact f_iret cx hr hlk rfl dX9_watch_20
    · refine f_iload_n (pc := 9) cx dX9_watch_9 rfl rfl ?_
      refine f_if_lt (pc := 10) (tgt := 19) cx dX9_watch_10 (by decide) (fun _ => ?_) (fun _ => ?_)
      · refine f_iconst (pc := 19) cx dX9_watch_19 kc_iconst_m1 ?_
        exact f_iret cx hr hlk rfl dX9_watch_20
      · refine f_iload_n (pc := 13) cx dX9_watch_13 rfl rfl ?_
        refine f_ldc (pc := 14) cx w_988 dX9_watch_14 ?_
        refine f_icmp_le (pc := 16) (tgt := 21) cx dX9_watch_16 (by decide) (fun _ => ?_) (fun _ => ?_)
        · refine f_aload_n (pc := 21) cx dX9_watch_21 rfl rfl ?_
          refine g_X9_19 (pc := 22) cx hk_o0 dX9_watch_22 ?_
          refine g_X9_126 (pc := 25) cx (kf_8_1 hk_o0) dX9_watch_25 ?_
          refine f_iload_n (pc := 28) cx dX9_watch_28 rfl rfl ?_
          refine f_iload_n (pc := 29) cx dX9_watch_29 rfl rfl ?_
          refine f_bind (fun r1 hr1 => ?_)
          refine k_X9_130 (pc := 30) cx (c_X7_add l G _ (o0 + 10 + 40) x1 x2 (kf_7_5 (kf_8_1 hk_o0)) r1 hr1) (kf_7_5 (kf_8_1 hk_o0)) ⟨by decide, by decide⟩ ⟨Nat.zero_le _, Nat.zero_le _⟩ (Nat.le_of_ble_eq_true rfl) dX9_watch_30 ?_
          exact f_iret cx hr hlk rfl dX9_watch_33
        · refine f_iconst (pc := 19) cx dX9_watch_19 kc_iconst_m1 ?_
          exact f_iret cx hr hlk rfl dX9_watch_20
set_option maxRecDepth 4000 in
theorem c_X9_watch (l : Launch) (G : GT) (h : Hp) (o0 : Nat) (x1 : Int32) (x2 : Int32) (hk_o0 : kd o0 = 8) : CtI l G yX9_watch cX9_watch 3 (some .int) 1 23 [.ref (gad G o0), .int x1, .int x2] h (p_X9_watch h o0 x1 x2) := fun a ha => Ct.of (lv := [some (.ref (gad G o0)), some (.int x1), some (.int x2)]) (by decide) rfl (Nat.le_of_ble_eq_true rfl) rfl (fun p e s m args below meth c cx hr hlk => s_X9_watch cx hr hlk h o0 x1 x2 hk_o0 a ha)
def p_X9_watched (h : Hp) (o0 : Nat) (x1 : Int32) : Option (Int32 × Hp) :=
  if 0 ≤ x1 then (Option.bind (p_X7_tell h (o0 + 10 + 40) x1) fun r1 => some (r1.1, r1.2)) else (some ((-1), h))
set_option maxRecDepth 4000 in
theorem s_X9_watched {p : Program} {l : Launch} {e : Env} {s : State} {m : MethodId} {args : Array Value} {below : List Frame} {meth : Method} {c : Code} {G : GT} (cx : CX p s m args c cX9_watched 2 RX9 G) (hr : meth.sig.returnType = (some .int)) (hlk : meth.locks = false) (h : Hp) (o0 : Nat) (x1 : Int32) (hk_o0 : kd o0 = 8) : PF p l e (rmc 1 21) s m args below meth c 2 G 0 0 (QI below G args s) 0 [some (.ref (gad G o0)), some (.int x1)] [] h (p_X9_watched h o0 x1) := by
  unfold p_X9_watched
  refine f_iload_n (pc := 0) cx dX9_watched_0 rfl rfl ?_
  refine f_if_ge (pc := 1) (tgt := 6) cx dX9_watched_1 (by decide) (fun _ => ?_) (fun _ => ?_)
  · refine f_aload_n (pc := 6) cx dX9_watched_6 rfl rfl ?_
    refine g_X9_19 (pc := 7) cx hk_o0 dX9_watched_7 ?_
    refine g_X9_126 (pc := 10) cx (kf_8_1 hk_o0) dX9_watched_10 ?_
    refine f_iload_n (pc := 13) cx dX9_watched_13 rfl rfl ?_
    refine f_bind (fun r1 hr1 => ?_)
    refine k_X9_136 (pc := 14) cx (c_X7_tell l G _ (o0 + 10 + 40) x1 (kf_7_5 (kf_8_1 hk_o0)) r1 hr1) (kf_7_5 (kf_8_1 hk_o0)) ⟨by decide, by decide⟩ ⟨Nat.zero_le _, Nat.zero_le _⟩ (Nat.le_of_ble_eq_true rfl) dX9_watched_14 ?_
    exact f_iret cx hr hlk rfl dX9_watched_17
  · refine f_iconst (pc := 4) cx dX9_watched_4 kc_iconst_m1 ?_
    exact f_iret cx hr hlk rfl dX9_watched_5
set_option maxRecDepth 4000 in
theorem c_X9_watched (l : Launch) (G : GT) (h : Hp) (o0 : Nat) (x1 : Int32) (hk_o0 : kd o0 = 8) : CtI l G yX9_watched cX9_watched 2 (some .int) 1 21 [.ref (gad G o0), .int x1] h (p_X9_watched h o0 x1) := fun a ha => Ct.of (lv := [some (.ref (gad G o0)), some (.int x1)]) (by decide) rfl (Nat.le_of_ble_eq_true rfl) rfl (fun p e s m args below meth c cx hr hlk => s_X9_watched cx hr hlk h o0 x1 hk_o0 a ha)
def p_X9_set (h : Hp) (o0 : Nat) (x1 : Int32) : Option (Int32 × Hp) :=
  Option.bind (p_X9_fits h 13 x1) fun r1 => if r1.1 = 0 then (some ((-1), r1.2)) else (Option.bind (p_X8_setOf r1.2 (o0 + 10) x1) fun r2 => some (r2.1, r2.2))
set_option maxRecDepth 4000 in
theorem s_X9_set {p : Program} {l : Launch} {e : Env} {s : State} {m : MethodId} {args : Array Value} {below : List Frame} {meth : Method} {c : Code} {G : GT} (cx : CX p s m args c cX9_set 2 RX9 G) (hr : meth.sig.returnType = (some .int)) (hlk : meth.locks = false) (h : Hp) (o0 : Nat) (x1 : Int32) (hk_o0 : kd o0 = 8) : PF p l e (rmc 2 42) s m args below meth c 2 G 0 0 (QI below G args s) 0 [some (.ref (gad G o0)), some (.int x1)] [] h (p_X9_set h o0 x1) := by
  unfold p_X9_set
  refine f_bipush (pc := 0) cx dX9_set_0 kc_bipush_13 ?_
  refine f_iload_n (pc := 2) cx dX9_set_2 rfl rfl ?_
  refine f_bind (fun r1 hr1 => ?_)
  refine k_X9_56 (pc := 3) cx (c_X9_fits l G _ 13 x1 r1 hr1) ⟨by decide, by decide⟩ ⟨Nat.zero_le _, Nat.zero_le _⟩ (Nat.le_of_ble_eq_true rfl) dX9_set_3 ?_
  refine f_if_eq (pc := 6) (tgt := 20) cx dX9_set_6 (by decide) (fun _ => ?_) (fun _ => ?_)
  · refine f_iconst (pc := 20) cx dX9_set_20 kc_iconst_m1 ?_
    exact f_iret cx hr hlk rfl dX9_set_21
  · refine f_aload_n (pc := 9) cx dX9_set_9 rfl rfl ?_
    refine g_X9_19 (pc := 10) cx hk_o0 dX9_set_10 ?_
    refine f_iload_n (pc := 13) cx dX9_set_13 rfl rfl ?_
    refine f_bind (fun r2 hr2 => ?_)
    refine k_X9_137 (pc := 14) cx (c_X8_setOf l G _ (o0 + 10) x1 (kf_8_1 hk_o0) r2 hr2) (kf_8_1 hk_o0) ⟨by decide, by decide⟩ ⟨Nat.zero_le _, Nat.zero_le _⟩ (Nat.le_of_ble_eq_true rfl) dX9_set_14 ?_
    refine f_goto (pc := 17) (tgt := 21) cx dX9_set_17 (by decide) ?_
    exact f_iret cx hr hlk rfl dX9_set_21
set_option maxRecDepth 4000 in
theorem c_X9_set (l : Launch) (G : GT) (h : Hp) (o0 : Nat) (x1 : Int32) (hk_o0 : kd o0 = 8) : CtI l G yX9_set cX9_set 2 (some .int) 2 42 [.ref (gad G o0), .int x1] h (p_X9_set h o0 x1) := fun a ha => Ct.of (lv := [some (.ref (gad G o0)), some (.int x1)]) (by decide) rfl (Nat.le_of_ble_eq_true rfl) rfl (fun p e s m args below meth c cx hr hlk => s_X9_set cx hr hlk h o0 x1 hk_o0 a ha)
def p_X9_bucketFor (h : Hp) (o0 : Nat) (x1 : Int32) : Option (Int32 × Hp) :=
  Option.bind (p_X9_fits h 13 x1) fun r1 => if r1.1 = 0 then (some ((-1), r1.2)) else (Option.bind (p_X8_placeFor r1.2 (o0 + 10) x1) fun r2 => some (r2.1, r2.2))
set_option maxRecDepth 4000 in
theorem s_X9_bucketFor {p : Program} {l : Launch} {e : Env} {s : State} {m : MethodId} {args : Array Value} {below : List Frame} {meth : Method} {c : Code} {G : GT} (cx : CX p s m args c cX9_bucketFor 2 RX9 G) (hr : meth.sig.returnType = (some .int)) (hlk : meth.locks = false) (h : Hp) (o0 : Nat) (x1 : Int32) (hk_o0 : kd o0 = 8) : PF p l e (rmc 3 66) s m args below meth c 2 G 0 0 (QI below G args s) 0 [some (.ref (gad G o0)), some (.int x1)] [] h (p_X9_bucketFor h o0 x1) := by
  unfold p_X9_bucketFor
  refine f_bipush (pc := 0) cx dX9_bucketFor_0 kc_bipush_13 ?_
  refine f_iload_n (pc := 2) cx dX9_bucketFor_2 rfl rfl ?_
  refine f_bind (fun r1 hr1 => ?_)
  refine k_X9_56 (pc := 3) cx (c_X9_fits l G _ 13 x1 r1 hr1) ⟨by decide, by decide⟩ ⟨Nat.zero_le _, Nat.zero_le _⟩ (Nat.le_of_ble_eq_true rfl) dX9_bucketFor_3 ?_
  refine f_if_eq (pc := 6) (tgt := 20) cx dX9_bucketFor_6 (by decide) (fun _ => ?_) (fun _ => ?_)
  · refine f_iconst (pc := 20) cx dX9_bucketFor_20 kc_iconst_m1 ?_
    exact f_iret cx hr hlk rfl dX9_bucketFor_21
  · refine f_aload_n (pc := 9) cx dX9_bucketFor_9 rfl rfl ?_
    refine g_X9_19 (pc := 10) cx hk_o0 dX9_bucketFor_10 ?_
    refine f_iload_n (pc := 13) cx dX9_bucketFor_13 rfl rfl ?_
    refine f_bind (fun r2 hr2 => ?_)
    refine k_X9_140 (pc := 14) cx (c_X8_placeFor l G _ (o0 + 10) x1 (kf_8_1 hk_o0) r2 hr2) (kf_8_1 hk_o0) ⟨by decide, by decide⟩ ⟨Nat.zero_le _, Nat.zero_le _⟩ (Nat.le_of_ble_eq_true rfl) dX9_bucketFor_14 ?_
    refine f_goto (pc := 17) (tgt := 21) cx dX9_bucketFor_17 (by decide) ?_
    exact f_iret cx hr hlk rfl dX9_bucketFor_21
set_option maxRecDepth 4000 in
theorem c_X9_bucketFor (l : Launch) (G : GT) (h : Hp) (o0 : Nat) (x1 : Int32) (hk_o0 : kd o0 = 8) : CtI l G yX9_bucketFor cX9_bucketFor 2 (some .int) 3 66 [.ref (gad G o0), .int x1] h (p_X9_bucketFor h o0 x1) := fun a ha => Ct.of (lv := [some (.ref (gad G o0)), some (.int x1)]) (by decide) rfl (Nat.le_of_ble_eq_true rfl) rfl (fun p e s m args below meth c cx hr hlk => s_X9_bucketFor cx hr hlk h o0 x1 hk_o0 a ha)
def p_X9_inBucket (h : Hp) (o0 : Nat) (x1 : Int32) (x2 : Int32) : Option (Int32 × Hp) :=
  Option.bind (p_X8_hasBucket h (o0 + 10) x1) fun r1 => if r1.1 = 0 then (some ((-1), r1.2)) else (if 0 ≤ x2 then (if ib x1 16 then (Option.bind (p_X1_along r1.2 (o0 + 10 + 2) (r1.2 (o0 + 10 + 16 + 1 + Int32.toNatClampNeg x1) 1) x2) fun r3 => some (r3.1, r3.2)) else none) else (some ((-1), r1.2)))
set_option maxRecDepth 4000 in
theorem s_X9_inBucket {p : Program} {l : Launch} {e : Env} {s : State} {m : MethodId} {args : Array Value} {below : List Frame} {meth : Method} {c : Code} {G : GT} (cx : CX p s m args c cX9_inBucket 3 RX9 G) (hr : meth.sig.returnType = (some .int)) (hlk : meth.locks = false) (h : Hp) (o0 : Nat) (x1 : Int32) (x2 : Int32) (hk_o0 : kd o0 = 8) : PF p l e (rmc 2 45) s m args below meth c 3 G 0 0 (QI below G args s) 0 [some (.ref (gad G o0)), some (.int x1), some (.int x2)] [] h (p_X9_inBucket h o0 x1 x2) := by
  unfold p_X9_inBucket
  refine f_aload_n (pc := 0) cx dX9_inBucket_0 rfl rfl ?_
  refine g_X9_19 (pc := 1) cx hk_o0 dX9_inBucket_1 ?_
  refine f_iload_n (pc := 4) cx dX9_inBucket_4 rfl rfl ?_
  refine f_bind (fun r1 hr1 => ?_)
  refine k_X9_143 (pc := 5) cx (c_X8_hasBucket l G _ (o0 + 10) x1 (kf_8_1 hk_o0) r1 hr1) (kf_8_1 hk_o0) ⟨by decide, by decide⟩ ⟨Nat.zero_le _, Nat.zero_le _⟩ (Nat.le_of_ble_eq_true rfl) dX9_inBucket_5 ?_
  refine f_if_eq (pc := 8) (tgt := 15) cx dX9_inBucket_8 (by decide) (fun _ => ?_) (fun _ => ?_)
  · refine f_iconst (pc := 15) cx dX9_inBucket_15 kc_iconst_m1 ?_
    exact f_iret cx hr hlk rfl dX9_inBucket_16
  · refine f_iload_n (pc := 11) cx dX9_inBucket_11 rfl rfl ?_
    refine f_if_ge (pc := 12) (tgt := 17) cx dX9_inBucket_12 (by decide) (fun _ => ?_) (fun _ => ?_)
    · refine f_aload_n (pc := 17) cx dX9_inBucket_17 rfl rfl ?_
      refine g_X9_19 (pc := 18) cx hk_o0 dX9_inBucket_18 ?_
      refine g_X9_72 (pc := 21) cx (kf_8_1 hk_o0) dX9_inBucket_21 ?_
      refine f_aload_n (pc := 24) cx dX9_inBucket_24 rfl rfl ?_
      refine g_X9_19 (pc := 25) cx hk_o0 dX9_inBucket_25 ?_
      refine g_X9_158 (pc := 28) cx (kf_8_1 hk_o0) dX9_inBucket_28 ?_
      refine f_iload_n (pc := 31) cx dX9_inBucket_31 rfl rfl ?_
      refine f_need (fun c2 => ?_)
      refine f_aldB (pc := 32) cx (kf_7_2 (kf_8_1 hk_o0)) c2 dX9_inBucket_32 ?_
      refine g_X9_165 (pc := 33) cx (ka_b (kf_7_2 (kf_8_1 hk_o0)) c2) dX9_inBucket_33 ?_
      refine f_iload_n (pc := 36) cx dX9_inBucket_36 rfl rfl ?_
      refine f_bind (fun r3 hr3 => ?_)
      refine k_X9_168 (pc := 37) cx (c_X1_along l G _ (o0 + 10 + 2) (r1.2 (o0 + 10 + 16 + 1 + Int32.toNatClampNeg x1) 1) x2 (kf_7_1 (kf_8_1 hk_o0)) r3 hr3) (kf_7_1 (kf_8_1 hk_o0)) ⟨by decide, by decide⟩ ⟨Nat.zero_le _, Nat.zero_le _⟩ (Nat.le_of_ble_eq_true rfl) dX9_inBucket_37 ?_
      exact f_iret cx hr hlk rfl dX9_inBucket_40
    · refine f_iconst (pc := 15) cx dX9_inBucket_15 kc_iconst_m1 ?_
      exact f_iret cx hr hlk rfl dX9_inBucket_16
set_option maxRecDepth 4000 in
theorem c_X9_inBucket (l : Launch) (G : GT) (h : Hp) (o0 : Nat) (x1 : Int32) (x2 : Int32) (hk_o0 : kd o0 = 8) : CtI l G yX9_inBucket cX9_inBucket 3 (some .int) 2 45 [.ref (gad G o0), .int x1, .int x2] h (p_X9_inBucket h o0 x1 x2) := fun a ha => Ct.of (lv := [some (.ref (gad G o0)), some (.int x1), some (.int x2)]) (by decide) rfl (Nat.le_of_ble_eq_true rfl) rfl (fun p e s m args below meth c cx hr hlk => s_X9_inBucket cx hr hlk h o0 x1 x2 hk_o0 a ha)
def p_X9_order (h : Hp) (o0 : Nat) (x1 : Int32) : Option (Int32 × Hp) :=
  if 0 ≤ x1 then (Option.bind (p_X2_at h (o0 + 10 + 33) x1) fun r1 => some (r1.1, r1.2)) else (some ((-1), h))
set_option maxRecDepth 4000 in
theorem s_X9_order {p : Program} {l : Launch} {e : Env} {s : State} {m : MethodId} {args : Array Value} {below : List Frame} {meth : Method} {c : Code} {G : GT} (cx : CX p s m args c cX9_order 2 RX9 G) (hr : meth.sig.returnType = (some .int)) (hlk : meth.locks = false) (h : Hp) (o0 : Nat) (x1 : Int32) (hk_o0 : kd o0 = 8) : PF p l e (rmc 1 21) s m args below meth c 2 G 0 0 (QI below G args s) 0 [some (.ref (gad G o0)), some (.int x1)] [] h (p_X9_order h o0 x1) := by
  unfold p_X9_order
  refine f_iload_n (pc := 0) cx dX9_order_0 rfl rfl ?_
  refine f_if_ge (pc := 1) (tgt := 8) cx dX9_order_1 (by decide) (fun _ => ?_) (fun _ => ?_)
  · refine f_aload_n (pc := 8) cx dX9_order_8 rfl rfl ?_
    refine g_X9_19 (pc := 9) cx hk_o0 dX9_order_9 ?_
    refine g_X9_171 (pc := 12) cx (kf_8_1 hk_o0) dX9_order_12 ?_
    refine f_iload_n (pc := 15) cx dX9_order_15 rfl rfl ?_
    refine f_bind (fun r1 hr1 => ?_)
    refine k_X9_175 (pc := 16) cx (c_X2_at l G _ (o0 + 10 + 33) x1 (kf_7_3 (kf_8_1 hk_o0)) r1 hr1) (kf_7_3 (kf_8_1 hk_o0)) ⟨by decide, by decide⟩ ⟨Nat.zero_le _, Nat.zero_le _⟩ (Nat.le_of_ble_eq_true rfl) dX9_order_16 ?_
    exact f_iret cx hr hlk rfl dX9_order_19
  · refine f_iconst (pc := 4) cx dX9_order_4 kc_iconst_m1 ?_
    refine f_goto (pc := 5) (tgt := 19) cx dX9_order_5 (by decide) ?_
    exact f_iret cx hr hlk rfl dX9_order_19
set_option maxRecDepth 4000 in
theorem c_X9_order (l : Launch) (G : GT) (h : Hp) (o0 : Nat) (x1 : Int32) (hk_o0 : kd o0 = 8) : CtI l G yX9_order cX9_order 2 (some .int) 1 21 [.ref (gad G o0), .int x1] h (p_X9_order h o0 x1) := fun a ha => Ct.of (lv := [some (.ref (gad G o0)), some (.int x1)]) (by decide) rfl (Nat.le_of_ble_eq_true rfl) rfl (fun p e s m args below meth c cx hr hlk => s_X9_order cx hr hlk h o0 x1 hk_o0 a ha)
def p_X9_frame (h : Hp) (o0 : Nat) (x1 : Int32) (x2 : Int32) : Option (Int32 × Hp) :=
  Option.bind (p_X1_tell h (o0 + 10 + 2) x1 x2) fun r1 => some (r1.1, r1.2)
set_option maxRecDepth 4000 in
theorem s_X9_frame {p : Program} {l : Launch} {e : Env} {s : State} {m : MethodId} {args : Array Value} {below : List Frame} {meth : Method} {c : Code} {G : GT} (cx : CX p s m args c cX9_frame 3 RX9 G) (hr : meth.sig.returnType = (some .int)) (hlk : meth.locks = false) (h : Hp) (o0 : Nat) (x1 : Int32) (x2 : Int32) (hk_o0 : kd o0 = 8) : PF p l e (rmc 2 43) s m args below meth c 3 G 0 0 (QI below G args s) 0 [some (.ref (gad G o0)), some (.int x1), some (.int x2)] [] h (p_X9_frame h o0 x1 x2) := by
  unfold p_X9_frame
  refine f_aload_n (pc := 0) cx dX9_frame_0 rfl rfl ?_
  refine g_X9_19 (pc := 1) cx hk_o0 dX9_frame_1 ?_
  refine g_X9_72 (pc := 4) cx (kf_8_1 hk_o0) dX9_frame_4 ?_
  refine f_iload_n (pc := 7) cx dX9_frame_7 rfl rfl ?_
  refine f_iload_n (pc := 8) cx dX9_frame_8 rfl rfl ?_
  refine f_bind (fun r1 hr1 => ?_)
  refine k_X9_180 (pc := 9) cx (c_X1_tell l G _ (o0 + 10 + 2) x1 x2 (kf_7_1 (kf_8_1 hk_o0)) r1 hr1) (kf_7_1 (kf_8_1 hk_o0)) ⟨by decide, by decide⟩ ⟨Nat.zero_le _, Nat.zero_le _⟩ (Nat.le_of_ble_eq_true rfl) dX9_frame_9 ?_
  exact f_iret cx hr hlk rfl dX9_frame_12
set_option maxRecDepth 4000 in
theorem c_X9_frame (l : Launch) (G : GT) (h : Hp) (o0 : Nat) (x1 : Int32) (x2 : Int32) (hk_o0 : kd o0 = 8) : CtI l G yX9_frame cX9_frame 3 (some .int) 2 43 [.ref (gad G o0), .int x1, .int x2] h (p_X9_frame h o0 x1 x2) := fun a ha => Ct.of (lv := [some (.ref (gad G o0)), some (.int x1), some (.int x2)]) (by decide) rfl (Nat.le_of_ble_eq_true rfl) rfl (fun p e s m args below meth c cx hr hlk => s_X9_frame cx hr hlk h o0 x1 x2 hk_o0 a ha)
def p_X9_past (h : Hp) (o0 : Nat) (x1 : Int32) (x2 : Int32) : Option (Int32 × Hp) :=
  if x1 < 0 then (some ((-1), h)) else (if 4 ≤ x1 then (some ((-1), h)) else (if 0 ≤ x2 then (if ib x1 4 then (Option.bind (p_X1_endedAs h (o0 + 10 + 2) (tbv 5 (Int32.toNatClampNeg x1)) x2) fun r2 => some (r2.1, r2.2)) else none) else (some ((-1), h))))
set_option maxRecDepth 4000 in
theorem s_X9_past {p : Program} {l : Launch} {e : Env} {s : State} {m : MethodId} {args : Array Value} {below : List Frame} {meth : Method} {c : Code} {G : GT} (cx : CX p s m args c cX9_past 3 RX9 G) (hr : meth.sig.returnType = (some .int)) (hlk : meth.locks = false) (h : Hp) (o0 : Nat) (x1 : Int32) (x2 : Int32) (hk_o0 : kd o0 = 8) : PF p l e (rmc 2 46) s m args below meth c 3 G 0 0 (QI below G args s) 0 [some (.ref (gad G o0)), some (.int x1), some (.int x2)] [] h (p_X9_past h o0 x1 x2) := by
  unfold p_X9_past
  refine f_iload_n (pc := 0) cx dX9_past_0 rfl rfl ?_
  refine f_if_lt (pc := 1) (tgt := 16) cx dX9_past_1 (by decide) (fun _ => ?_) (fun _ => ?_)
  · refine f_iconst (pc := 16) cx dX9_past_16 kc_iconst_m1 ?_
    exact f_iret cx hr hlk rfl dX9_past_17
  · refine f_iload_n (pc := 4) cx dX9_past_4 rfl rfl ?_
    refine g_X9_182 (pc := 5) cx dX9_past_5 ?_
    refine f_tlen (pc := 8) (j := 5) cx (by decide) kt_5 dX9_past_8 ?_
    refine f_icmp_ge (pc := 9) (tgt := 16) cx dX9_past_9 (by decide) (fun _ => ?_) (fun _ => ?_)
    · refine f_iconst (pc := 16) cx dX9_past_16 kc_iconst_m1 ?_
      exact f_iret cx hr hlk rfl dX9_past_17
    · refine f_iload_n (pc := 12) cx dX9_past_12 rfl rfl ?_
      refine f_if_ge (pc := 13) (tgt := 18) cx dX9_past_13 (by decide) (fun _ => ?_) (fun _ => ?_)
      · refine f_aload_n (pc := 18) cx dX9_past_18 rfl rfl ?_
        refine g_X9_19 (pc := 19) cx hk_o0 dX9_past_19 ?_
        refine g_X9_72 (pc := 22) cx (kf_8_1 hk_o0) dX9_past_22 ?_
        refine g_X9_182 (pc := 25) cx dX9_past_25 ?_
        refine f_iload_n (pc := 28) cx dX9_past_28 rfl rfl ?_
        refine f_need (fun c1 => ?_)
        refine f_tald (pc := 29) (j := 5) cx (by decide) c1 dX9_past_29 ?_
        refine f_iload_n (pc := 30) cx dX9_past_30 rfl rfl ?_
        refine f_bind (fun r2 hr2 => ?_)
        refine k_X9_185 (pc := 31) cx (c_X1_endedAs l G _ (o0 + 10 + 2) (tbv 5 (Int32.toNatClampNeg x1)) x2 (kf_7_1 (kf_8_1 hk_o0)) r2 hr2) (kf_7_1 (kf_8_1 hk_o0)) ⟨by decide, by decide⟩ ⟨Nat.zero_le _, Nat.zero_le _⟩ (Nat.le_of_ble_eq_true rfl) dX9_past_31 ?_
        exact f_iret cx hr hlk rfl dX9_past_34
      · refine f_iconst (pc := 16) cx dX9_past_16 kc_iconst_m1 ?_
        exact f_iret cx hr hlk rfl dX9_past_17
set_option maxRecDepth 4000 in
theorem c_X9_past (l : Launch) (G : GT) (h : Hp) (o0 : Nat) (x1 : Int32) (x2 : Int32) (hk_o0 : kd o0 = 8) : CtI l G yX9_past cX9_past 3 (some .int) 2 46 [.ref (gad G o0), .int x1, .int x2] h (p_X9_past h o0 x1 x2) := fun a ha => Ct.of (lv := [some (.ref (gad G o0)), some (.int x1), some (.int x2)]) (by decide) rfl (Nat.le_of_ble_eq_true rfl) rfl (fun p e s m args below meth c cx hr hlk => s_X9_past cx hr hlk h o0 x1 x2 hk_o0 a ha)
def p_X9_eldest (h : Hp) (o0 : Nat) (x1 : Int32) (x2 : Int32) : Option (Int32 × Hp) :=
  Option.bind (p_X8_hasBucket h (o0 + 10) x1) fun r1 => if r1.1 = 0 then (some ((-1), r1.2)) else (if x2 < 0 then (some ((-1), r1.2)) else (if x2 ≤ 1 then (if ib x1 16 then (nv (r1.2 (o0 + 10 + 16 + 1 + Int32.toNatClampNeg x1) 1) fun v3 => Option.bind (p_X1_has r1.2 (o0 + 10 + 2) v3) fun r4 => if r4.1 = 0 then (some ((-2), r4.2)) else (if x2 = 0 then (if ib v3 200 then (some ((r4.2 (o0 + 10) 7) - (r4.2 (o0 + 10 + 2 + 4) (Int32.toNatClampNeg v3)), r4.2)) else none) else (some (v3, r4.2)))) else none) else (some ((-1), r1.2))))
set_option maxRecDepth 4000 in
theorem s_X9_eldest {p : Program} {l : Launch} {e : Env} {s : State} {m : MethodId} {args : Array Value} {below : List Frame} {meth : Method} {c : Code} {G : GT} (cx : CX p s m args c cX9_eldest 4 RX9 G) (hr : meth.sig.returnType = (some .int)) (hlk : meth.locks = false) (h : Hp) (o0 : Nat) (x1 : Int32) (x2 : Int32) (hk_o0 : kd o0 = 8) : PF p l e (rmc 2 41) s m args below meth c 4 G 0 0 (QI below G args s) 0 [some (.ref (gad G o0)), some (.int x1), some (.int x2), none] [] h (p_X9_eldest h o0 x1 x2) := by
  unfold p_X9_eldest
  refine f_aload_n (pc := 0) cx dX9_eldest_0 rfl rfl ?_
  refine g_X9_19 (pc := 1) cx hk_o0 dX9_eldest_1 ?_
  refine f_iload_n (pc := 4) cx dX9_eldest_4 rfl rfl ?_
  refine f_bind (fun r1 hr1 => ?_)
  refine k_X9_143 (pc := 5) cx (c_X8_hasBucket l G _ (o0 + 10) x1 (kf_8_1 hk_o0) r1 hr1) (kf_8_1 hk_o0) ⟨by decide, by decide⟩ ⟨Nat.zero_le _, Nat.zero_le _⟩ (Nat.le_of_ble_eq_true rfl) dX9_eldest_5 ?_
  refine f_if_eq (pc := 8) (tgt := 20) cx dX9_eldest_8 (by decide) (fun _ => ?_) (fun _ => ?_)
  · refine f_iconst (pc := 20) cx dX9_eldest_20 kc_iconst_m1 ?_
    exact f_iret cx hr hlk rfl dX9_eldest_21
  · refine f_iload_n (pc := 11) cx dX9_eldest_11 rfl rfl ?_
    refine f_if_lt (pc := 12) (tgt := 20) cx dX9_eldest_12 (by decide) (fun _ => ?_) (fun _ => ?_)
    · refine f_iconst (pc := 20) cx dX9_eldest_20 kc_iconst_m1 ?_
      exact f_iret cx hr hlk rfl dX9_eldest_21
    · refine f_iload_n (pc := 15) cx dX9_eldest_15 rfl rfl ?_
      refine f_iconst (pc := 16) cx dX9_eldest_16 kc_iconst_1 ?_
      refine f_icmp_le (pc := 17) (tgt := 22) cx dX9_eldest_17 (by decide) (fun _ => ?_) (fun _ => ?_)
      · refine f_aload_n (pc := 22) cx dX9_eldest_22 rfl rfl ?_
        refine g_X9_19 (pc := 23) cx hk_o0 dX9_eldest_23 ?_
        refine g_X9_158 (pc := 26) cx (kf_8_1 hk_o0) dX9_eldest_26 ?_
        refine f_iload_n (pc := 29) cx dX9_eldest_29 rfl rfl ?_
        refine f_need (fun c2 => ?_)
        refine f_aldB (pc := 30) cx (kf_7_2 (kf_8_1 hk_o0)) c2 dX9_eldest_30 ?_
        refine g_X9_165 (pc := 31) cx (ka_b (kf_7_2 (kf_8_1 hk_o0)) c2) dX9_eldest_31 ?_
        refine f_nvi (fun v3 => ?_)
        refine f_istore3 (pc := 34) cx dX9_eldest_34 (by decide) rfl ?_
        refine f_aload_n (pc := 35) cx dX9_eldest_35 rfl rfl ?_
        refine g_X9_19 (pc := 36) cx hk_o0 dX9_eldest_36 ?_
        refine g_X9_72 (pc := 39) cx (kf_8_1 hk_o0) dX9_eldest_39 ?_
        refine f_iload_n (pc := 42) cx dX9_eldest_42 rfl rfl ?_
        refine f_bind (fun r4 hr4 => ?_)
        refine k_X9_98 (pc := 43) cx (c_X1_has l G _ (o0 + 10 + 2) v3 (kf_7_1 (kf_8_1 hk_o0)) r4 hr4) (kf_7_1 (kf_8_1 hk_o0)) ⟨by decide, by decide⟩ ⟨Nat.zero_le _, Nat.zero_le _⟩ (Nat.le_of_ble_eq_true rfl) dX9_eldest_43 ?_
        refine f_if_ne (pc := 46) (tgt := 52) cx dX9_eldest_46 (by decide) (fun _ => ?_) (fun _ => ?_)
        · refine f_bipush (pc := 49) cx dX9_eldest_49 kc_bipush_m2 ?_
          exact f_iret cx hr hlk rfl dX9_eldest_51
        · refine f_iload_n (pc := 52) cx dX9_eldest_52 rfl rfl ?_
          refine f_if_ne (pc := 53) (tgt := 79) cx dX9_eldest_53 (by decide) (fun _ => ?_) (fun _ => ?_)
          · refine f_aload_n (pc := 56) cx dX9_eldest_56 rfl rfl ?_
            refine g_X9_19 (pc := 57) cx hk_o0 dX9_eldest_57 ?_
            refine g_X9_64 (pc := 60) cx (kf_8_1 hk_o0) dX9_eldest_60 ?_
            refine f_aload_n (pc := 63) cx dX9_eldest_63 rfl rfl ?_
            refine g_X9_19 (pc := 64) cx hk_o0 dX9_eldest_64 ?_
            refine g_X9_72 (pc := 67) cx (kf_8_1 hk_o0) dX9_eldest_67 ?_
            refine g_X9_188 (pc := 70) cx (kf_7_1 (kf_8_1 hk_o0)) dX9_eldest_70 ?_
            refine f_iload_n (pc := 73) cx dX9_eldest_73 rfl rfl ?_
            refine f_need (fun c5 => ?_)
            refine f_iald (pc := 74) (n := 200) cx (kf_1_3 (kf_7_1 (kf_8_1 hk_o0))) (by decide) c5 dX9_eldest_74 ?_
            refine f_isub (pc := 75) cx dX9_eldest_75 ?_
            refine f_goto (pc := 76) (tgt := 80) cx dX9_eldest_76 (by decide) ?_
            exact f_iret cx hr hlk rfl dX9_eldest_80
          · refine f_iload_n (pc := 79) cx dX9_eldest_79 rfl rfl ?_
            exact f_iret cx hr hlk rfl dX9_eldest_80
      · refine f_iconst (pc := 20) cx dX9_eldest_20 kc_iconst_m1 ?_
        exact f_iret cx hr hlk rfl dX9_eldest_21
set_option maxRecDepth 4000 in
theorem c_X9_eldest (l : Launch) (G : GT) (h : Hp) (o0 : Nat) (x1 : Int32) (x2 : Int32) (hk_o0 : kd o0 = 8) : CtI l G yX9_eldest cX9_eldest 4 (some .int) 2 41 [.ref (gad G o0), .int x1, .int x2] h (p_X9_eldest h o0 x1 x2) := fun a ha => Ct.of (lv := [some (.ref (gad G o0)), some (.int x1), some (.int x2), none]) (by decide) rfl (Nat.le_of_ble_eq_true rfl) rfl (fun p e s m args below meth c cx hr hlk => s_X9_eldest cx hr hlk h o0 x1 x2 hk_o0 a ha)
def p_X9_least (h : Hp) (o0 : Nat) (x1 : Int32) : Option (Int32 × Hp) :=
  Option.bind (p_X8_leastTaken h (o0 + 10) x1) fun r1 => some (r1.1, r1.2)
set_option maxRecDepth 4000 in
theorem s_X9_least {p : Program} {l : Launch} {e : Env} {s : State} {m : MethodId} {args : Array Value} {below : List Frame} {meth : Method} {c : Code} {G : GT} (cx : CX p s m args c cX9_least 2 RX9 G) (hr : meth.sig.returnType = (some .int)) (hlk : meth.locks = false) (h : Hp) (o0 : Nat) (x1 : Int32) (hk_o0 : kd o0 = 8) : PF p l e (rmc 3 65) s m args below meth c 2 G 0 0 (QI below G args s) 0 [some (.ref (gad G o0)), some (.int x1)] [] h (p_X9_least h o0 x1) := by
  unfold p_X9_least
  refine f_aload_n (pc := 0) cx dX9_least_0 rfl rfl ?_
  refine g_X9_19 (pc := 1) cx hk_o0 dX9_least_1 ?_
  refine f_iload_n (pc := 4) cx dX9_least_4 rfl rfl ?_
  refine f_bind (fun r1 hr1 => ?_)
  refine k_X9_191 (pc := 5) cx (c_X8_leastTaken l G _ (o0 + 10) x1 (kf_8_1 hk_o0) r1 hr1) (kf_8_1 hk_o0) ⟨by decide, by decide⟩ ⟨Nat.zero_le _, Nat.zero_le _⟩ (Nat.le_of_ble_eq_true rfl) dX9_least_5 ?_
  exact f_iret cx hr hlk rfl dX9_least_8
set_option maxRecDepth 4000 in
theorem c_X9_least (l : Launch) (G : GT) (h : Hp) (o0 : Nat) (x1 : Int32) (hk_o0 : kd o0 = 8) : CtI l G yX9_least cX9_least 2 (some .int) 3 65 [.ref (gad G o0), .int x1] h (p_X9_least h o0 x1) := fun a ha => Ct.of (lv := [some (.ref (gad G o0)), some (.int x1)]) (by decide) rfl (Nat.le_of_ble_eq_true rfl) rfl (fun p e s m args below meth c cx hr hlk => s_X9_least cx hr hlk h o0 x1 hk_o0 a ha)
def p_X9_rootBy (h : Hp) (o0 : Nat) (x1 : Int32) : Option (Int32 × Hp) :=
  if x1 < 1 then (some ((-1), h)) else (if x1 ≤ 999 then (Option.bind (p_X4_stepped h x1) fun r1 => some (r1.1, r1.2)) else (some ((-1), h)))
set_option maxRecDepth 4000 in
theorem s_X9_rootBy {p : Program} {l : Launch} {e : Env} {s : State} {m : MethodId} {args : Array Value} {below : List Frame} {meth : Method} {c : Code} {G : GT} (cx : CX p s m args c cX9_rootBy 2 RX9 G) (hr : meth.sig.returnType = (some .int)) (hlk : meth.locks = false) (h : Hp) (o0 : Nat) (x1 : Int32) (hk_o0 : kd o0 = 8) : PF p l e (rmc 2 47) s m args below meth c 2 G 0 0 (QI below G args s) 0 [some (.ref (gad G o0)), some (.int x1)] [] h (p_X9_rootBy h o0 x1) := by
  unfold p_X9_rootBy
  refine f_iload_n (pc := 0) cx dX9_rootBy_0 rfl rfl ?_
  refine f_iconst (pc := 1) cx dX9_rootBy_1 kc_iconst_1 ?_
  refine f_icmp_lt (pc := 2) (tgt := 12) cx dX9_rootBy_2 (by decide) (fun _ => ?_) (fun _ => ?_)
  · refine f_iconst (pc := 12) cx dX9_rootBy_12 kc_iconst_m1 ?_
    refine f_goto (pc := 13) (tgt := 20) cx dX9_rootBy_13 (by decide) ?_
    exact f_iret cx hr hlk rfl dX9_rootBy_20
  · refine f_iload_n (pc := 5) cx dX9_rootBy_5 rfl rfl ?_
    refine f_sipush (pc := 6) cx dX9_rootBy_6 kc_sipush_999 ?_
    refine f_icmp_le (pc := 9) (tgt := 16) cx dX9_rootBy_9 (by decide) (fun _ => ?_) (fun _ => ?_)
    · refine f_iload_n (pc := 16) cx dX9_rootBy_16 rfl rfl ?_
      refine f_bind (fun r1 hr1 => ?_)
      refine k_X9_196 (pc := 17) cx (c_X4_stepped l G _ x1 r1 hr1) ⟨by decide, by decide⟩ ⟨Nat.zero_le _, Nat.zero_le _⟩ (Nat.le_of_ble_eq_true rfl) dX9_rootBy_17 ?_
      exact f_iret cx hr hlk rfl dX9_rootBy_20
    · refine f_iconst (pc := 12) cx dX9_rootBy_12 kc_iconst_m1 ?_
      refine f_goto (pc := 13) (tgt := 20) cx dX9_rootBy_13 (by decide) ?_
      exact f_iret cx hr hlk rfl dX9_rootBy_20
set_option maxRecDepth 4000 in
theorem c_X9_rootBy (l : Launch) (G : GT) (h : Hp) (o0 : Nat) (x1 : Int32) (hk_o0 : kd o0 = 8) : CtI l G yX9_rootBy cX9_rootBy 2 (some .int) 2 47 [.ref (gad G o0), .int x1] h (p_X9_rootBy h o0 x1) := fun a ha => Ct.of (lv := [some (.ref (gad G o0)), some (.int x1)]) (by decide) rfl (Nat.le_of_ble_eq_true rfl) rfl (fun p e s m args below meth c cx hr hlk => s_X9_rootBy cx hr hlk h o0 x1 hk_o0 a ha)
def p_X9_exact (h : Hp) (o0 : Nat) (x1 : Int32) : Option (Int32 × Hp) :=
  if x1 < 1 then (some ((-1), h)) else (if x1 ≤ 999 then (Option.bind (p_X4_trueRoot h x1) fun r1 => some (r1.1, r1.2)) else (some ((-1), h)))
set_option maxRecDepth 4000 in
theorem s_X9_exact {p : Program} {l : Launch} {e : Env} {s : State} {m : MethodId} {args : Array Value} {below : List Frame} {meth : Method} {c : Code} {G : GT} (cx : CX p s m args c cX9_exact 2 RX9 G) (hr : meth.sig.returnType = (some .int)) (hlk : meth.locks = false) (h : Hp) (o0 : Nat) (x1 : Int32) (hk_o0 : kd o0 = 8) : PF p l e (rmc 1 24) s m args below meth c 2 G 0 0 (QI below G args s) 0 [some (.ref (gad G o0)), some (.int x1)] [] h (p_X9_exact h o0 x1) := by
  unfold p_X9_exact
  refine f_iload_n (pc := 0) cx dX9_exact_0 rfl rfl ?_
  refine f_iconst (pc := 1) cx dX9_exact_1 kc_iconst_1 ?_
  refine f_icmp_lt (pc := 2) (tgt := 12) cx dX9_exact_2 (by decide) (fun _ => ?_) (fun _ => ?_)
  · refine f_iconst (pc := 12) cx dX9_exact_12 kc_iconst_m1 ?_
    refine f_goto (pc := 13) (tgt := 20) cx dX9_exact_13 (by decide) ?_
    exact f_iret cx hr hlk rfl dX9_exact_20
  · refine f_iload_n (pc := 5) cx dX9_exact_5 rfl rfl ?_
    refine f_sipush (pc := 6) cx dX9_exact_6 kc_sipush_999 ?_
    refine f_icmp_le (pc := 9) (tgt := 16) cx dX9_exact_9 (by decide) (fun _ => ?_) (fun _ => ?_)
    · refine f_iload_n (pc := 16) cx dX9_exact_16 rfl rfl ?_
      refine f_bind (fun r1 hr1 => ?_)
      refine k_X9_199 (pc := 17) cx (c_X4_trueRoot l G _ x1 r1 hr1) ⟨by decide, by decide⟩ ⟨Nat.zero_le _, Nat.zero_le _⟩ (Nat.le_of_ble_eq_true rfl) dX9_exact_17 ?_
      exact f_iret cx hr hlk rfl dX9_exact_20
    · refine f_iconst (pc := 12) cx dX9_exact_12 kc_iconst_m1 ?_
      refine f_goto (pc := 13) (tgt := 20) cx dX9_exact_13 (by decide) ?_
      exact f_iret cx hr hlk rfl dX9_exact_20
set_option maxRecDepth 4000 in
theorem c_X9_exact (l : Launch) (G : GT) (h : Hp) (o0 : Nat) (x1 : Int32) (hk_o0 : kd o0 = 8) : CtI l G yX9_exact cX9_exact 2 (some .int) 1 24 [.ref (gad G o0), .int x1] h (p_X9_exact h o0 x1) := fun a ha => Ct.of (lv := [some (.ref (gad G o0)), some (.int x1)]) (by decide) rfl (Nat.le_of_ble_eq_true rfl) rfl (fun p e s m args below meth c cx hr hlk => s_X9_exact cx hr hlk h o0 x1 hk_o0 a ha)
def p_X9_farthest (h : Hp) (o0 : Nat) (x1 : Int32) (x2 : Int32) : Option (Int32 × Hp) :=
  if x1 < 1 then (some ((-1), h)) else (if 999 < x1 then (some ((-1), h)) else (if x2 < 0 then (some ((-1), h)) else (if x2 ≤ 1 then (Option.bind (p_X4_worst h x1 x2) fun r1 => some (r1.1, r1.2)) else (some ((-1), h)))))
set_option maxRecDepth 4000 in
theorem s_X9_farthest {p : Program} {l : Launch} {e : Env} {s : State} {m : MethodId} {args : Array Value} {below : List Frame} {meth : Method} {c : Code} {G : GT} (cx : CX p s m args c cX9_farthest 3 RX9 G) (hr : meth.sig.returnType = (some .int)) (hlk : meth.locks = false) (h : Hp) (o0 : Nat) (x1 : Int32) (x2 : Int32) (hk_o0 : kd o0 = 8) : PF p l e (rmc 2 53) s m args below meth c 3 G 0 0 (QI below G args s) 0 [some (.ref (gad G o0)), some (.int x1), some (.int x2)] [] h (p_X9_farthest h o0 x1 x2) := by
  unfold p_X9_farthest
  refine f_iload_n (pc := 0) cx dX9_farthest_0 rfl rfl ?_
  refine f_iconst (pc := 1) cx dX9_farthest_1 kc_iconst_1 ?_
  refine f_icmp_lt (pc := 2) (tgt := 21) cx dX9_farthest_2 (by decide) (fun _ => ?_) (fun _ => ?_)
  · refine f_iconst (pc := 21) cx dX9_farthest_21 kc_iconst_m1 ?_
    exact f_iret cx hr hlk rfl dX9_farthest_22
  · refine f_iload_n (pc := 5) cx dX9_farthest_5 rfl rfl ?_
    refine f_sipush (pc := 6) cx dX9_farthest_6 kc_sipush_999 ?_
    refine f_icmp_gt (pc := 9) (tgt := 21) cx dX9_farthest_9 (by decide) (fun _ => ?_) (fun _ => ?_)
    · refine f_iconst (pc := 21) cx dX9_farthest_21 kc_iconst_m1 ?_
      exact f_iret cx hr hlk rfl dX9_farthest_22
    · refine f_iload_n (pc := 12) cx dX9_farthest_12 rfl rfl ?_
      refine f_if_lt (pc := 13) (tgt := 21) cx dX9_farthest_13 (by decide) (fun _ => ?_) (fun _ => ?_)
      · refine f_iconst (pc := 21) cx dX9_farthest_21 kc_iconst_m1 ?_
        exact f_iret cx hr hlk rfl dX9_farthest_22
      · refine f_iload_n (pc := 16) cx dX9_farthest_16 rfl rfl ?_
        refine f_iconst (pc := 17) cx dX9_farthest_17 kc_iconst_1 ?_
        refine f_icmp_le (pc := 18) (tgt := 23) cx dX9_farthest_18 (by decide) (fun _ => ?_) (fun _ => ?_)
        · refine f_iload_n (pc := 23) cx dX9_farthest_23 rfl rfl ?_
          refine f_iload_n (pc := 24) cx dX9_farthest_24 rfl rfl ?_
          refine f_bind (fun r1 hr1 => ?_)
          refine k_X9_202 (pc := 25) cx (c_X4_worst l G _ x1 x2 r1 hr1) ⟨by decide, by decide⟩ ⟨Nat.zero_le _, Nat.zero_le _⟩ (Nat.le_of_ble_eq_true rfl) dX9_farthest_25 ?_
          exact f_iret cx hr hlk rfl dX9_farthest_28
        · refine f_iconst (pc := 21) cx dX9_farthest_21 kc_iconst_m1 ?_
          exact f_iret cx hr hlk rfl dX9_farthest_22
set_option maxRecDepth 4000 in
theorem c_X9_farthest (l : Launch) (G : GT) (h : Hp) (o0 : Nat) (x1 : Int32) (x2 : Int32) (hk_o0 : kd o0 = 8) : CtI l G yX9_farthest cX9_farthest 3 (some .int) 2 53 [.ref (gad G o0), .int x1, .int x2] h (p_X9_farthest h o0 x1 x2) := fun a ha => Ct.of (lv := [some (.ref (gad G o0)), some (.int x1), some (.int x2)]) (by decide) rfl (Nat.le_of_ble_eq_true rfl) rfl (fun p e s m args below meth c cx hr hlk => s_X9_farthest cx hr hlk h o0 x1 x2 hk_o0 a ha)
def p_X9_flow (h : Hp) (o0 : Nat) (x1 : Int32) (x2 : Int32) : Option (Int32 × Hp) :=
  Option.bind (p_X9_fits h 13 x1) fun r1 => if r1.1 = 0 then (some ((-1), r1.2)) else (if x2 < 0 then (some ((-1), r1.2)) else (if x2 ≤ 3 then (if x2 = 0 then (Option.bind (p_X1_bytesSentOf r1.2 (o0 + 10 + 2) x1) fun r2 => some (r2.1, r2.2)) else (if x2 = 1 then (Option.bind (p_X1_cameOf r1.2 (o0 + 10 + 2) x1) fun r3 => some (r3.1, r3.2)) else (if x2 = 2 then (Option.bind (p_X1_greatestWaitOf r1.2 (o0 + 10 + 2) x1) fun r4 => some (r4.1, r4.2)) else (Option.bind (p_X1_waitsOf r1.2 (o0 + 10 + 2) x1) fun r5 => some (r5.1, r5.2))))) else (some ((-1), r1.2))))
set_option maxRecDepth 4000 in
theorem s_X9_flow {p : Program} {l : Launch} {e : Env} {s : State} {m : MethodId} {args : Array Value} {below : List Frame} {meth : Method} {c : Code} {G : GT} (cx : CX p s m args c cX9_flow 4 RX9 G) (hr : meth.sig.returnType = (some .int)) (hlk : meth.locks = false) (h : Hp) (o0 : Nat) (x1 : Int32) (x2 : Int32) (hk_o0 : kd o0 = 8) : PF p l e (rmc 2 50) s m args below meth c 4 G 0 0 (QI below G args s) 0 [some (.ref (gad G o0)), some (.int x1), some (.int x2), none] [] h (p_X9_flow h o0 x1 x2) := by
  unfold p_X9_flow
  refine f_bipush (pc := 0) cx dX9_flow_0 kc_bipush_13 ?_
  refine f_iload_n (pc := 2) cx dX9_flow_2 rfl rfl ?_
  refine f_bind (fun r1 hr1 => ?_)
  refine k_X9_56 (pc := 3) cx (c_X9_fits l G _ 13 x1 r1 hr1) ⟨by decide, by decide⟩ ⟨Nat.zero_le _, Nat.zero_le _⟩ (Nat.le_of_ble_eq_true rfl) dX9_flow_3 ?_
  refine f_if_eq (pc := 6) (tgt := 18) cx dX9_flow_6 (by decide) (fun _ => ?_) (fun _ => ?_)
  · refine f_iconst (pc := 18) cx dX9_flow_18 kc_iconst_m1 ?_
    exact f_iret cx hr hlk rfl dX9_flow_19
  · refine f_iload_n (pc := 9) cx dX9_flow_9 rfl rfl ?_
    refine f_if_lt (pc := 10) (tgt := 18) cx dX9_flow_10 (by decide) (fun _ => ?_) (fun _ => ?_)
    · refine f_iconst (pc := 18) cx dX9_flow_18 kc_iconst_m1 ?_
      exact f_iret cx hr hlk rfl dX9_flow_19
    · refine f_iload_n (pc := 13) cx dX9_flow_13 rfl rfl ?_
      refine f_iconst (pc := 14) cx dX9_flow_14 kc_iconst_3 ?_
      refine f_icmp_le (pc := 15) (tgt := 20) cx dX9_flow_15 (by decide) (fun _ => ?_) (fun _ => ?_)
      · refine f_aload_n (pc := 20) cx dX9_flow_20 rfl rfl ?_
        refine g_X9_19 (pc := 21) cx hk_o0 dX9_flow_21 ?_
        refine g_X9_72 (pc := 24) cx (kf_8_1 hk_o0) dX9_flow_24 ?_
        refine f_astore3 (pc := 27) cx dX9_flow_27 (by decide) rfl ?_
        refine f_iload_n (pc := 28) cx dX9_flow_28 rfl rfl ?_
        refine f_if_ne (pc := 29) (tgt := 38) cx dX9_flow_29 (by decide) (fun _ => ?_) (fun _ => ?_)
        · refine f_aload_n (pc := 32) cx dX9_flow_32 rfl rfl ?_
          refine f_iload_n (pc := 33) cx dX9_flow_33 rfl rfl ?_
          refine f_bind (fun r2 hr2 => ?_)
          refine k_X9_205 (pc := 34) cx (c_X1_bytesSentOf l G _ (o0 + 10 + 2) x1 (kf_7_1 (kf_8_1 hk_o0)) r2 hr2) (kf_7_1 (kf_8_1 hk_o0)) ⟨by decide, by decide⟩ ⟨Nat.zero_le _, Nat.zero_le _⟩ (Nat.le_of_ble_eq_true rfl) dX9_flow_34 ?_
          exact f_iret cx hr hlk rfl dX9_flow_37
        · refine f_iload_n (pc := 38) cx dX9_flow_38 rfl rfl ?_
          refine f_iconst (pc := 39) cx dX9_flow_39 kc_iconst_1 ?_
          refine f_icmp_ne (pc := 40) (tgt := 49) cx dX9_flow_40 (by decide) (fun _ => ?_) (fun _ => ?_)
          · refine f_aload_n (pc := 43) cx dX9_flow_43 rfl rfl ?_
            refine f_iload_n (pc := 44) cx dX9_flow_44 rfl rfl ?_
            refine f_bind (fun r3 hr3 => ?_)
            refine k_X9_208 (pc := 45) cx (c_X1_cameOf l G _ (o0 + 10 + 2) x1 (kf_7_1 (kf_8_1 hk_o0)) r3 hr3) (kf_7_1 (kf_8_1 hk_o0)) ⟨by decide, by decide⟩ ⟨Nat.zero_le _, Nat.zero_le _⟩ (Nat.le_of_ble_eq_true rfl) dX9_flow_45 ?_
            exact f_iret cx hr hlk rfl dX9_flow_48
          · refine f_iload_n (pc := 49) cx dX9_flow_49 rfl rfl ?_
            refine f_iconst (pc := 50) cx dX9_flow_50 kc_iconst_2 ?_
            refine f_icmp_ne (pc := 51) (tgt := 62) cx dX9_flow_51 (by decide) (fun _ => ?_) (fun _ => ?_)
            · refine f_aload_n (pc := 54) cx dX9_flow_54 rfl rfl ?_
              refine f_iload_n (pc := 55) cx dX9_flow_55 rfl rfl ?_
              refine f_bind (fun r4 hr4 => ?_)
              refine k_X9_211 (pc := 56) cx (c_X1_greatestWaitOf l G _ (o0 + 10 + 2) x1 (kf_7_1 (kf_8_1 hk_o0)) r4 hr4) (kf_7_1 (kf_8_1 hk_o0)) ⟨by decide, by decide⟩ ⟨Nat.zero_le _, Nat.zero_le _⟩ (Nat.le_of_ble_eq_true rfl) dX9_flow_56 ?_
              refine f_goto (pc := 59) (tgt := 67) cx dX9_flow_59 (by decide) ?_
              exact f_iret cx hr hlk rfl dX9_flow_67
            · refine f_aload_n (pc := 62) cx dX9_flow_62 rfl rfl ?_
              refine f_iload_n (pc := 63) cx dX9_flow_63 rfl rfl ?_
              refine f_bind (fun r5 hr5 => ?_)
              refine k_X9_214 (pc := 64) cx (c_X1_waitsOf l G _ (o0 + 10 + 2) x1 (kf_7_1 (kf_8_1 hk_o0)) r5 hr5) (kf_7_1 (kf_8_1 hk_o0)) ⟨by decide, by decide⟩ ⟨Nat.zero_le _, Nat.zero_le _⟩ (Nat.le_of_ble_eq_true rfl) dX9_flow_64 ?_
              exact f_iret cx hr hlk rfl dX9_flow_67
      · refine f_iconst (pc := 18) cx dX9_flow_18 kc_iconst_m1 ?_
        exact f_iret cx hr hlk rfl dX9_flow_19
set_option maxRecDepth 4000 in
theorem c_X9_flow (l : Launch) (G : GT) (h : Hp) (o0 : Nat) (x1 : Int32) (x2 : Int32) (hk_o0 : kd o0 = 8) : CtI l G yX9_flow cX9_flow 4 (some .int) 2 50 [.ref (gad G o0), .int x1, .int x2] h (p_X9_flow h o0 x1 x2) := fun a ha => Ct.of (lv := [some (.ref (gad G o0)), some (.int x1), some (.int x2), none]) (by decide) rfl (Nat.le_of_ble_eq_true rfl) rfl (fun p e s m args below meth c cx hr hlk => s_X9_flow cx hr hlk h o0 x1 x2 hk_o0 a ha)
def p_X9_uneven (h : Hp) (o0 : Nat) : Option (Int32 × Hp) :=
  Option.bind (p_X1_unevenness h (o0 + 10 + 2)) fun r1 => some (r1.1, r1.2)
set_option maxRecDepth 4000 in
theorem s_X9_uneven {p : Program} {l : Launch} {e : Env} {s : State} {m : MethodId} {args : Array Value} {below : List Frame} {meth : Method} {c : Code} {G : GT} (cx : CX p s m args c cX9_uneven 1 RX9 G) (hr : meth.sig.returnType = (some .int)) (hlk : meth.locks = false) (h : Hp) (o0 : Nat) (hk_o0 : kd o0 = 8) : PF p l e (rmc 2 51) s m args below meth c 1 G 0 0 (QI below G args s) 0 [some (.ref (gad G o0))] [] h (p_X9_uneven h o0) := by
  unfold p_X9_uneven
  refine f_aload_n (pc := 0) cx dX9_uneven_0 rfl rfl ?_
  refine g_X9_19 (pc := 1) cx hk_o0 dX9_uneven_1 ?_
  refine g_X9_72 (pc := 4) cx (kf_8_1 hk_o0) dX9_uneven_4 ?_
  refine f_bind (fun r1 hr1 => ?_)
  refine k_X9_217 (pc := 7) cx (c_X1_unevenness l G _ (o0 + 10 + 2) (kf_7_1 (kf_8_1 hk_o0)) r1 hr1) (kf_7_1 (kf_8_1 hk_o0)) ⟨by decide, by decide⟩ ⟨Nat.zero_le _, Nat.zero_le _⟩ (Nat.le_of_ble_eq_true rfl) dX9_uneven_7 ?_
  exact f_iret cx hr hlk rfl dX9_uneven_10
set_option maxRecDepth 4000 in
theorem c_X9_uneven (l : Launch) (G : GT) (h : Hp) (o0 : Nat) (hk_o0 : kd o0 = 8) : CtI l G yX9_uneven cX9_uneven 1 (some .int) 2 51 [.ref (gad G o0)] h (p_X9_uneven h o0) := fun a ha => Ct.of (lv := [some (.ref (gad G o0))]) (by decide) rfl (Nat.le_of_ble_eq_true rfl) rfl (fun p e s m args below meth c cx hr hlk => s_X9_uneven cx hr hlk h o0 hk_o0 a ha)
def p_X9_ahead (h : Hp) (o0 : Nat) (x1 : Int32) : Option (Int32 × Hp) :=
  if 0 ≤ x1 then (Option.bind (p_X6_sentInTurn h (o0 + 59) (o0 + 10) x1) fun r1 => some (r1.1, r1.2)) else (some ((-1), h))
set_option maxRecDepth 4000 in
theorem s_X9_ahead {p : Program} {l : Launch} {e : Env} {s : State} {m : MethodId} {args : Array Value} {below : List Frame} {meth : Method} {c : Code} {G : GT} (cx : CX p s m args c cX9_ahead 2 RX9 G) (hr : meth.sig.returnType = (some .int)) (hlk : meth.locks = false) (h : Hp) (o0 : Nat) (x1 : Int32) (hk_o0 : kd o0 = 8) : PF p l e (rmc 6 144) s m args below meth c 2 G 0 0 (QI below G args s) 0 [some (.ref (gad G o0)), some (.int x1)] [] h (p_X9_ahead h o0 x1) := by
  unfold p_X9_ahead
  refine f_iload_n (pc := 0) cx dX9_ahead_0 rfl rfl ?_
  refine f_if_ge (pc := 1) (tgt := 8) cx dX9_ahead_1 (by decide) (fun _ => ?_) (fun _ => ?_)
  · refine f_aload_n (pc := 8) cx dX9_ahead_8 rfl rfl ?_
    refine g_X9_26 (pc := 9) cx hk_o0 dX9_ahead_9 ?_
    refine f_aload_n (pc := 12) cx dX9_ahead_12 rfl rfl ?_
    refine g_X9_19 (pc := 13) cx hk_o0 dX9_ahead_13 ?_
    refine f_iload_n (pc := 16) cx dX9_ahead_16 rfl rfl ?_
    refine f_bind (fun r1 hr1 => ?_)
    refine k_X9_220 (pc := 17) cx (c_X6_sentInTurn l G _ (o0 + 59) (o0 + 10) x1 (kf_8_2 hk_o0) (kf_8_1 hk_o0) r1 hr1) (kf_8_2 hk_o0) ⟨by decide, by decide⟩ ⟨Nat.zero_le _, Nat.zero_le _⟩ (Nat.le_of_ble_eq_true rfl) dX9_ahead_17 ?_
    exact f_iret cx hr hlk rfl dX9_ahead_20
  · refine f_iconst (pc := 4) cx dX9_ahead_4 kc_iconst_m1 ?_
    refine f_goto (pc := 5) (tgt := 20) cx dX9_ahead_5 (by decide) ?_
    exact f_iret cx hr hlk rfl dX9_ahead_20
set_option maxRecDepth 4000 in
theorem c_X9_ahead (l : Launch) (G : GT) (h : Hp) (o0 : Nat) (x1 : Int32) (hk_o0 : kd o0 = 8) : CtI l G yX9_ahead cX9_ahead 2 (some .int) 6 144 [.ref (gad G o0), .int x1] h (p_X9_ahead h o0 x1) := fun a ha => Ct.of (lv := [some (.ref (gad G o0)), some (.int x1)]) (by decide) rfl (Nat.le_of_ble_eq_true rfl) rfl (fun p e s m args below meth c cx hr hlk => s_X9_ahead cx hr hlk h o0 x1 hk_o0 a ha)
def p_X9_drain (h : Hp) (o0 : Nat) (x1 : Int32) (x2 : Int32) : Option (Int32 × Hp) :=
  if x1 < 0 then (some ((-1), h)) else (if 999 < x1 then (some ((-1), h)) else (if x2 < 0 then (some ((-1), h)) else (if x2 ≤ 4 then (Option.bind (p_X6_afterDrain h (o0 + 59) (o0 + 10) x1 x2) fun r1 => some (r1.1, r1.2)) else (some ((-1), h)))))
set_option maxRecDepth 4000 in
theorem s_X9_drain {p : Program} {l : Launch} {e : Env} {s : State} {m : MethodId} {args : Array Value} {below : List Frame} {meth : Method} {c : Code} {G : GT} (cx : CX p s m args c cX9_drain 3 RX9 G) (hr : meth.sig.returnType = (some .int)) (hlk : meth.locks = false) (h : Hp) (o0 : Nat) (x1 : Int32) (x2 : Int32) (hk_o0 : kd o0 = 8) : PF p l e (rmc 7 165) s m args below meth c 3 G 0 0 (QI below G args s) 0 [some (.ref (gad G o0)), some (.int x1), some (.int x2)] [] h (p_X9_drain h o0 x1 x2) := by
  unfold p_X9_drain
  refine f_iload_n (pc := 0) cx dX9_drain_0 rfl rfl ?_
  refine f_if_lt (pc := 1) (tgt := 20) cx dX9_drain_1 (by decide) (fun _ => ?_) (fun _ => ?_)
  · refine f_iconst (pc := 20) cx dX9_drain_20 kc_iconst_m1 ?_
    exact f_iret cx hr hlk rfl dX9_drain_21
  · refine f_iload_n (pc := 4) cx dX9_drain_4 rfl rfl ?_
    refine f_sipush (pc := 5) cx dX9_drain_5 kc_sipush_999 ?_
    refine f_icmp_gt (pc := 8) (tgt := 20) cx dX9_drain_8 (by decide) (fun _ => ?_) (fun _ => ?_)
    · refine f_iconst (pc := 20) cx dX9_drain_20 kc_iconst_m1 ?_
      exact f_iret cx hr hlk rfl dX9_drain_21
    · refine f_iload_n (pc := 11) cx dX9_drain_11 rfl rfl ?_
      refine f_if_lt (pc := 12) (tgt := 20) cx dX9_drain_12 (by decide) (fun _ => ?_) (fun _ => ?_)
      · refine f_iconst (pc := 20) cx dX9_drain_20 kc_iconst_m1 ?_
        exact f_iret cx hr hlk rfl dX9_drain_21
      · refine f_iload_n (pc := 15) cx dX9_drain_15 rfl rfl ?_
        refine f_iconst (pc := 16) cx dX9_drain_16 kc_iconst_4 ?_
        refine f_icmp_le (pc := 17) (tgt := 22) cx dX9_drain_17 (by decide) (fun _ => ?_) (fun _ => ?_)
        · refine f_aload_n (pc := 22) cx dX9_drain_22 rfl rfl ?_
          refine g_X9_26 (pc := 23) cx hk_o0 dX9_drain_23 ?_
          refine f_aload_n (pc := 26) cx dX9_drain_26 rfl rfl ?_
          refine g_X9_19 (pc := 27) cx hk_o0 dX9_drain_27 ?_
          refine f_iload_n (pc := 30) cx dX9_drain_30 rfl rfl ?_
          refine f_iload_n (pc := 31) cx dX9_drain_31 rfl rfl ?_
          refine f_bind (fun r1 hr1 => ?_)
          refine k_X9_223 (pc := 32) cx (c_X6_afterDrain l G _ (o0 + 59) (o0 + 10) x1 x2 (kf_8_2 hk_o0) (kf_8_1 hk_o0) r1 hr1) (kf_8_2 hk_o0) ⟨by decide, by decide⟩ ⟨Nat.zero_le _, Nat.zero_le _⟩ (Nat.le_of_ble_eq_true rfl) dX9_drain_32 ?_
          exact f_iret cx hr hlk rfl dX9_drain_35
        · refine f_iconst (pc := 20) cx dX9_drain_20 kc_iconst_m1 ?_
          exact f_iret cx hr hlk rfl dX9_drain_21
set_option maxRecDepth 4000 in
theorem c_X9_drain (l : Launch) (G : GT) (h : Hp) (o0 : Nat) (x1 : Int32) (x2 : Int32) (hk_o0 : kd o0 = 8) : CtI l G yX9_drain cX9_drain 3 (some .int) 7 165 [.ref (gad G o0), .int x1, .int x2] h (p_X9_drain h o0 x1 x2) := fun a ha => Ct.of (lv := [some (.ref (gad G o0)), some (.int x1), some (.int x2)]) (by decide) rfl (Nat.le_of_ble_eq_true rfl) rfl (fun p e s m args below meth c cx hr hlk => s_X9_drain cx hr hlk h o0 x1 x2 hk_o0 a ha)
def p_X9_leastTarget (h : Hp) (o0 : Nat) (x1 : Int32) : Option (Int32 × Hp) :=
  if x1 < 0 then (some ((-1), h)) else (if x1 ≤ 999 then (Option.bind (p_X6_targetWithoutDrops h (o0 + 59) (o0 + 10) x1) fun r1 => some (r1.1, r1.2)) else (some ((-1), h)))
set_option maxRecDepth 4000 in
theorem s_X9_leastTarget {p : Program} {l : Launch} {e : Env} {s : State} {m : MethodId} {args : Array Value} {below : List Frame} {meth : Method} {c : Code} {G : GT} (cx : CX p s m args c cX9_leastTarget 2 RX9 G) (hr : meth.sig.returnType = (some .int)) (hlk : meth.locks = false) (h : Hp) (o0 : Nat) (x1 : Int32) (hk_o0 : kd o0 = 8) : PF p l e (rmc 7 166) s m args below meth c 2 G 0 0 (QI below G args s) 0 [some (.ref (gad G o0)), some (.int x1)] [] h (p_X9_leastTarget h o0 x1) := by
  unfold p_X9_leastTarget
  refine f_iload_n (pc := 0) cx dX9_leastTarget_0 rfl rfl ?_
  refine f_if_lt (pc := 1) (tgt := 11) cx dX9_leastTarget_1 (by decide) (fun _ => ?_) (fun _ => ?_)
  · refine f_iconst (pc := 11) cx dX9_leastTarget_11 kc_iconst_m1 ?_
    refine f_goto (pc := 12) (tgt := 27) cx dX9_leastTarget_12 (by decide) ?_
    exact f_iret cx hr hlk rfl dX9_leastTarget_27
  · refine f_iload_n (pc := 4) cx dX9_leastTarget_4 rfl rfl ?_
    refine f_sipush (pc := 5) cx dX9_leastTarget_5 kc_sipush_999 ?_
    refine f_icmp_le (pc := 8) (tgt := 15) cx dX9_leastTarget_8 (by decide) (fun _ => ?_) (fun _ => ?_)
    · refine f_aload_n (pc := 15) cx dX9_leastTarget_15 rfl rfl ?_
      refine g_X9_26 (pc := 16) cx hk_o0 dX9_leastTarget_16 ?_
      refine f_aload_n (pc := 19) cx dX9_leastTarget_19 rfl rfl ?_
      refine g_X9_19 (pc := 20) cx hk_o0 dX9_leastTarget_20 ?_
      refine f_iload_n (pc := 23) cx dX9_leastTarget_23 rfl rfl ?_
      refine f_bind (fun r1 hr1 => ?_)
      refine k_X9_226 (pc := 24) cx (c_X6_targetWithoutDrops l G _ (o0 + 59) (o0 + 10) x1 (kf_8_2 hk_o0) (kf_8_1 hk_o0) r1 hr1) (kf_8_2 hk_o0) ⟨by decide, by decide⟩ ⟨Nat.zero_le _, Nat.zero_le _⟩ (Nat.le_of_ble_eq_true rfl) dX9_leastTarget_24 ?_
      exact f_iret cx hr hlk rfl dX9_leastTarget_27
    · refine f_iconst (pc := 11) cx dX9_leastTarget_11 kc_iconst_m1 ?_
      refine f_goto (pc := 12) (tgt := 27) cx dX9_leastTarget_12 (by decide) ?_
      exact f_iret cx hr hlk rfl dX9_leastTarget_27
set_option maxRecDepth 4000 in
theorem c_X9_leastTarget (l : Launch) (G : GT) (h : Hp) (o0 : Nat) (x1 : Int32) (hk_o0 : kd o0 = 8) : CtI l G yX9_leastTarget cX9_leastTarget 2 (some .int) 7 166 [.ref (gad G o0), .int x1] h (p_X9_leastTarget h o0 x1) := fun a ha => Ct.of (lv := [some (.ref (gad G o0)), some (.int x1)]) (by decide) rfl (Nat.le_of_ble_eq_true rfl) rfl (fun p e s m args below meth c cx hr hlk => s_X9_leastTarget cx hr hlk h o0 x1 hk_o0 a ha)
def p_X9_bestQuantum (h : Hp) (o0 : Nat) (x1 : Int32) : Option (Int32 × Hp) :=
  if x1 < 0 then (some ((-1), h)) else (if x1 ≤ 999 then (Option.bind (p_X6_quantumOfLeastWaits h (o0 + 59) (o0 + 10) x1) fun r1 => some (r1.1, r1.2)) else (some ((-1), h)))
set_option maxRecDepth 4000 in
theorem s_X9_bestQuantum {p : Program} {l : Launch} {e : Env} {s : State} {m : MethodId} {args : Array Value} {below : List Frame} {meth : Method} {c : Code} {G : GT} (cx : CX p s m args c cX9_bestQuantum 2 RX9 G) (hr : meth.sig.returnType = (some .int)) (hlk : meth.locks = false) (h : Hp) (o0 : Nat) (x1 : Int32) (hk_o0 : kd o0 = 8) : PF p l e (rmc 7 168) s m args below meth c 2 G 0 0 (QI below G args s) 0 [some (.ref (gad G o0)), some (.int x1)] [] h (p_X9_bestQuantum h o0 x1) := by
  unfold p_X9_bestQuantum
  refine f_iload_n (pc := 0) cx dX9_bestQuantum_0 rfl rfl ?_
  refine f_if_lt (pc := 1) (tgt := 11) cx dX9_bestQuantum_1 (by decide) (fun _ => ?_) (fun _ => ?_)
  · refine f_iconst (pc := 11) cx dX9_bestQuantum_11 kc_iconst_m1 ?_
    refine f_goto (pc := 12) (tgt := 27) cx dX9_bestQuantum_12 (by decide) ?_
    exact f_iret cx hr hlk rfl dX9_bestQuantum_27
  · refine f_iload_n (pc := 4) cx dX9_bestQuantum_4 rfl rfl ?_
    refine f_sipush (pc := 5) cx dX9_bestQuantum_5 kc_sipush_999 ?_
    refine f_icmp_le (pc := 8) (tgt := 15) cx dX9_bestQuantum_8 (by decide) (fun _ => ?_) (fun _ => ?_)
    · refine f_aload_n (pc := 15) cx dX9_bestQuantum_15 rfl rfl ?_
      refine g_X9_26 (pc := 16) cx hk_o0 dX9_bestQuantum_16 ?_
      refine f_aload_n (pc := 19) cx dX9_bestQuantum_19 rfl rfl ?_
      refine g_X9_19 (pc := 20) cx hk_o0 dX9_bestQuantum_20 ?_
      refine f_iload_n (pc := 23) cx dX9_bestQuantum_23 rfl rfl ?_
      refine f_bind (fun r1 hr1 => ?_)
      refine k_X9_229 (pc := 24) cx (c_X6_quantumOfLeastWaits l G _ (o0 + 59) (o0 + 10) x1 (kf_8_2 hk_o0) (kf_8_1 hk_o0) r1 hr1) (kf_8_2 hk_o0) ⟨by decide, by decide⟩ ⟨Nat.zero_le _, Nat.zero_le _⟩ (Nat.le_of_ble_eq_true rfl) dX9_bestQuantum_24 ?_
      exact f_iret cx hr hlk rfl dX9_bestQuantum_27
    · refine f_iconst (pc := 11) cx dX9_bestQuantum_11 kc_iconst_m1 ?_
      refine f_goto (pc := 12) (tgt := 27) cx dX9_bestQuantum_12 (by decide) ?_
      exact f_iret cx hr hlk rfl dX9_bestQuantum_27
set_option maxRecDepth 4000 in
theorem c_X9_bestQuantum (l : Launch) (G : GT) (h : Hp) (o0 : Nat) (x1 : Int32) (hk_o0 : kd o0 = 8) : CtI l G yX9_bestQuantum cX9_bestQuantum 2 (some .int) 7 168 [.ref (gad G o0), .int x1] h (p_X9_bestQuantum h o0 x1) := fun a ha => Ct.of (lv := [some (.ref (gad G o0)), some (.int x1)]) (by decide) rfl (Nat.le_of_ble_eq_true rfl) rfl (fun p e s m args below meth c cx hr hlk => s_X9_bestQuantum cx hr hlk h o0 x1 hk_o0 a ha)
def p_X9_shared (h : Hp) (o0 : Nat) : Option (Int32 × Hp) :=
  Option.bind (p_X1_strangeKeys h (o0 + 10 + 2)) fun r1 => some (r1.1, r1.2)
set_option maxRecDepth 4000 in
theorem s_X9_shared {p : Program} {l : Launch} {e : Env} {s : State} {m : MethodId} {args : Array Value} {below : List Frame} {meth : Method} {c : Code} {G : GT} (cx : CX p s m args c cX9_shared 1 RX9 G) (hr : meth.sig.returnType = (some .int)) (hlk : meth.locks = false) (h : Hp) (o0 : Nat) (hk_o0 : kd o0 = 8) : PF p l e (rmc 2 44) s m args below meth c 1 G 0 0 (QI below G args s) 0 [some (.ref (gad G o0))] [] h (p_X9_shared h o0) := by
  unfold p_X9_shared
  refine f_aload_n (pc := 0) cx dX9_shared_0 rfl rfl ?_
  refine g_X9_19 (pc := 1) cx hk_o0 dX9_shared_1 ?_
  refine g_X9_72 (pc := 4) cx (kf_8_1 hk_o0) dX9_shared_4 ?_
  refine f_bind (fun r1 hr1 => ?_)
  refine k_X9_232 (pc := 7) cx (c_X1_strangeKeys l G _ (o0 + 10 + 2) (kf_7_1 (kf_8_1 hk_o0)) r1 hr1) (kf_7_1 (kf_8_1 hk_o0)) ⟨by decide, by decide⟩ ⟨Nat.zero_le _, Nat.zero_le _⟩ (Nat.le_of_ble_eq_true rfl) dX9_shared_7 ?_
  exact f_iret cx hr hlk rfl dX9_shared_10
set_option maxRecDepth 4000 in
theorem c_X9_shared (l : Launch) (G : GT) (h : Hp) (o0 : Nat) (hk_o0 : kd o0 = 8) : CtI l G yX9_shared cX9_shared 1 (some .int) 2 44 [.ref (gad G o0)] h (p_X9_shared h o0) := fun a ha => Ct.of (lv := [some (.ref (gad G o0))]) (by decide) rfl (Nat.le_of_ble_eq_true rfl) rfl (fun p e s m args below meth c cx hr hlk => s_X9_shared cx hr hlk h o0 hk_o0 a ha)
def p_X9_within (h : Hp) (o0 : Nat) (x1 : Int32) (x2 : Int32) : Option (Int32 × Hp) :=
  if x1 < 0 then (some ((-1), h)) else (if x2 < x1 then (some ((-1), h)) else (if x2 ≤ 9999999 then (Option.bind (p_X1_sentWithin h (o0 + 10 + 2) x1 x2) fun r1 => some (r1.1, r1.2)) else (some ((-1), h))))
set_option maxRecDepth 4000 in
theorem s_X9_within {p : Program} {l : Launch} {e : Env} {s : State} {m : MethodId} {args : Array Value} {below : List Frame} {meth : Method} {c : Code} {G : GT} (cx : CX p s m args c cX9_within 3 RX9 G) (hr : meth.sig.returnType = (some .int)) (hlk : meth.locks = false) (h : Hp) (o0 : Nat) (x1 : Int32) (x2 : Int32) (hk_o0 : kd o0 = 8) : PF p l e (rmc 2 45) s m args below meth c 3 G 0 0 (QI below G args s) 0 [some (.ref (gad G o0)), some (.int x1), some (.int x2)] [] h (p_X9_within h o0 x1 x2) := by
  unfold p_X9_within
  refine f_iload_n (pc := 0) cx dX9_within_0 rfl rfl ?_
  refine f_if_lt (pc := 1) (tgt := 15) cx dX9_within_1 (by decide) (fun _ => ?_) (fun _ => ?_)
  · refine f_iconst (pc := 15) cx dX9_within_15 kc_iconst_m1 ?_
    exact f_iret cx hr hlk rfl dX9_within_16
  · refine f_iload_n (pc := 4) cx dX9_within_4 rfl rfl ?_
    refine f_iload_n (pc := 5) cx dX9_within_5 rfl rfl ?_
    refine f_icmp_lt (pc := 6) (tgt := 15) cx dX9_within_6 (by decide) (fun _ => ?_) (fun _ => ?_)
    · refine f_iconst (pc := 15) cx dX9_within_15 kc_iconst_m1 ?_
      exact f_iret cx hr hlk rfl dX9_within_16
    · refine f_iload_n (pc := 9) cx dX9_within_9 rfl rfl ?_
      refine f_ldc (pc := 10) cx w_1173 dX9_within_10 ?_
      refine f_icmp_le (pc := 12) (tgt := 17) cx dX9_within_12 (by decide) (fun _ => ?_) (fun _ => ?_)
      · refine f_aload_n (pc := 17) cx dX9_within_17 rfl rfl ?_
        refine g_X9_19 (pc := 18) cx hk_o0 dX9_within_18 ?_
        refine g_X9_72 (pc := 21) cx (kf_8_1 hk_o0) dX9_within_21 ?_
        refine f_iload_n (pc := 24) cx dX9_within_24 rfl rfl ?_
        refine f_iload_n (pc := 25) cx dX9_within_25 rfl rfl ?_
        refine f_bind (fun r1 hr1 => ?_)
        refine k_X9_236 (pc := 26) cx (c_X1_sentWithin l G _ (o0 + 10 + 2) x1 x2 (kf_7_1 (kf_8_1 hk_o0)) r1 hr1) (kf_7_1 (kf_8_1 hk_o0)) ⟨by decide, by decide⟩ ⟨Nat.zero_le _, Nat.zero_le _⟩ (Nat.le_of_ble_eq_true rfl) dX9_within_26 ?_
        exact f_iret cx hr hlk rfl dX9_within_29
      · refine f_iconst (pc := 15) cx dX9_within_15 kc_iconst_m1 ?_
        exact f_iret cx hr hlk rfl dX9_within_16
set_option maxRecDepth 4000 in
theorem c_X9_within (l : Launch) (G : GT) (h : Hp) (o0 : Nat) (x1 : Int32) (x2 : Int32) (hk_o0 : kd o0 = 8) : CtI l G yX9_within cX9_within 3 (some .int) 2 45 [.ref (gad G o0), .int x1, .int x2] h (p_X9_within h o0 x1 x2) := fun a ha => Ct.of (lv := [some (.ref (gad G o0)), some (.int x1), some (.int x2)]) (by decide) rfl (Nat.le_of_ble_eq_true rfl) rfl (fun p e s m args below meth c cx hr hlk => s_X9_within cx hr hlk h o0 x1 x2 hk_o0 a ha)
def p_X9_middle (h : Hp) (o0 : Nat) : Option (Int32 × Hp) :=
  Option.bind (p_X1_middleWait h (o0 + 10 + 2)) fun r1 => some (r1.1, r1.2)
set_option maxRecDepth 4000 in
theorem s_X9_middle {p : Program} {l : Launch} {e : Env} {s : State} {m : MethodId} {args : Array Value} {below : List Frame} {meth : Method} {c : Code} {G : GT} (cx : CX p s m args c cX9_middle 1 RX9 G) (hr : meth.sig.returnType = (some .int)) (hlk : meth.locks = false) (h : Hp) (o0 : Nat) (hk_o0 : kd o0 = 8) : PF p l e (rmc 3 70) s m args below meth c 1 G 0 0 (QI below G args s) 0 [some (.ref (gad G o0))] [] h (p_X9_middle h o0) := by
  unfold p_X9_middle
  refine f_aload_n (pc := 0) cx dX9_middle_0 rfl rfl ?_
  refine g_X9_19 (pc := 1) cx hk_o0 dX9_middle_1 ?_
  refine g_X9_72 (pc := 4) cx (kf_8_1 hk_o0) dX9_middle_4 ?_
  refine f_bind (fun r1 hr1 => ?_)
  refine k_X9_239 (pc := 7) cx (c_X1_middleWait l G _ (o0 + 10 + 2) (kf_7_1 (kf_8_1 hk_o0)) r1 hr1) (kf_7_1 (kf_8_1 hk_o0)) ⟨by decide, by decide⟩ ⟨Nat.zero_le _, Nat.zero_le _⟩ (Nat.le_of_ble_eq_true rfl) dX9_middle_7 ?_
  exact f_iret cx hr hlk rfl dX9_middle_10
set_option maxRecDepth 4000 in
theorem c_X9_middle (l : Launch) (G : GT) (h : Hp) (o0 : Nat) (hk_o0 : kd o0 = 8) : CtI l G yX9_middle cX9_middle 1 (some .int) 3 70 [.ref (gad G o0)] h (p_X9_middle h o0) := fun a ha => Ct.of (lv := [some (.ref (gad G o0))]) (by decide) rfl (Nat.le_of_ble_eq_true rfl) rfl (fun p e s m args below meth c cx hr hlk => s_X9_middle cx hr hlk h o0 hk_o0 a ha)
def b_X9_load_23 (o0 : Nat) (x1 : Int32) (k23 : Hp × Int32 × Int32 → Option (Int32 × Hp)) (q : Hp × Int32 × Int32) : Option (Int32 × Hp) :=
  if 10000 ≤ q.2.2 then (some (q.2.1, q.1)) else (Option.bind (p_X8_setOf q.1 (o0 + 10) q.2.2) fun r1 => if r1.1 = x1 then (k23 (r1.2, q.2.1 + 1, q.2.2 + 1)) else (k23 (r1.2, q.2.1, q.2.2 + 1)))
def p_X9_load (h : Hp) (o0 : Nat) (x1 : Int32) : Option (Int32 × Hp) :=
  if x1 < 0 then (some ((-1), h)) else (if x1 < (h (o0 + 10 + 1) 3) then (lp (b_X9_load_23 o0 x1) FU (h, 0, 0)) else (some ((-1), h)))
set_option maxRecDepth 4000 in
theorem s_X9_load_23 {p : Program} {l : Launch} {e : Env} {s : State} {m : MethodId} {args : Array Value} {below : List Frame} {meth : Method} {c : Code} {G : GT} (cx : CX p s m args c cX9_load 4 RX9 G) (hr : meth.sig.returnType = (some .int)) (hlk : meth.locks = false) (o0 : Nat) (x1 : Int32) (hk_o0 : kd o0 = 8) : ∀ (n : Nat) (q : Hp × Int32 × Int32), PF p l e (rmc 2 42) s m args below meth c 4 G 0 0 (QI below G args s) 23 [some (.ref (gad G o0)), some (.int x1), some (.int q.2.1), some (.int q.2.2)] [] q.1 (lp (b_X9_load_23 o0 x1) n q) := by
  refine f_lp (lvf := fun (q : Hp × Int32 × Int32) => [some (.ref (gad G o0)), some (.int x1), some (.int q.2.1), some (.int q.2.2)]) (hf := fun (q : Hp × Int32 × Int32) => q.1) (fun k23 hk23 q => ?_)
  show PF p l e (rmc 2 42) s m args below meth c 4 G 0 0 (QI below G args s) 23 [some (.ref (gad G o0)), some (.int x1), some (.int q.2.1), some (.int q.2.2)] [] q.1 (b_X9_load_23 o0 x1 k23 q)
  unfold b_X9_load_23
  refine f_iload_n (pc := 23) cx dX9_load_23 rfl rfl ?_
  refine f_sipush (pc := 24) cx dX9_load_24 kc_sipush_10000 ?_
  refine f_icmp_ge (pc := 27) (tgt := 51) cx dX9_load_27 (by decide) (fun _ => ?_) (fun _ => ?_)
  · refine f_iload_n (pc := 51) cx dX9_load_51 rfl rfl ?_
    exact f_iret cx hr hlk rfl dX9_load_52
  · refine f_aload_n (pc := 30) cx dX9_load_30 rfl rfl ?_
    refine g_X9_19 (pc := 31) cx hk_o0 dX9_load_31 ?_
    refine f_iload_n (pc := 34) cx dX9_load_34 rfl rfl ?_
    refine f_bind (fun r1 hr1 => ?_)
    refine k_X9_137 (pc := 35) cx (c_X8_setOf l G _ (o0 + 10) q.2.2 (kf_8_1 hk_o0) r1 hr1) (kf_8_1 hk_o0) ⟨by decide, by decide⟩ ⟨Nat.zero_le _, Nat.zero_le _⟩ (Nat.le_of_ble_eq_true rfl) dX9_load_35 ?_
    refine f_iload_n (pc := 38) cx dX9_load_38 rfl rfl ?_
    refine f_icmp_ne (pc := 39) (tgt := 45) cx dX9_load_39 (by decide) (fun _ => ?_) (fun _ => ?_)
    · refine f_iinc2 (pc := 42) cx dX9_load_42 kc_iconst_1 (by decide) rfl ?_
      refine f_iinc3 (pc := 45) cx dX9_load_45 kc_iconst_1 (by decide) rfl ?_
      refine f_goto (pc := 48) (tgt := 23) cx dX9_load_48 (by decide) ?_
      exact f_weak (LSb.s (LSb.s (LSb.s (LSb.s LSb.e)))) (hk23 (r1.2, q.2.1 + 1, q.2.2 + 1))
    · refine f_iinc3 (pc := 45) cx dX9_load_45 kc_iconst_1 (by decide) rfl ?_
      refine f_goto (pc := 48) (tgt := 23) cx dX9_load_48 (by decide) ?_
      exact f_weak (LSb.s (LSb.s (LSb.s (LSb.s LSb.e)))) (hk23 (r1.2, q.2.1, q.2.2 + 1))
set_option maxRecDepth 4000 in
theorem s_X9_load {p : Program} {l : Launch} {e : Env} {s : State} {m : MethodId} {args : Array Value} {below : List Frame} {meth : Method} {c : Code} {G : GT} (cx : CX p s m args c cX9_load 4 RX9 G) (hr : meth.sig.returnType = (some .int)) (hlk : meth.locks = false) (h : Hp) (o0 : Nat) (x1 : Int32) (hk_o0 : kd o0 = 8) : PF p l e (rmc 2 42) s m args below meth c 4 G 0 0 (QI below G args s) 0 [some (.ref (gad G o0)), some (.int x1), none, none] [] h (p_X9_load h o0 x1) := by
  unfold p_X9_load
  refine f_iload_n (pc := 0) cx dX9_load_0 rfl rfl ?_
  refine f_if_lt (pc := 1) (tgt := 17) cx dX9_load_1 (by decide) (fun _ => ?_) (fun _ => ?_)
  · refine f_iconst (pc := 17) cx dX9_load_17 kc_iconst_m1 ?_
    exact f_iret cx hr hlk rfl dX9_load_18
  · refine f_iload_n (pc := 4) cx dX9_load_4 rfl rfl ?_
    refine f_aload_n (pc := 5) cx dX9_load_5 rfl rfl ?_
    refine g_X9_19 (pc := 6) cx hk_o0 dX9_load_6 ?_
    refine g_X9_122 (pc := 9) cx (kf_8_1 hk_o0) dX9_load_9 ?_
    refine f_iconst (pc := 12) cx dX9_load_12 kc_iconst_3 ?_
    refine f_ialdk (pc := 13) (j := 3) (n := 8) cx (kf_7_0 (kf_8_1 hk_o0)) (by decide) (by decide) kl_3 dX9_load_13 ?_
    refine f_icmp_lt (pc := 14) (tgt := 19) cx dX9_load_14 (by decide) (fun _ => ?_) (fun _ => ?_)
    · refine f_iconst (pc := 19) cx dX9_load_19 kc_iconst_0 ?_
      refine f_istore2 (pc := 20) cx dX9_load_20 (by decide) rfl ?_
      refine f_iconst (pc := 21) cx dX9_load_21 kc_iconst_0 ?_
      refine f_istore3 (pc := 22) cx dX9_load_22 (by decide) rfl ?_
      exact f_weak (LSb.s (LSb.s (LSb.s (LSb.s LSb.e)))) (s_X9_load_23 cx hr hlk o0 x1 hk_o0 FU (h, 0, 0))
    · refine f_iconst (pc := 17) cx dX9_load_17 kc_iconst_m1 ?_
      exact f_iret cx hr hlk rfl dX9_load_18
set_option maxRecDepth 4000 in
theorem c_X9_load (l : Launch) (G : GT) (h : Hp) (o0 : Nat) (x1 : Int32) (hk_o0 : kd o0 = 8) : CtI l G yX9_load cX9_load 4 (some .int) 2 42 [.ref (gad G o0), .int x1] h (p_X9_load h o0 x1) := fun a ha => Ct.of (lv := [some (.ref (gad G o0)), some (.int x1), none, none]) (by decide) rfl (Nat.le_of_ble_eq_true rfl) rfl (fun p e s m args below meth c cx hr hlk => s_X9_load cx hr hlk h o0 x1 hk_o0 a ha)
def p_X9_count (h : Hp) (o0 : Nat) (x1 : Int32) : Option (Int32 × Hp) :=
  if x1 = 0 then (some (h (o0 + 10) 7, h)) else if x1 = 1 then (some (h (o0 + 10 + 2) 13, h)) else if x1 = 2 then (some (h (o0 + 10) 8, h)) else if x1 = 3 then (some (h (o0 + 10) 9, h)) else if x1 = 4 then (some (h (o0 + 10 + 2 + 13) 1, h)) else if x1 = 5 then (some (h (o0 + 10 + 2 + 13) 2, h)) else if x1 = 6 then (some (h (o0 + 10 + 2 + 13) 4, h)) else if x1 = 7 then (some (h (o0 + 10 + 2 + 13) 3, h)) else if x1 = 8 then (Option.bind (p_X8_bucketCount h (o0 + 10)) fun r9 => some (r9.1, r9.2)) else if x1 = 9 then (Option.bind (p_X8_bucketCount h (o0 + 10)) fun r11 => some (r11.1 - (r11.2 (o0 + 10 + 33) 2), r11.2)) else if x1 = 10 then (some (h (o0 + 10 + 40) 3, h)) else if x1 = 11 then (some (h (o0 + 10 + 1) 0, h)) else if x1 = 12 then (some (h (o0 + 10 + 1) 1, h)) else if x1 = 13 then (some (h (o0 + 10 + 1) 2, h)) else if x1 = 14 then (some (h (o0 + 10 + 1) 5, h)) else if x1 = 15 then (some (h (o0 + 10 + 1) 6, h)) else if x1 = 16 then (some (h (o0 + 1) 1, h)) else if x1 = 17 then (some (h (o0 + 10 + 1) 7, h)) else if x1 = 18 then (some (h (o0 + 10) 10, h)) else if x1 = 19 then (some (h (o0 + 10) 6, h)) else (some ((-1), h))
set_option maxRecDepth 4000 in
theorem s_X9_count {p : Program} {l : Launch} {e : Env} {s : State} {m : MethodId} {args : Array Value} {below : List Frame} {meth : Method} {c : Code} {G : GT} (cx : CX p s m args c cX9_count 2 RX9 G) (hr : meth.sig.returnType = (some .int)) (hlk : meth.locks = false) (h : Hp) (o0 : Nat) (x1 : Int32) (hk_o0 : kd o0 = 8) : PF p l e (rmc 1 20) s m args below meth c 2 G 0 0 (QI below G args s) 0 [some (.ref (gad G o0)), some (.int x1)] [] h (p_X9_count h o0 x1) := by
  unfold p_X9_count
  refine f_iload_n (pc := 0) cx dX9_count_0 rfl rfl ?_
  refine f_case (?_) (fun n1 => ?_)
  · refine f_tin (pc := 1) (tgt := 96) cx dX9_count_1 (by decide) (by decide) rfl (by decide) ?_
    refine f_aload_n (pc := 96) cx dX9_count_96 rfl rfl ?_
    refine g_X9_19 (pc := 97) cx hk_o0 dX9_count_97 ?_
    refine g_X9_64 (pc := 100) cx (kf_8_1 hk_o0) dX9_count_100 ?_
    exact f_iret cx hr hlk rfl dX9_count_103
  refine f_case (?_) (fun n2 => ?_)
  · refine f_tin (pc := 1) (tgt := 104) cx dX9_count_1 (by decide) (by decide) rfl (by decide) ?_
    refine f_aload_n (pc := 104) cx dX9_count_104 rfl rfl ?_
    refine g_X9_19 (pc := 105) cx hk_o0 dX9_count_105 ?_
    refine g_X9_72 (pc := 108) cx (kf_8_1 hk_o0) dX9_count_108 ?_
    refine g_X9_242 (pc := 111) cx (kf_7_1 (kf_8_1 hk_o0)) dX9_count_111 ?_
    exact f_iret cx hr hlk rfl dX9_count_114
  refine f_case (?_) (fun n3 => ?_)
  · refine f_tin (pc := 1) (tgt := 115) cx dX9_count_1 (by decide) (by decide) rfl (by decide) ?_
    refine f_aload_n (pc := 115) cx dX9_count_115 rfl rfl ?_
    refine g_X9_19 (pc := 116) cx hk_o0 dX9_count_116 ?_
    refine g_X9_245 (pc := 119) cx (kf_8_1 hk_o0) dX9_count_119 ?_
    exact f_iret cx hr hlk rfl dX9_count_122
  refine f_case (?_) (fun n4 => ?_)
  · refine f_tin (pc := 1) (tgt := 123) cx dX9_count_1 (by decide) (by decide) rfl (by decide) ?_
    refine f_aload_n (pc := 123) cx dX9_count_123 rfl rfl ?_
    refine g_X9_19 (pc := 124) cx hk_o0 dX9_count_124 ?_
    refine g_X9_248 (pc := 127) cx (kf_8_1 hk_o0) dX9_count_127 ?_
    exact f_iret cx hr hlk rfl dX9_count_130
  refine f_case (?_) (fun n5 => ?_)
  · refine f_tin (pc := 1) (tgt := 131) cx dX9_count_1 (by decide) (by decide) rfl (by decide) ?_
    refine f_aload_n (pc := 131) cx dX9_count_131 rfl rfl ?_
    refine g_X9_19 (pc := 132) cx hk_o0 dX9_count_132 ?_
    refine g_X9_72 (pc := 135) cx (kf_8_1 hk_o0) dX9_count_135 ?_
    refine g_X9_76 (pc := 138) cx (kf_7_1 (kf_8_1 hk_o0)) dX9_count_138 ?_
    refine f_iconst (pc := 141) cx dX9_count_141 kc_iconst_1 ?_
    refine f_ialdk (pc := 142) (j := 1) (n := 5) cx (kf_1_12 (kf_7_1 (kf_8_1 hk_o0))) (by decide) (by decide) kl_1 dX9_count_142 ?_
    exact f_iret cx hr hlk rfl dX9_count_143
  refine f_case (?_) (fun n6 => ?_)
  · refine f_tin (pc := 1) (tgt := 144) cx dX9_count_1 (by decide) (by decide) rfl (by decide) ?_
    refine f_aload_n (pc := 144) cx dX9_count_144 rfl rfl ?_
    refine g_X9_19 (pc := 145) cx hk_o0 dX9_count_145 ?_
    refine g_X9_72 (pc := 148) cx (kf_8_1 hk_o0) dX9_count_148 ?_
    refine g_X9_76 (pc := 151) cx (kf_7_1 (kf_8_1 hk_o0)) dX9_count_151 ?_
    refine f_iconst (pc := 154) cx dX9_count_154 kc_iconst_2 ?_
    refine f_ialdk (pc := 155) (j := 2) (n := 5) cx (kf_1_12 (kf_7_1 (kf_8_1 hk_o0))) (by decide) (by decide) kl_2 dX9_count_155 ?_
    exact f_iret cx hr hlk rfl dX9_count_156
  refine f_case (?_) (fun n7 => ?_)
  · refine f_tin (pc := 1) (tgt := 157) cx dX9_count_1 (by decide) (by decide) rfl (by decide) ?_
    refine f_aload_n (pc := 157) cx dX9_count_157 rfl rfl ?_
    refine g_X9_19 (pc := 158) cx hk_o0 dX9_count_158 ?_
    refine g_X9_72 (pc := 161) cx (kf_8_1 hk_o0) dX9_count_161 ?_
    refine g_X9_76 (pc := 164) cx (kf_7_1 (kf_8_1 hk_o0)) dX9_count_164 ?_
    refine f_iconst (pc := 167) cx dX9_count_167 kc_iconst_4 ?_
    refine f_ialdk (pc := 168) (j := 4) (n := 5) cx (kf_1_12 (kf_7_1 (kf_8_1 hk_o0))) (by decide) (by decide) kl_4 dX9_count_168 ?_
    exact f_iret cx hr hlk rfl dX9_count_169
  refine f_case (?_) (fun n8 => ?_)
  · refine f_tin (pc := 1) (tgt := 170) cx dX9_count_1 (by decide) (by decide) rfl (by decide) ?_
    refine f_aload_n (pc := 170) cx dX9_count_170 rfl rfl ?_
    refine g_X9_19 (pc := 171) cx hk_o0 dX9_count_171 ?_
    refine g_X9_72 (pc := 174) cx (kf_8_1 hk_o0) dX9_count_174 ?_
    refine g_X9_76 (pc := 177) cx (kf_7_1 (kf_8_1 hk_o0)) dX9_count_177 ?_
    refine f_iconst (pc := 180) cx dX9_count_180 kc_iconst_3 ?_
    refine f_ialdk (pc := 181) (j := 3) (n := 5) cx (kf_1_12 (kf_7_1 (kf_8_1 hk_o0))) (by decide) (by decide) kl_3 dX9_count_181 ?_
    exact f_iret cx hr hlk rfl dX9_count_182
  refine f_case (?_) (fun n10 => ?_)
  · refine f_tin (pc := 1) (tgt := 183) cx dX9_count_1 (by decide) (by decide) rfl (by decide) ?_
    refine f_aload_n (pc := 183) cx dX9_count_183 rfl rfl ?_
    refine g_X9_19 (pc := 184) cx hk_o0 dX9_count_184 ?_
    refine f_bind (fun r9 hr9 => ?_)
    refine k_X9_251 (pc := 187) cx (c_X8_bucketCount l G _ (o0 + 10) (kf_8_1 hk_o0) r9 hr9) (kf_8_1 hk_o0) ⟨by decide, by decide⟩ ⟨Nat.zero_le _, Nat.zero_le _⟩ (Nat.le_of_ble_eq_true rfl) dX9_count_187 ?_
    exact f_iret cx hr hlk rfl dX9_count_190
  refine f_case (?_) (fun n12 => ?_)
  · refine f_tin (pc := 1) (tgt := 191) cx dX9_count_1 (by decide) (by decide) rfl (by decide) ?_
    refine f_aload_n (pc := 191) cx dX9_count_191 rfl rfl ?_
    refine g_X9_19 (pc := 192) cx hk_o0 dX9_count_192 ?_
    refine f_bind (fun r11 hr11 => ?_)
    refine k_X9_251 (pc := 195) cx (c_X8_bucketCount l G _ (o0 + 10) (kf_8_1 hk_o0) r11 hr11) (kf_8_1 hk_o0) ⟨by decide, by decide⟩ ⟨Nat.zero_le _, Nat.zero_le _⟩ (Nat.le_of_ble_eq_true rfl) dX9_count_195 ?_
    refine f_aload_n (pc := 198) cx dX9_count_198 rfl rfl ?_
    refine g_X9_19 (pc := 199) cx hk_o0 dX9_count_199 ?_
    refine g_X9_171 (pc := 202) cx (kf_8_1 hk_o0) dX9_count_202 ?_
    refine g_X9_254 (pc := 205) cx (kf_7_3 (kf_8_1 hk_o0)) dX9_count_205 ?_
    refine f_isub (pc := 208) cx dX9_count_208 ?_
    exact f_iret cx hr hlk rfl dX9_count_209
  refine f_case (?_) (fun n13 => ?_)
  · refine f_tin (pc := 1) (tgt := 210) cx dX9_count_1 (by decide) (by decide) rfl (by decide) ?_
    refine f_aload_n (pc := 210) cx dX9_count_210 rfl rfl ?_
    refine g_X9_19 (pc := 211) cx hk_o0 dX9_count_211 ?_
    refine g_X9_126 (pc := 214) cx (kf_8_1 hk_o0) dX9_count_214 ?_
    refine g_X9_255 (pc := 217) cx (kf_7_5 (kf_8_1 hk_o0)) dX9_count_217 ?_
    exact f_iret cx hr hlk rfl dX9_count_220
  refine f_case (?_) (fun n14 => ?_)
  · refine f_tin (pc := 1) (tgt := 221) cx dX9_count_1 (by decide) (by decide) rfl (by decide) ?_
    refine f_aload_n (pc := 221) cx dX9_count_221 rfl rfl ?_
    refine g_X9_19 (pc := 222) cx hk_o0 dX9_count_222 ?_
    refine g_X9_122 (pc := 225) cx (kf_8_1 hk_o0) dX9_count_225 ?_
    refine f_iconst (pc := 228) cx dX9_count_228 kc_iconst_0 ?_
    refine f_ialdk (pc := 229) (j := 0) (n := 8) cx (kf_7_0 (kf_8_1 hk_o0)) (by decide) (by decide) kl_0 dX9_count_229 ?_
    exact f_iret cx hr hlk rfl dX9_count_230
  refine f_case (?_) (fun n15 => ?_)
  · refine f_tin (pc := 1) (tgt := 231) cx dX9_count_1 (by decide) (by decide) rfl (by decide) ?_
    refine f_aload_n (pc := 231) cx dX9_count_231 rfl rfl ?_
    refine g_X9_19 (pc := 232) cx hk_o0 dX9_count_232 ?_
    refine g_X9_122 (pc := 235) cx (kf_8_1 hk_o0) dX9_count_235 ?_
    refine f_iconst (pc := 238) cx dX9_count_238 kc_iconst_1 ?_
    refine f_ialdk (pc := 239) (j := 1) (n := 8) cx (kf_7_0 (kf_8_1 hk_o0)) (by decide) (by decide) kl_1 dX9_count_239 ?_
    exact f_iret cx hr hlk rfl dX9_count_240
  refine f_case (?_) (fun n16 => ?_)
  · refine f_tin (pc := 1) (tgt := 241) cx dX9_count_1 (by decide) (by decide) rfl (by decide) ?_
    refine f_aload_n (pc := 241) cx dX9_count_241 rfl rfl ?_
    refine g_X9_19 (pc := 242) cx hk_o0 dX9_count_242 ?_
    refine g_X9_122 (pc := 245) cx (kf_8_1 hk_o0) dX9_count_245 ?_
    refine f_iconst (pc := 248) cx dX9_count_248 kc_iconst_2 ?_
    refine f_ialdk (pc := 249) (j := 2) (n := 8) cx (kf_7_0 (kf_8_1 hk_o0)) (by decide) (by decide) kl_2 dX9_count_249 ?_
    exact f_iret cx hr hlk rfl dX9_count_250
  refine f_case (?_) (fun n17 => ?_)
  · refine f_tin (pc := 1) (tgt := 251) cx dX9_count_1 (by decide) (by decide) rfl (by decide) ?_
    refine f_aload_n (pc := 251) cx dX9_count_251 rfl rfl ?_
    refine g_X9_19 (pc := 252) cx hk_o0 dX9_count_252 ?_
    refine g_X9_122 (pc := 255) cx (kf_8_1 hk_o0) dX9_count_255 ?_
    refine f_iconst (pc := 258) cx dX9_count_258 kc_iconst_5 ?_
    refine f_ialdk (pc := 259) (j := 5) (n := 8) cx (kf_7_0 (kf_8_1 hk_o0)) (by decide) (by decide) kl_5 dX9_count_259 ?_
    exact f_iret cx hr hlk rfl dX9_count_260
  refine f_case (?_) (fun n18 => ?_)
  · refine f_tin (pc := 1) (tgt := 261) cx dX9_count_1 (by decide) (by decide) rfl (by decide) ?_
    refine f_aload_n (pc := 261) cx dX9_count_261 rfl rfl ?_
    refine g_X9_19 (pc := 262) cx hk_o0 dX9_count_262 ?_
    refine g_X9_122 (pc := 265) cx (kf_8_1 hk_o0) dX9_count_265 ?_
    refine f_bipush (pc := 268) cx dX9_count_268 kc_bipush_6 ?_
    refine f_ialdk (pc := 270) (j := 6) (n := 8) cx (kf_7_0 (kf_8_1 hk_o0)) (by decide) (by decide) kl_6 dX9_count_270 ?_
    exact f_iret cx hr hlk rfl dX9_count_271
  refine f_case (?_) (fun n19 => ?_)
  · refine f_tin (pc := 1) (tgt := 272) cx dX9_count_1 (by decide) (by decide) rfl (by decide) ?_
    refine f_aload_n (pc := 272) cx dX9_count_272 rfl rfl ?_
    refine g_X9_10 (pc := 273) cx hk_o0 dX9_count_273 ?_
    refine g_X9_30 (pc := 276) cx (kf_8_0 hk_o0) dX9_count_276 ?_
    exact f_iret cx hr hlk rfl dX9_count_279
  refine f_case (?_) (fun n20 => ?_)
  · refine f_tin (pc := 1) (tgt := 280) cx dX9_count_1 (by decide) (by decide) rfl (by decide) ?_
    refine f_aload_n (pc := 280) cx dX9_count_280 rfl rfl ?_
    refine g_X9_19 (pc := 281) cx hk_o0 dX9_count_281 ?_
    refine g_X9_122 (pc := 284) cx (kf_8_1 hk_o0) dX9_count_284 ?_
    refine f_bipush (pc := 287) cx dX9_count_287 kc_bipush_7 ?_
    refine f_ialdk (pc := 289) (j := 7) (n := 8) cx (kf_7_0 (kf_8_1 hk_o0)) (by decide) (by decide) kl_7 dX9_count_289 ?_
    exact f_iret cx hr hlk rfl dX9_count_290
  refine f_case (?_) (fun n21 => ?_)
  · refine f_tin (pc := 1) (tgt := 291) cx dX9_count_1 (by decide) (by decide) rfl (by decide) ?_
    refine f_aload_n (pc := 291) cx dX9_count_291 rfl rfl ?_
    refine g_X9_19 (pc := 292) cx hk_o0 dX9_count_292 ?_
    refine g_X9_256 (pc := 295) cx (kf_8_1 hk_o0) dX9_count_295 ?_
    exact f_iret cx hr hlk rfl dX9_count_298
  refine f_case (?_) (fun n22 => ?_)
  · refine f_tin (pc := 1) (tgt := 299) cx dX9_count_1 (by decide) (by decide) rfl (by decide) ?_
    refine f_aload_n (pc := 299) cx dX9_count_299 rfl rfl ?_
    refine g_X9_19 (pc := 300) cx hk_o0 dX9_count_300 ?_
    refine g_X9_85 (pc := 303) cx (kf_8_1 hk_o0) dX9_count_303 ?_
    exact f_iret cx hr hlk rfl dX9_count_306
  refine f_tout (pc := 1) (tgt := 307) (N := 20) cx dX9_count_1 (by decide) (by decide) (lt_s (lt_s (lt_s (lt_s (lt_s (lt_s (lt_s (lt_s (lt_s (lt_s (lt_s (lt_s (lt_s (lt_s (lt_s (lt_s (lt_s (lt_s (lt_s (lt_s lt_0 n1) n2) n3) n4) n5) n6) n7) n8) n10) n12) n13) n14) n15) n16) n17) n18) n19) n20) n21) n22) (by decide) ?_
  refine f_iconst (pc := 307) cx dX9_count_307 kc_iconst_m1 ?_
  exact f_iret cx hr hlk rfl dX9_count_308
set_option maxRecDepth 4000 in
theorem c_X9_count (l : Launch) (G : GT) (h : Hp) (o0 : Nat) (x1 : Int32) (hk_o0 : kd o0 = 8) : CtI l G yX9_count cX9_count 2 (some .int) 1 20 [.ref (gad G o0), .int x1] h (p_X9_count h o0 x1) := fun a ha => Ct.of (lv := [some (.ref (gad G o0)), some (.int x1)]) (by decide) rfl (Nat.le_of_ble_eq_true rfl) rfl (fun p e s m args below meth c cx hr hlk => s_X9_count cx hr hlk h o0 x1 hk_o0 a ha)
def b_X9_perform_189 (k4 : Hp × Int32 × Int32 → Option Hp) (o0 : Nat) (x1 : Int32) (x2 : Int32) (x3 : Int32) (x4 : Int32) (k189 : Hp × Int32 → Option Hp) (q : Hp × Int32) : Option Hp :=
  if x4 ≤ q.2 then (Option.bind (p_X9_numbersOf q.1 x3) fun r1 => nv (x1 + (1 + r1.1)) fun v2 => k4 (r1.2, v2, x2 + 1)) else (Option.bind (p_X8_tick q.1 (o0 + 10)) fun r3 => k189 (r3, q.2 + 1))
def b_X9_perform_156 (k4 : Hp × Int32 × Int32 → Option Hp) (o0 : Nat) (x1 : Int32) (x2 : Int32) (x3 : Int32) (x4 : Int32) (k156 : Hp × Int32 → Option Hp) (q : Hp × Int32) : Option Hp :=
  if x4 ≤ q.2 then (Option.bind (p_X9_numbersOf q.1 x3) fun r4 => nv (x1 + (1 + r4.1)) fun v5 => k4 (r4.2, v5, x2 + 1)) else (Option.bind (p_X8_serve q.1 (o0 + 10)) fun r6 => k156 (r6.2, q.2 + 1))
def q_X9_perform_60 (k4 : Hp × Int32 × Int32 → Option Hp) (h : Hp) (o0 : Nat) (x1 : Int32) (x2 : Int32) (x3 : Int32) (x4 : Int32) : Option Hp :=
  if x3 = 8 then (Option.bind (p_X8_addSender h (o0 + 10) (o0 + 1) (x1 + 1)) fun r7 => Option.bind (p_X9_numbersOf r7 x3) fun r8 => nv (x1 + (1 + r8.1)) fun v9 => k4 (r8.2, v9, x2 + 1)) else (if x3 = 9 then (Option.bind (p_X3_orderAt h (o0 + 1) (x1 + 2)) fun r10 => Option.bind (p_X3_orderAt r10.2 (o0 + 1) (x1 + 3)) fun r11 => Option.bind (p_X8_arrive r11.2 (o0 + 10) x4 r10.1 r11.1 (-2)) fun r12 => Option.bind (p_X9_numbersOf r12.2 x3) fun r13 => nv (x1 + (1 + r13.1)) fun v14 => k4 (r13.2, v14, x2 + 1)) else (if x3 = 10 then (nv (hp h (o0 + 10) 7 ((h (o0 + 10) 7) + x4)) fun h15 => Option.bind (p_X9_numbersOf h15 x3) fun r16 => nv (x1 + (1 + r16.1)) fun v17 => k4 (r16.2, v17, x2 + 1)) else (if x3 = 11 then (lp (b_X9_perform_156 k4 o0 x1 x2 x3 x4) FU (h, 0)) else (if x3 = 12 then (lp (b_X9_perform_189 k4 o0 x1 x2 x3 x4) FU (h, 0)) else (Option.bind (p_X9_numbersOf h x3) fun r18 => nv (x1 + (1 + r18.1)) fun v19 => k4 (r18.2, v19, x2 + 1))))))
def b_X9_perform_4 (o0 : Nat) (k4 : Hp × Int32 × Int32 → Option Hp) (q : Hp × Int32 × Int32) : Option Hp :=
  if (q.1 (o0 + 1) 9) ≤ q.2.2 then (some q.1) else (Option.bind (p_X3_orderAt q.1 (o0 + 1) q.2.1) fun r20 => Option.bind (p_X3_orderAt r20.2 (o0 + 1) (q.2.1 + 1)) fun r21 => if r20.1 < 0 then (q_X9_perform_60 k4 r21.2 o0 q.2.1 q.2.2 r20.1 r21.1) else (if 8 ≤ r20.1 then (q_X9_perform_60 k4 r21.2 o0 q.2.1 q.2.2 r20.1 r21.1) else (if ib r20.1 8 then (nv (hp r21.2 (o0 + 10 + 1) (Int32.toNatClampNeg r20.1) r21.1) fun h23 => Option.bind (p_X9_numbersOf h23 r20.1) fun r24 => nv (q.2.1 + (1 + r24.1)) fun v25 => k4 (r24.2, v25, q.2.2 + 1)) else none)))
def p_X9_perform (h : Hp) (o0 : Nat) : Option Hp :=
  lp (b_X9_perform_4 o0) FU (h, 0, 0)
set_option maxRecDepth 4000 in
theorem s_X9_perform_189 {p : Program} {l : Launch} {e : Env} {s : State} {m : MethodId} {args : Array Value} {below : List Frame} {meth : Method} {c : Code} {G : GT} (cx : CX p s m args c cX9_perform 6 RX9 G) (hr : meth.sig.returnType = none) (hlk : meth.locks = false) (o0 : Nat) (x1 : Int32) (x2 : Int32) (x3 : Int32) (x4 : Int32) (hk_o0 : kd o0 = 8) (k4 : Hp × Int32 × Int32 → Option Hp) (hk4 : ∀ (q : Hp × Int32 × Int32), PF p l e (rmc 6 141) s m args below meth c 6 G 0 0 (QV below G args s) 4 [some (.ref (gad G o0)), some (.int q.2.1), some (.int q.2.2), none, none, none] [] q.1 (k4 q)) : ∀ (n : Nat) (q : Hp × Int32), PF p l e (rmc 6 141) s m args below meth c 6 G 0 0 (QV below G args s) 189 [some (.ref (gad G o0)), some (.int x1), some (.int x2), some (.int x3), some (.int x4), some (.int q.2)] [] q.1 (lp (b_X9_perform_189 k4 o0 x1 x2 x3 x4) n q) := by
  refine f_lp (lvf := fun (q : Hp × Int32) => [some (.ref (gad G o0)), some (.int x1), some (.int x2), some (.int x3), some (.int x4), some (.int q.2)]) (hf := fun (q : Hp × Int32) => q.1) (fun k189 hk189 q => ?_)
  show PF p l e (rmc 6 141) s m args below meth c 6 G 0 0 (QV below G args s) 189 [some (.ref (gad G o0)), some (.int x1), some (.int x2), some (.int x3), some (.int x4), some (.int q.2)] [] q.1 (b_X9_perform_189 k4 o0 x1 x2 x3 x4 k189 q)
  unfold b_X9_perform_189
  refine f_iload (pc := 189) cx dX9_perform_189 rfl ?_
  refine f_iload (pc := 191) cx dX9_perform_191 rfl ?_
  refine f_icmp_ge (pc := 193) (tgt := 209) cx dX9_perform_193 (by decide) (fun _ => ?_) (fun _ => ?_)
  · refine f_iload_n (pc := 209) cx dX9_perform_209 rfl rfl ?_
    refine f_iconst (pc := 210) cx dX9_perform_210 kc_iconst_1 ?_
    refine f_iload_n (pc := 211) cx dX9_perform_211 rfl rfl ?_
    refine f_bind (fun r1 hr1 => ?_)
    refine k_X9_266 (pc := 212) cx (c_X9_numbersOf l G _ x3 r1 hr1) ⟨by decide, by decide⟩ ⟨Nat.zero_le _, Nat.zero_le _⟩ (Nat.le_of_ble_eq_true rfl) dX9_perform_212 ?_
    refine f_iadd (pc := 215) cx dX9_perform_215 ?_
    refine f_iadd (pc := 216) cx dX9_perform_216 ?_
    refine f_nvi (fun v2 => ?_)
    refine f_istore1 (pc := 217) cx dX9_perform_217 (by decide) rfl ?_
    refine f_iinc2 (pc := 218) cx dX9_perform_218 kc_iconst_1 (by decide) rfl ?_
    refine f_goto (pc := 221) (tgt := 4) cx dX9_perform_221 (by decide) ?_
    exact f_weak (LSb.s (LSb.s (LSb.s (LSb.n (LSb.n (LSb.n LSb.e)))))) (hk4 (r1.2, v2, x2 + 1))
  · refine f_aload_n (pc := 196) cx dX9_perform_196 rfl rfl ?_
    refine g_X9_19 (pc := 197) cx hk_o0 dX9_perform_197 ?_
    refine f_bind (fun r3 hr3 => ?_)
    refine k_X9_82 (pc := 200) cx (c_X8_tick l G _ (o0 + 10) (kf_8_1 hk_o0) r3 hr3) (kf_8_1 hk_o0) ⟨by decide, by decide⟩ ⟨Nat.zero_le _, Nat.zero_le _⟩ (Nat.le_of_ble_eq_true rfl) dX9_perform_200 ?_
    refine f_iinc5 (pc := 203) cx dX9_perform_203 kc_iconst_1 (by decide) rfl ?_
    refine f_goto (pc := 206) (tgt := 189) cx dX9_perform_206 (by decide) ?_
    exact f_weak (LSb.s (LSb.s (LSb.s (LSb.s (LSb.s (LSb.s LSb.e)))))) (hk189 (r3, q.2 + 1))
set_option maxRecDepth 4000 in
theorem s_X9_perform_156 {p : Program} {l : Launch} {e : Env} {s : State} {m : MethodId} {args : Array Value} {below : List Frame} {meth : Method} {c : Code} {G : GT} (cx : CX p s m args c cX9_perform 6 RX9 G) (hr : meth.sig.returnType = none) (hlk : meth.locks = false) (o0 : Nat) (x1 : Int32) (x2 : Int32) (x3 : Int32) (x4 : Int32) (hk_o0 : kd o0 = 8) (k4 : Hp × Int32 × Int32 → Option Hp) (hk4 : ∀ (q : Hp × Int32 × Int32), PF p l e (rmc 6 141) s m args below meth c 6 G 0 0 (QV below G args s) 4 [some (.ref (gad G o0)), some (.int q.2.1), some (.int q.2.2), none, none, none] [] q.1 (k4 q)) : ∀ (n : Nat) (q : Hp × Int32), PF p l e (rmc 6 141) s m args below meth c 6 G 0 0 (QV below G args s) 156 [some (.ref (gad G o0)), some (.int x1), some (.int x2), some (.int x3), some (.int x4), some (.int q.2)] [] q.1 (lp (b_X9_perform_156 k4 o0 x1 x2 x3 x4) n q) := by
  refine f_lp (lvf := fun (q : Hp × Int32) => [some (.ref (gad G o0)), some (.int x1), some (.int x2), some (.int x3), some (.int x4), some (.int q.2)]) (hf := fun (q : Hp × Int32) => q.1) (fun k156 hk156 q => ?_)
  show PF p l e (rmc 6 141) s m args below meth c 6 G 0 0 (QV below G args s) 156 [some (.ref (gad G o0)), some (.int x1), some (.int x2), some (.int x3), some (.int x4), some (.int q.2)] [] q.1 (b_X9_perform_156 k4 o0 x1 x2 x3 x4 k156 q)
  unfold b_X9_perform_156
  refine f_iload (pc := 156) cx dX9_perform_156 rfl ?_
  refine f_iload (pc := 158) cx dX9_perform_158 rfl ?_
  refine f_icmp_ge (pc := 160) (tgt := 177) cx dX9_perform_160 (by decide) (fun _ => ?_) (fun _ => ?_)
  · refine f_goto (pc := 177) (tgt := 209) cx dX9_perform_177 (by decide) ?_
    refine f_iload_n (pc := 209) cx dX9_perform_209 rfl rfl ?_
    refine f_iconst (pc := 210) cx dX9_perform_210 kc_iconst_1 ?_
    refine f_iload_n (pc := 211) cx dX9_perform_211 rfl rfl ?_
    refine f_bind (fun r4 hr4 => ?_)
    refine k_X9_266 (pc := 212) cx (c_X9_numbersOf l G _ x3 r4 hr4) ⟨by decide, by decide⟩ ⟨Nat.zero_le _, Nat.zero_le _⟩ (Nat.le_of_ble_eq_true rfl) dX9_perform_212 ?_
    refine f_iadd (pc := 215) cx dX9_perform_215 ?_
    refine f_iadd (pc := 216) cx dX9_perform_216 ?_
    refine f_nvi (fun v5 => ?_)
    refine f_istore1 (pc := 217) cx dX9_perform_217 (by decide) rfl ?_
    refine f_iinc2 (pc := 218) cx dX9_perform_218 kc_iconst_1 (by decide) rfl ?_
    refine f_goto (pc := 221) (tgt := 4) cx dX9_perform_221 (by decide) ?_
    exact f_weak (LSb.s (LSb.s (LSb.s (LSb.n (LSb.n (LSb.n LSb.e)))))) (hk4 (r4.2, v5, x2 + 1))
  · refine f_aload_n (pc := 163) cx dX9_perform_163 rfl rfl ?_
    refine g_X9_19 (pc := 164) cx hk_o0 dX9_perform_164 ?_
    refine f_bind (fun r6 hr6 => ?_)
    refine k_X9_68 (pc := 167) cx (c_X8_serve l G _ (o0 + 10) (kf_8_1 hk_o0) r6 hr6) (kf_8_1 hk_o0) ⟨by decide, by decide⟩ ⟨Nat.zero_le _, Nat.zero_le _⟩ (Nat.le_of_ble_eq_true rfl) dX9_perform_167 ?_
    refine f_pop (pc := 170) cx dX9_perform_170 rfl ?_
    refine f_iinc5 (pc := 171) cx dX9_perform_171 kc_iconst_1 (by decide) rfl ?_
    refine f_goto (pc := 174) (tgt := 156) cx dX9_perform_174 (by decide) ?_
    exact f_weak (LSb.s (LSb.s (LSb.s (LSb.s (LSb.s (LSb.s LSb.e)))))) (hk156 (r6.2, q.2 + 1))
set_option maxRecDepth 4000 in
theorem s_X9_perform_60 {p : Program} {l : Launch} {e : Env} {s : State} {m : MethodId} {args : Array Value} {below : List Frame} {meth : Method} {c : Code} {G : GT} (cx : CX p s m args c cX9_perform 6 RX9 G) (hr : meth.sig.returnType = none) (hlk : meth.locks = false) (h : Hp) (o0 : Nat) (x1 : Int32) (x2 : Int32) (x3 : Int32) (x4 : Int32) (hk_o0 : kd o0 = 8) (k4 : Hp × Int32 × Int32 → Option Hp) (hk4 : ∀ (q : Hp × Int32 × Int32), PF p l e (rmc 6 141) s m args below meth c 6 G 0 0 (QV below G args s) 4 [some (.ref (gad G o0)), some (.int q.2.1), some (.int q.2.2), none, none, none] [] q.1 (k4 q)) : PF p l e (rmc 6 141) s m args below meth c 6 G 0 0 (QV below G args s) 60 [some (.ref (gad G o0)), some (.int x1), some (.int x2), some (.int x3), some (.int x4), none] [] h (q_X9_perform_60 k4 h o0 x1 x2 x3 x4) := by
  unfold q_X9_perform_60
  refine f_iload_n (pc := 60) cx dX9_perform_60 rfl rfl ?_
  refine f_bipush (pc := 61) cx dX9_perform_61 kc_bipush_8 ?_
  refine f_icmp_ne (pc := 63) (tgt := 83) cx dX9_perform_63 (by decide) (fun _ => ?_) (fun _ => ?_)
  · refine f_aload_n (pc := 66) cx dX9_perform_66 rfl rfl ?_
    refine g_X9_19 (pc := 67) cx hk_o0 dX9_perform_67 ?_
    refine f_aload_n (pc := 70) cx dX9_perform_70 rfl rfl ?_
    refine g_X9_10 (pc := 71) cx hk_o0 dX9_perform_71 ?_
    refine f_iload_n (pc := 74) cx dX9_perform_74 rfl rfl ?_
    refine f_iconst (pc := 75) cx dX9_perform_75 kc_iconst_1 ?_
    refine f_iadd (pc := 76) cx dX9_perform_76 ?_
    refine f_bind (fun r7 hr7 => ?_)
    refine k_X9_262 (pc := 77) cx (c_X8_addSender l G _ (o0 + 10) (o0 + 1) (x1 + 1) (kf_8_1 hk_o0) (kf_8_0 hk_o0) r7 hr7) (kf_8_1 hk_o0) ⟨by decide, by decide⟩ ⟨Nat.zero_le _, Nat.zero_le _⟩ (Nat.le_of_ble_eq_true rfl) dX9_perform_77 ?_
    refine f_goto (pc := 80) (tgt := 209) cx dX9_perform_80 (by decide) ?_
    refine f_iload_n (pc := 209) cx dX9_perform_209 rfl rfl ?_
    refine f_iconst (pc := 210) cx dX9_perform_210 kc_iconst_1 ?_
    refine f_iload_n (pc := 211) cx dX9_perform_211 rfl rfl ?_
    refine f_bind (fun r8 hr8 => ?_)
    refine k_X9_266 (pc := 212) cx (c_X9_numbersOf l G _ x3 r8 hr8) ⟨by decide, by decide⟩ ⟨Nat.zero_le _, Nat.zero_le _⟩ (Nat.le_of_ble_eq_true rfl) dX9_perform_212 ?_
    refine f_iadd (pc := 215) cx dX9_perform_215 ?_
    refine f_iadd (pc := 216) cx dX9_perform_216 ?_
    refine f_nvi (fun v9 => ?_)
    refine f_istore1 (pc := 217) cx dX9_perform_217 (by decide) rfl ?_
    refine f_iinc2 (pc := 218) cx dX9_perform_218 kc_iconst_1 (by decide) rfl ?_
    refine f_goto (pc := 221) (tgt := 4) cx dX9_perform_221 (by decide) ?_
    exact f_weak (LSb.s (LSb.s (LSb.s (LSb.n (LSb.n (LSb.n LSb.e)))))) (hk4 (r8.2, v9, x2 + 1))
  · refine f_iload_n (pc := 83) cx dX9_perform_83 rfl rfl ?_
    refine f_bipush (pc := 84) cx dX9_perform_84 kc_bipush_9 ?_
    refine f_icmp_ne (pc := 86) (tgt := 124) cx dX9_perform_86 (by decide) (fun _ => ?_) (fun _ => ?_)
    · refine f_aload_n (pc := 89) cx dX9_perform_89 rfl rfl ?_
      refine g_X9_19 (pc := 90) cx hk_o0 dX9_perform_90 ?_
      refine f_iload (pc := 93) cx dX9_perform_93 rfl ?_
      refine f_aload_n (pc := 95) cx dX9_perform_95 rfl rfl ?_
      refine g_X9_10 (pc := 96) cx hk_o0 dX9_perform_96 ?_
      refine f_iload_n (pc := 99) cx dX9_perform_99 rfl rfl ?_
      refine f_iconst (pc := 100) cx dX9_perform_100 kc_iconst_2 ?_
      refine f_iadd (pc := 101) cx dX9_perform_101 ?_
      refine f_bind (fun r10 hr10 => ?_)
      refine k_X9_259 (pc := 102) cx (c_X3_orderAt l G _ (o0 + 1) (x1 + 2) (kf_8_0 hk_o0) r10 hr10) (kf_8_0 hk_o0) ⟨by decide, by decide⟩ ⟨Nat.zero_le _, Nat.zero_le _⟩ (Nat.le_of_ble_eq_true rfl) dX9_perform_102 ?_
      refine f_aload_n (pc := 105) cx dX9_perform_105 rfl rfl ?_
      refine g_X9_10 (pc := 106) cx hk_o0 dX9_perform_106 ?_
      refine f_iload_n (pc := 109) cx dX9_perform_109 rfl rfl ?_
      refine f_iconst (pc := 110) cx dX9_perform_110 kc_iconst_3 ?_
      refine f_iadd (pc := 111) cx dX9_perform_111 ?_
      refine f_bind (fun r11 hr11 => ?_)
      refine k_X9_259 (pc := 112) cx (c_X3_orderAt l G _ (o0 + 1) (x1 + 3) (kf_8_0 hk_o0) r11 hr11) (kf_8_0 hk_o0) ⟨by decide, by decide⟩ ⟨Nat.zero_le _, Nat.zero_le _⟩ (Nat.le_of_ble_eq_true rfl) dX9_perform_112 ?_
      refine f_bipush (pc := 115) cx dX9_perform_115 kc_bipush_m2 ?_
      refine f_bind (fun r12 hr12 => ?_)
      refine k_X9_60 (pc := 117) cx (c_X8_arrive l G _ (o0 + 10) x4 r10.1 r11.1 (-2) (kf_8_1 hk_o0) r12 hr12) (kf_8_1 hk_o0) ⟨by decide, by decide⟩ ⟨Nat.zero_le _, Nat.zero_le _⟩ (Nat.le_of_ble_eq_true rfl) dX9_perform_117 ?_
      refine f_pop (pc := 120) cx dX9_perform_120 rfl ?_
      refine f_goto (pc := 121) (tgt := 209) cx dX9_perform_121 (by decide) ?_
      refine f_iload_n (pc := 209) cx dX9_perform_209 rfl rfl ?_
      refine f_iconst (pc := 210) cx dX9_perform_210 kc_iconst_1 ?_
      refine f_iload_n (pc := 211) cx dX9_perform_211 rfl rfl ?_
      refine f_bind (fun r13 hr13 => ?_)
      refine k_X9_266 (pc := 212) cx (c_X9_numbersOf l G _ x3 r13 hr13) ⟨by decide, by decide⟩ ⟨Nat.zero_le _, Nat.zero_le _⟩ (Nat.le_of_ble_eq_true rfl) dX9_perform_212 ?_
      refine f_iadd (pc := 215) cx dX9_perform_215 ?_
      refine f_iadd (pc := 216) cx dX9_perform_216 ?_
      refine f_nvi (fun v14 => ?_)
      refine f_istore1 (pc := 217) cx dX9_perform_217 (by decide) rfl ?_
      refine f_iinc2 (pc := 218) cx dX9_perform_218 kc_iconst_1 (by decide) rfl ?_
      refine f_goto (pc := 221) (tgt := 4) cx dX9_perform_221 (by decide) ?_
      exact f_weak (LSb.s (LSb.s (LSb.s (LSb.n (LSb.n (LSb.n LSb.e)))))) (hk4 (r13.2, v14, x2 + 1))
    · refine f_iload_n (pc := 124) cx dX9_perform_124 rfl rfl ?_
      refine f_bipush (pc := 125) cx dX9_perform_125 kc_bipush_10 ?_
      refine f_icmp_ne (pc := 127) (tgt := 147) cx dX9_perform_127 (by decide) (fun _ => ?_) (fun _ => ?_)
      · refine f_aload_n (pc := 130) cx dX9_perform_130 rfl rfl ?_
        refine g_X9_19 (pc := 131) cx hk_o0 dX9_perform_131 ?_
        refine f_dup (pc := 134) cx dX9_perform_134 rfl ?_
        refine g_X9_64 (pc := 135) cx (kf_8_1 hk_o0) dX9_perform_135 ?_
        refine f_iload (pc := 138) cx dX9_perform_138 rfl ?_
        refine f_iadd (pc := 140) cx dX9_perform_140 ?_
        refine u_X9_64 (pc := 141) cx (kf_8_1 hk_o0) dX9_perform_141 ?_
        refine f_nvh (fun h15 => ?_)
        refine f_goto (pc := 144) (tgt := 209) cx dX9_perform_144 (by decide) ?_
        refine f_iload_n (pc := 209) cx dX9_perform_209 rfl rfl ?_
        refine f_iconst (pc := 210) cx dX9_perform_210 kc_iconst_1 ?_
        refine f_iload_n (pc := 211) cx dX9_perform_211 rfl rfl ?_
        refine f_bind (fun r16 hr16 => ?_)
        refine k_X9_266 (pc := 212) cx (c_X9_numbersOf l G _ x3 r16 hr16) ⟨by decide, by decide⟩ ⟨Nat.zero_le _, Nat.zero_le _⟩ (Nat.le_of_ble_eq_true rfl) dX9_perform_212 ?_
        refine f_iadd (pc := 215) cx dX9_perform_215 ?_
        refine f_iadd (pc := 216) cx dX9_perform_216 ?_
        refine f_nvi (fun v17 => ?_)
        refine f_istore1 (pc := 217) cx dX9_perform_217 (by decide) rfl ?_
        refine f_iinc2 (pc := 218) cx dX9_perform_218 kc_iconst_1 (by decide) rfl ?_
        refine f_goto (pc := 221) (tgt := 4) cx dX9_perform_221 (by decide) ?_
        exact f_weak (LSb.s (LSb.s (LSb.s (LSb.n (LSb.n (LSb.n LSb.e)))))) (hk4 (r16.2, v17, x2 + 1))
      · refine f_iload_n (pc := 147) cx dX9_perform_147 rfl rfl ?_
        refine f_bipush (pc := 148) cx dX9_perform_148 kc_bipush_11 ?_
        refine f_icmp_ne (pc := 150) (tgt := 180) cx dX9_perform_150 (by decide) (fun _ => ?_) (fun _ => ?_)
        · refine f_iconst (pc := 153) cx dX9_perform_153 kc_iconst_0 ?_
          refine f_istore5 (pc := 154) cx dX9_perform_154 (by decide) rfl ?_
          exact f_weak (LSb.s (LSb.s (LSb.s (LSb.s (LSb.s (LSb.s LSb.e)))))) (s_X9_perform_156 cx hr hlk o0 x1 x2 x3 x4 hk_o0 k4 hk4 FU (h, 0))
        · refine f_iload_n (pc := 180) cx dX9_perform_180 rfl rfl ?_
          refine f_bipush (pc := 181) cx dX9_perform_181 kc_bipush_12 ?_
          refine f_icmp_ne (pc := 183) (tgt := 209) cx dX9_perform_183 (by decide) (fun _ => ?_) (fun _ => ?_)
          · refine f_iconst (pc := 186) cx dX9_perform_186 kc_iconst_0 ?_
            refine f_istore5 (pc := 187) cx dX9_perform_187 (by decide) rfl ?_
            exact f_weak (LSb.s (LSb.s (LSb.s (LSb.s (LSb.s (LSb.s LSb.e)))))) (s_X9_perform_189 cx hr hlk o0 x1 x2 x3 x4 hk_o0 k4 hk4 FU (h, 0))
          · refine f_iload_n (pc := 209) cx dX9_perform_209 rfl rfl ?_
            refine f_iconst (pc := 210) cx dX9_perform_210 kc_iconst_1 ?_
            refine f_iload_n (pc := 211) cx dX9_perform_211 rfl rfl ?_
            refine f_bind (fun r18 hr18 => ?_)
            refine k_X9_266 (pc := 212) cx (c_X9_numbersOf l G _ x3 r18 hr18) ⟨by decide, by decide⟩ ⟨Nat.zero_le _, Nat.zero_le _⟩ (Nat.le_of_ble_eq_true rfl) dX9_perform_212 ?_
            refine f_iadd (pc := 215) cx dX9_perform_215 ?_
            refine f_iadd (pc := 216) cx dX9_perform_216 ?_
            refine f_nvi (fun v19 => ?_)
            refine f_istore1 (pc := 217) cx dX9_perform_217 (by decide) rfl ?_
            refine f_iinc2 (pc := 218) cx dX9_perform_218 kc_iconst_1 (by decide) rfl ?_
            refine f_goto (pc := 221) (tgt := 4) cx dX9_perform_221 (by decide) ?_
            exact f_weak (LSb.s (LSb.s (LSb.s (LSb.n (LSb.n (LSb.n LSb.e)))))) (hk4 (r18.2, v19, x2 + 1))
set_option maxRecDepth 4000 in
theorem s_X9_perform_4 {p : Program} {l : Launch} {e : Env} {s : State} {m : MethodId} {args : Array Value} {below : List Frame} {meth : Method} {c : Code} {G : GT} (cx : CX p s m args c cX9_perform 6 RX9 G) (hr : meth.sig.returnType = none) (hlk : meth.locks = false) (o0 : Nat) (hk_o0 : kd o0 = 8) : ∀ (n : Nat) (q : Hp × Int32 × Int32), PF p l e (rmc 6 141) s m args below meth c 6 G 0 0 (QV below G args s) 4 [some (.ref (gad G o0)), some (.int q.2.1), some (.int q.2.2), none, none, none] [] q.1 (lp (b_X9_perform_4 o0) n q) := by
  refine f_lp (lvf := fun (q : Hp × Int32 × Int32) => [some (.ref (gad G o0)), some (.int q.2.1), some (.int q.2.2), none, none, none]) (hf := fun (q : Hp × Int32 × Int32) => q.1) (fun k4 hk4 q => ?_)
  show PF p l e (rmc 6 141) s m args below meth c 6 G 0 0 (QV below G args s) 4 [some (.ref (gad G o0)), some (.int q.2.1), some (.int q.2.2), none, none, none] [] q.1 (b_X9_perform_4 o0 k4 q)
  unfold b_X9_perform_4
  refine f_iload_n (pc := 4) cx dX9_perform_4 rfl rfl ?_
  refine f_aload_n (pc := 5) cx dX9_perform_5 rfl rfl ?_
  refine g_X9_10 (pc := 6) cx hk_o0 dX9_perform_6 ?_
  refine g_X9_50 (pc := 9) cx (kf_8_0 hk_o0) dX9_perform_9 ?_
  refine f_icmp_ge (pc := 12) (tgt := 224) cx dX9_perform_12 (by decide) (fun _ => ?_) (fun _ => ?_)
  · exact f_vret cx hr hlk dX9_perform_224
  · refine f_aload_n (pc := 15) cx dX9_perform_15 rfl rfl ?_
    refine g_X9_10 (pc := 16) cx hk_o0 dX9_perform_16 ?_
    refine f_iload_n (pc := 19) cx dX9_perform_19 rfl rfl ?_
    refine f_bind (fun r20 hr20 => ?_)
    refine k_X9_259 (pc := 20) cx (c_X3_orderAt l G _ (o0 + 1) q.2.1 (kf_8_0 hk_o0) r20 hr20) (kf_8_0 hk_o0) ⟨by decide, by decide⟩ ⟨Nat.zero_le _, Nat.zero_le _⟩ (Nat.le_of_ble_eq_true rfl) dX9_perform_20 ?_
    refine f_istore3 (pc := 23) cx dX9_perform_23 (by decide) rfl ?_
    refine f_aload_n (pc := 24) cx dX9_perform_24 rfl rfl ?_
    refine g_X9_10 (pc := 25) cx hk_o0 dX9_perform_25 ?_
    refine f_iload_n (pc := 28) cx dX9_perform_28 rfl rfl ?_
    refine f_iconst (pc := 29) cx dX9_perform_29 kc_iconst_1 ?_
    refine f_iadd (pc := 30) cx dX9_perform_30 ?_
    refine f_bind (fun r21 hr21 => ?_)
    refine k_X9_259 (pc := 31) cx (c_X3_orderAt l G _ (o0 + 1) (q.2.1 + 1) (kf_8_0 hk_o0) r21 hr21) (kf_8_0 hk_o0) ⟨by decide, by decide⟩ ⟨Nat.zero_le _, Nat.zero_le _⟩ (Nat.le_of_ble_eq_true rfl) dX9_perform_31 ?_
    refine f_istore4 (pc := 34) cx dX9_perform_34 (by decide) rfl ?_
    refine f_iload_n (pc := 36) cx dX9_perform_36 rfl rfl ?_
    refine f_if_lt (pc := 37) (tgt := 60) cx dX9_perform_37 (by decide) (fun _ => ?_) (fun _ => ?_)
    · exact f_weak (LSb.s (LSb.s (LSb.s (LSb.s (LSb.s (LSb.n LSb.e)))))) (s_X9_perform_60 cx hr hlk _ o0 q.2.1 q.2.2 r20.1 r21.1 hk_o0 k4 hk4)
    · refine f_iload_n (pc := 40) cx dX9_perform_40 rfl rfl ?_
      refine f_bipush (pc := 41) cx dX9_perform_41 kc_bipush_8 ?_
      refine f_icmp_ge (pc := 43) (tgt := 60) cx dX9_perform_43 (by decide) (fun _ => ?_) (fun _ => ?_)
      · exact f_weak (LSb.s (LSb.s (LSb.s (LSb.s (LSb.s (LSb.n LSb.e)))))) (s_X9_perform_60 cx hr hlk _ o0 q.2.1 q.2.2 r20.1 r21.1 hk_o0 k4 hk4)
      · refine f_aload_n (pc := 46) cx dX9_perform_46 rfl rfl ?_
        refine g_X9_19 (pc := 47) cx hk_o0 dX9_perform_47 ?_
        refine g_X9_122 (pc := 50) cx (kf_8_1 hk_o0) dX9_perform_50 ?_
        refine f_iload_n (pc := 53) cx dX9_perform_53 rfl rfl ?_
        refine f_iload (pc := 54) cx dX9_perform_54 rfl ?_
        refine f_need (fun c22 => ?_)
        refine f_iast (pc := 56) (n := 8) cx (kf_7_0 (kf_8_1 hk_o0)) (by decide) c22 dX9_perform_56 ?_
        refine f_nvh (fun h23 => ?_)
        refine f_goto (pc := 57) (tgt := 209) cx dX9_perform_57 (by decide) ?_
        refine f_iload_n (pc := 209) cx dX9_perform_209 rfl rfl ?_
        refine f_iconst (pc := 210) cx dX9_perform_210 kc_iconst_1 ?_
        refine f_iload_n (pc := 211) cx dX9_perform_211 rfl rfl ?_
        refine f_bind (fun r24 hr24 => ?_)
        refine k_X9_266 (pc := 212) cx (c_X9_numbersOf l G _ r20.1 r24 hr24) ⟨by decide, by decide⟩ ⟨Nat.zero_le _, Nat.zero_le _⟩ (Nat.le_of_ble_eq_true rfl) dX9_perform_212 ?_
        refine f_iadd (pc := 215) cx dX9_perform_215 ?_
        refine f_iadd (pc := 216) cx dX9_perform_216 ?_
        refine f_nvi (fun v25 => ?_)
        refine f_istore1 (pc := 217) cx dX9_perform_217 (by decide) rfl ?_
        refine f_iinc2 (pc := 218) cx dX9_perform_218 kc_iconst_1 (by decide) rfl ?_
        refine f_goto (pc := 221) (tgt := 4) cx dX9_perform_221 (by decide) ?_
        exact f_weak (LSb.s (LSb.s (LSb.s (LSb.n (LSb.n (LSb.n LSb.e)))))) (hk4 (r24.2, v25, q.2.2 + 1))
set_option maxRecDepth 4000 in
theorem s_X9_perform {p : Program} {l : Launch} {e : Env} {s : State} {m : MethodId} {args : Array Value} {below : List Frame} {meth : Method} {c : Code} {G : GT} (cx : CX p s m args c cX9_perform 6 RX9 G) (hr : meth.sig.returnType = none) (hlk : meth.locks = false) (h : Hp) (o0 : Nat) (hk_o0 : kd o0 = 8) : PF p l e (rmc 6 141) s m args below meth c 6 G 0 0 (QV below G args s) 0 [some (.ref (gad G o0)), none, none, none, none, none] [] h (p_X9_perform h o0) := by
  unfold p_X9_perform
  refine f_iconst (pc := 0) cx dX9_perform_0 kc_iconst_0 ?_
  refine f_istore1 (pc := 1) cx dX9_perform_1 (by decide) rfl ?_
  refine f_iconst (pc := 2) cx dX9_perform_2 kc_iconst_0 ?_
  refine f_istore2 (pc := 3) cx dX9_perform_3 (by decide) rfl ?_
  exact f_weak (LSb.s (LSb.s (LSb.s (LSb.n (LSb.n (LSb.n LSb.e)))))) (s_X9_perform_4 cx hr hlk o0 hk_o0 FU (h, 0, 0))
set_option maxRecDepth 4000 in
theorem c_X9_perform (l : Launch) (G : GT) (h : Hp) (o0 : Nat) (hk_o0 : kd o0 = 8) : CtV l G yX9_perform cX9_perform 6 none 6 141 [.ref (gad G o0)] h (p_X9_perform h o0) := fun a ha => Ct.of (lv := [some (.ref (gad G o0)), none, none, none, none, none]) (by decide) rfl (Nat.le_of_ble_eq_true rfl) rfl (fun p e s m args below meth c cx hr hlk => s_X9_perform cx hr hlk h o0 hk_o0 a ha)
