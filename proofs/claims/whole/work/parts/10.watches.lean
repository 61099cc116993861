theorem kc_bipush_6 : (Int8.ofInt (6)).toInt32 = 6 := by decide
theorem kc_bipush_13 : (Int8.ofInt (13)).toInt32 = 13 := by decide
theorem kc_iconst_3 : Int32.ofInt (3) = 3 := by decide
theorem kt_1 : Int32.ofNat (tbl 1).length = 19 := by decide
theorem kt_2 : Int32.ofNat (tbl 2).length = 19 := by decide
theorem dX7_add_0 : decode cX7_add 0 = .ok (.aload_n 0, 1) := by decide +kernel
theorem dX7_add_1 : decode cX7_add 1 = .ok (.getfield 21, 3) := by decide +kernel
theorem dX7_add_4 : decode cX7_add 4 = .ok (.istore_n 3, 1) := by decide +kernel
theorem dX7_add_5 : decode cX7_add 5 = .ok (.iload_n 3, 1) := by decide +kernel
theorem dX7_add_6 : decode cX7_add 6 = .ok (.bipush 6, 2) := by decide +kernel
theorem dX7_add_8 : decode cX7_add 8 = .ok (.if_icmp .lt 6, 3) := by decide +kernel
theorem dX7_add_11 : decode cX7_add 11 = .ok (.bipush (-2), 2) := by decide +kernel
theorem dX7_add_13 : decode cX7_add 13 = .ok (.ireturn, 1) := by decide +kernel
theorem dX7_add_14 : decode cX7_add 14 = .ok (.aload_n 0, 1) := by decide +kernel
theorem dX7_add_15 : decode cX7_add 15 = .ok (.getfield 9, 3) := by decide +kernel
theorem dX7_add_18 : decode cX7_add 18 = .ok (.iload_n 3, 1) := by decide +kernel
theorem dX7_add_19 : decode cX7_add 19 = .ok (.iload_n 1, 1) := by decide +kernel
theorem dX7_add_20 : decode cX7_add 20 = .ok (.iastore, 1) := by decide +kernel
theorem dX7_add_21 : decode cX7_add 21 = .ok (.aload_n 0, 1) := by decide +kernel
theorem dX7_add_22 : decode cX7_add 22 = .ok (.getfield 15, 3) := by decide +kernel
theorem dX7_add_25 : decode cX7_add 25 = .ok (.iload_n 3, 1) := by decide +kernel
theorem dX7_add_26 : decode cX7_add 26 = .ok (.iload_n 2, 1) := by decide +kernel
theorem dX7_add_27 : decode cX7_add 27 = .ok (.iastore, 1) := by decide +kernel
theorem dX7_add_28 : decode cX7_add 28 = .ok (.aload_n 0, 1) := by decide +kernel
theorem dX7_add_29 : decode cX7_add 29 = .ok (.getfield 18, 3) := by decide +kernel
theorem dX7_add_32 : decode cX7_add 32 = .ok (.iload_n 3, 1) := by decide +kernel
theorem dX7_add_33 : decode cX7_add 33 = .ok (.iconst 0, 1) := by decide +kernel
theorem dX7_add_34 : decode cX7_add 34 = .ok (.iastore, 1) := by decide +kernel
theorem dX7_add_35 : decode cX7_add 35 = .ok (.aload_n 0, 1) := by decide +kernel
theorem dX7_add_36 : decode cX7_add 36 = .ok (.dup, 1) := by decide +kernel
theorem dX7_add_37 : decode cX7_add 37 = .ok (.getfield 21, 3) := by decide +kernel
theorem dX7_add_40 : decode cX7_add 40 = .ok (.iconst 1, 1) := by decide +kernel
theorem dX7_add_41 : decode cX7_add 41 = .ok (.iadd, 1) := by decide +kernel
theorem dX7_add_42 : decode cX7_add 42 = .ok (.putfield 21, 3) := by decide +kernel
theorem dX7_add_45 : decode cX7_add 45 = .ok (.iload_n 3, 1) := by decide +kernel
theorem dX7_add_46 : decode cX7_add 46 = .ok (.ireturn, 1) := by decide +kernel
theorem dX7_tell_0 : decode cX7_tell 0 = .ok (.iload_n 1, 1) := by decide +kernel
theorem dX7_tell_1 : decode cX7_tell 1 = .ok (.ifCond .lt 26, 3) := by decide +kernel
theorem dX7_tell_4 : decode cX7_tell 4 = .ok (.iload_n 1, 1) := by decide +kernel
theorem dX7_tell_5 : decode cX7_tell 5 = .ok (.aload_n 0, 1) := by decide +kernel
theorem dX7_tell_6 : decode cX7_tell 6 = .ok (.getfield 21, 3) := by decide +kernel
theorem dX7_tell_9 : decode cX7_tell 9 = .ok (.if_icmp .ge 18, 3) := by decide +kernel
theorem dX7_tell_12 : decode cX7_tell 12 = .ok (.iload_n 1, 1) := by decide +kernel
theorem dX7_tell_13 : decode cX7_tell 13 = .ok (.bipush 6, 2) := by decide +kernel
theorem dX7_tell_15 : decode cX7_tell 15 = .ok (.if_icmp .ge 12, 3) := by decide +kernel
theorem dX7_tell_18 : decode cX7_tell 18 = .ok (.aload_n 0, 1) := by decide +kernel
theorem dX7_tell_19 : decode cX7_tell 19 = .ok (.getfield 18, 3) := by decide +kernel
theorem dX7_tell_22 : decode cX7_tell 22 = .ok (.iload_n 1, 1) := by decide +kernel
theorem dX7_tell_23 : decode cX7_tell 23 = .ok (.iaload, 1) := by decide +kernel
theorem dX7_tell_24 : decode cX7_tell 24 = .ok (.goto 5, 3) := by decide +kernel
theorem dX7_tell_27 : decode cX7_tell 27 = .ok (.bipush (-2), 2) := by decide +kernel
theorem dX7_tell_29 : decode cX7_tell 29 = .ok (.ireturn, 1) := by decide +kernel
theorem dX7_note_0 : decode cX7_note 0 = .ok (.iconst 0, 1) := by decide +kernel
theorem dX7_note_1 : decode cX7_note 1 = .ok (.istore_n 3, 1) := by decide +kernel
theorem dX7_note_2 : decode cX7_note 2 = .ok (.iload_n 3, 1) := by decide +kernel
theorem dX7_note_3 : decode cX7_note 3 = .ok (.aload_n 0, 1) := by decide +kernel
theorem dX7_note_4 : decode cX7_note 4 = .ok (.getfield 21, 3) := by decide +kernel
theorem dX7_note_7 : decode cX7_note 7 = .ok (.if_icmp .ge 106, 3) := by decide +kernel
theorem dX7_note_10 : decode cX7_note 10 = .ok (.iload_n 1, 1) := by decide +kernel
theorem dX7_note_11 : decode cX7_note 11 = .ok (.ifCond .eq 8, 3) := by decide +kernel
theorem dX7_note_14 : decode cX7_note 14 = .ok (.iload_n 1, 1) := by decide +kernel
theorem dX7_note_15 : decode cX7_note 15 = .ok (.iconst 3, 1) := by decide +kernel
theorem dX7_note_16 : decode cX7_note 16 = .ok (.if_icmp .ne 23, 3) := by decide +kernel
theorem dX7_note_19 : decode cX7_note 19 = .ok (.iload_n 2, 1) := by decide +kernel
theorem dX7_note_20 : decode cX7_note 20 = .ok (.aload_n 0, 1) := by decide +kernel
theorem dX7_note_21 : decode cX7_note 21 = .ok (.getfield 15, 3) := by decide +kernel
theorem dX7_note_24 : decode cX7_note 24 = .ok (.iload_n 3, 1) := by decide +kernel
theorem dX7_note_25 : decode cX7_note 25 = .ok (.iaload, 1) := by decide +kernel
theorem dX7_note_26 : decode cX7_note 26 = .ok (.if_icmp .lt 7, 3) := by decide +kernel
theorem dX7_note_29 : decode cX7_note 29 = .ok (.iconst 1, 1) := by decide +kernel
theorem dX7_note_30 : decode cX7_note 30 = .ok (.goto 4, 3) := by decide +kernel
theorem dX7_note_33 : decode cX7_note 33 = .ok (.iconst 0, 1) := by decide +kernel
theorem dX7_note_34 : decode cX7_note 34 = .ok (.istore 4, 2) := by decide +kernel
theorem dX7_note_36 : decode cX7_note 36 = .ok (.goto 46, 3) := by decide +kernel
theorem dX7_note_39 : decode cX7_note 39 = .ok (.iload_n 1, 1) := by decide +kernel
theorem dX7_note_40 : decode cX7_note 40 = .ok (.iconst 2, 1) := by decide +kernel
theorem dX7_note_41 : decode cX7_note 41 = .ok (.if_icmp .ne 24, 3) := by decide +kernel
theorem dX7_note_44 : decode cX7_note 44 = .ok (.iload_n 2, 1) := by decide +kernel
theorem dX7_note_45 : decode cX7_note 45 = .ok (.aload_n 0, 1) := by decide +kernel
theorem dX7_note_46 : decode cX7_note 46 = .ok (.getfield 15, 3) := by decide +kernel
theorem dX7_note_49 : decode cX7_note 49 = .ok (.iload_n 3, 1) := by decide +kernel
theorem dX7_note_50 : decode cX7_note 50 = .ok (.iaload, 1) := by decide +kernel
theorem dX7_note_51 : decode cX7_note 51 = .ok (.ineg, 1) := by decide +kernel
theorem dX7_note_52 : decode cX7_note 52 = .ok (.if_icmp .ge 7, 3) := by decide +kernel
theorem dX7_note_55 : decode cX7_note 55 = .ok (.iconst 1, 1) := by decide +kernel
theorem dX7_note_56 : decode cX7_note 56 = .ok (.goto 4, 3) := by decide +kernel
theorem dX7_note_59 : decode cX7_note 59 = .ok (.iconst 0, 1) := by decide +kernel
theorem dX7_note_60 : decode cX7_note 60 = .ok (.istore 4, 2) := by decide +kernel
theorem dX7_note_62 : decode cX7_note 62 = .ok (.goto 20, 3) := by decide +kernel
theorem dX7_note_65 : decode cX7_note 65 = .ok (.iload_n 2, 1) := by decide +kernel
theorem dX7_note_66 : decode cX7_note 66 = .ok (.aload_n 0, 1) := by decide +kernel
theorem dX7_note_67 : decode cX7_note 67 = .ok (.getfield 15, 3) := by decide +kernel
theorem dX7_note_70 : decode cX7_note 70 = .ok (.iload_n 3, 1) := by decide +kernel
theorem dX7_note_71 : decode cX7_note 71 = .ok (.iaload, 1) := by decide +kernel
theorem dX7_note_72 : decode cX7_note 72 = .ok (.if_icmp .ne 7, 3) := by decide +kernel
theorem dX7_note_75 : decode cX7_note 75 = .ok (.iconst 1, 1) := by decide +kernel
theorem dX7_note_76 : decode cX7_note 76 = .ok (.goto 4, 3) := by decide +kernel
theorem dX7_note_79 : decode cX7_note 79 = .ok (.iconst 0, 1) := by decide +kernel
theorem dX7_note_80 : decode cX7_note 80 = .ok (.istore 4, 2) := by decide +kernel
theorem dX7_note_82 : decode cX7_note 82 = .ok (.iload 4, 2) := by decide +kernel
theorem dX7_note_84 : decode cX7_note 84 = .ok (.ifCond .eq 23, 3) := by decide +kernel
theorem dX7_note_87 : decode cX7_note 87 = .ok (.aload_n 0, 1) := by decide +kernel
theorem dX7_note_88 : decode cX7_note 88 = .ok (.getfield 9, 3) := by decide +kernel
theorem dX7_note_91 : decode cX7_note 91 = .ok (.iload_n 3, 1) := by decide +kernel
theorem dX7_note_92 : decode cX7_note 92 = .ok (.iaload, 1) := by decide +kernel
theorem dX7_note_93 : decode cX7_note 93 = .ok (.iload_n 1, 1) := by decide +kernel
theorem dX7_note_94 : decode cX7_note 94 = .ok (.if_icmp .ne 13, 3) := by decide +kernel
theorem dX7_note_97 : decode cX7_note 97 = .ok (.aload_n 0, 1) := by decide +kernel
theorem dX7_note_98 : decode cX7_note 98 = .ok (.getfield 18, 3) := by decide +kernel
theorem dX7_note_101 : decode cX7_note 101 = .ok (.iload_n 3, 1) := by decide +kernel
theorem dX7_note_102 : decode cX7_note 102 = .ok (.dup2, 1) := by decide +kernel
theorem dX7_note_103 : decode cX7_note 103 = .ok (.iaload, 1) := by decide +kernel
theorem dX7_note_104 : decode cX7_note 104 = .ok (.iconst 1, 1) := by decide +kernel
theorem dX7_note_105 : decode cX7_note 105 = .ok (.iadd, 1) := by decide +kernel
theorem dX7_note_106 : decode cX7_note 106 = .ok (.iastore, 1) := by decide +kernel
theorem dX7_note_107 : decode cX7_note 107 = .ok (.iinc 3 1, 3) := by decide +kernel
theorem dX7_note_110 : decode cX7_note 110 = .ok (.goto (-108), 3) := by decide +kernel
theorem dX7_note_113 : decode cX7_note 113 = .ok (.return_, 1) := by decide +kernel
theorem dX9_numbersOf_0 : decode cX9_numbersOf 0 = .ok (.iload_n 0, 1) := by decide +kernel
theorem dX9_numbersOf_1 : decode cX9_numbersOf 1 = .ok (.ifCond .lt 9, 3) := by decide +kernel
theorem dX9_numbersOf_4 : decode cX9_numbersOf 4 = .ok (.iload_n 0, 1) := by decide +kernel
theorem dX9_numbersOf_5 : decode cX9_numbersOf 5 = .ok (.bipush 13, 2) := by decide +kernel
theorem dX9_numbersOf_7 : decode cX9_numbersOf 7 = .ok (.if_icmp .lt 7, 3) := by decide +kernel
theorem dX9_numbersOf_10 : decode cX9_numbersOf 10 = .ok (.iconst 0, 1) := by decide +kernel
theorem dX9_numbersOf_11 : decode cX9_numbersOf 11 = .ok (.goto 16, 3) := by decide +kernel
theorem dX9_numbersOf_14 : decode cX9_numbersOf 14 = .ok (.getstatic 269, 3) := by decide +kernel
theorem dX9_numbersOf_17 : decode cX9_numbersOf 17 = .ok (.iload_n 0, 1) := by decide +kernel
theorem dX9_numbersOf_18 : decode cX9_numbersOf 18 = .ok (.iconst 1, 1) := by decide +kernel
theorem dX9_numbersOf_19 : decode cX9_numbersOf 19 = .ok (.iadd, 1) := by decide +kernel
theorem dX9_numbersOf_20 : decode cX9_numbersOf 20 = .ok (.iaload, 1) := by decide +kernel
theorem dX9_numbersOf_21 : decode cX9_numbersOf 21 = .ok (.getstatic 269, 3) := by decide +kernel
theorem dX9_numbersOf_24 : decode cX9_numbersOf 24 = .ok (.iload_n 0, 1) := by decide +kernel
theorem dX9_numbersOf_25 : decode cX9_numbersOf 25 = .ok (.iaload, 1) := by decide +kernel
theorem dX9_numbersOf_26 : decode cX9_numbersOf 26 = .ok (.isub, 1) := by decide +kernel
theorem dX9_numbersOf_27 : decode cX9_numbersOf 27 = .ok (.ireturn, 1) := by decide +kernel
theorem dX9_fits_0 : decode cX9_fits 0 = .ok (.iload_n 0, 1) := by decide +kernel
theorem dX9_fits_1 : decode cX9_fits 1 = .ok (.ifCond .lt 41, 3) := by decide +kernel
theorem dX9_fits_4 : decode cX9_fits 4 = .ok (.iload_n 0, 1) := by decide +kernel
theorem dX9_fits_5 : decode cX9_fits 5 = .ok (.getstatic 272, 3) := by decide +kernel
theorem dX9_fits_8 : decode cX9_fits 8 = .ok (.arraylength, 1) := by decide +kernel
theorem dX9_fits_9 : decode cX9_fits 9 = .ok (.if_icmp .ge 33, 3) := by decide +kernel
theorem dX9_fits_12 : decode cX9_fits 12 = .ok (.iload_n 0, 1) := by decide +kernel
theorem dX9_fits_13 : decode cX9_fits 13 = .ok (.getstatic 275, 3) := by decide +kernel
theorem dX9_fits_16 : decode cX9_fits 16 = .ok (.arraylength, 1) := by decide +kernel
theorem dX9_fits_17 : decode cX9_fits 17 = .ok (.if_icmp .ge 25, 3) := by decide +kernel
theorem dX9_fits_20 : decode cX9_fits 20 = .ok (.iload_n 1, 1) := by decide +kernel
theorem dX9_fits_21 : decode cX9_fits 21 = .ok (.getstatic 272, 3) := by decide +kernel
theorem dX9_fits_24 : decode cX9_fits 24 = .ok (.iload_n 0, 1) := by decide +kernel
theorem dX9_fits_25 : decode cX9_fits 25 = .ok (.iaload, 1) := by decide +kernel
theorem dX9_fits_26 : decode cX9_fits 26 = .ok (.if_icmp .lt 16, 3) := by decide +kernel
theorem dX9_fits_29 : decode cX9_fits 29 = .ok (.iload_n 1, 1) := by decide +kernel
theorem dX9_fits_30 : decode cX9_fits 30 = .ok (.getstatic 275, 3) := by decide +kernel
theorem dX9_fits_33 : decode cX9_fits 33 = .ok (.iload_n 0, 1) := by decide +kernel
theorem dX9_fits_34 : decode cX9_fits 34 = .ok (.iaload, 1) := by decide +kernel
theorem dX9_fits_35 : decode cX9_fits 35 = .ok (.if_icmp .gt 7, 3) := by decide +kernel
theorem dX9_fits_38 : decode cX9_fits 38 = .ok (.iconst 1, 1) := by decide +kernel
theorem dX9_fits_39 : decode cX9_fits 39 = .ok (.goto 4, 3) := by decide +kernel
theorem dX9_fits_42 : decode cX9_fits 42 = .ok (.iconst 0, 1) := by decide +kernel
theorem dX9_fits_43 : decode cX9_fits 43 = .ok (.ireturn, 1) := by decide +kernel
theorem dX9_remainder_0 : decode cX9_remainder 0 = .ok (.iload_n 1, 1) := by decide +kernel
theorem dX9_remainder_1 : decode cX9_remainder 1 = .ok (.ifCond .le 9, 3) := by decide +kernel
theorem dX9_remainder_4 : decode cX9_remainder 4 = .ok (.iload_n 0, 1) := by decide +kernel
theorem dX9_remainder_5 : decode cX9_remainder 5 = .ok (.iload_n 1, 1) := by decide +kernel
theorem dX9_remainder_6 : decode cX9_remainder 6 = .ok (.irem, 1) := by decide +kernel
theorem dX9_remainder_7 : decode cX9_remainder 7 = .ok (.goto 4, 3) := by decide +kernel
theorem dX9_remainder_10 : decode cX9_remainder 10 = .ok (.iconst 0, 1) := by decide +kernel
theorem dX9_remainder_11 : decode cX9_remainder 11 = .ok (.ireturn, 1) := by decide +kernel
theorem dX9_quotientUp_0 : decode cX9_quotientUp 0 = .ok (.iload_n 1, 1) := by decide +kernel
theorem dX9_quotientUp_1 : decode cX9_quotientUp 1 = .ok (.ifCond .le 13, 3) := by decide +kernel
theorem dX9_quotientUp_4 : decode cX9_quotientUp 4 = .ok (.iload_n 0, 1) := by decide +kernel
theorem dX9_quotientUp_5 : decode cX9_quotientUp 5 = .ok (.iload_n 1, 1) := by decide +kernel
theorem dX9_quotientUp_6 : decode cX9_quotientUp 6 = .ok (.iadd, 1) := by decide +kernel
theorem dX9_quotientUp_7 : decode cX9_quotientUp 7 = .ok (.iconst 1, 1) := by decide +kernel
theorem dX9_quotientUp_8 : decode cX9_quotientUp 8 = .ok (.isub, 1) := by decide +kernel
theorem dX9_quotientUp_9 : decode cX9_quotientUp 9 = .ok (.iload_n 1, 1) := by decide +kernel
theorem dX9_quotientUp_10 : decode cX9_quotientUp 10 = .ok (.idiv, 1) := by decide +kernel
theorem dX9_quotientUp_11 : decode cX9_quotientUp 11 = .ok (.goto 4, 3) := by decide +kernel
theorem dX9_quotientUp_14 : decode cX9_quotientUp 14 = .ok (.iconst 0, 1) := by decide +kernel
theorem dX9_quotientUp_15 : decode cX9_quotientUp 15 = .ok (.ireturn, 1) := by decide +kernel
theorem dX9_quotientDown_0 : decode cX9_quotientDown 0 = .ok (.iload_n 1, 1) := by decide +kernel
theorem dX9_quotientDown_1 : decode cX9_quotientDown 1 = .ok (.ifCond .le 9, 3) := by decide +kernel
theorem dX9_quotientDown_4 : decode cX9_quotientDown 4 = .ok (.iload_n 0, 1) := by decide +kernel
theorem dX9_quotientDown_5 : decode cX9_quotientDown 5 = .ok (.iload_n 1, 1) := by decide +kernel
theorem dX9_quotientDown_6 : decode cX9_quotientDown 6 = .ok (.idiv, 1) := by decide +kernel
theorem dX9_quotientDown_7 : decode cX9_quotientDown 7 = .ok (.goto 4, 3) := by decide +kernel
theorem dX9_quotientDown_10 : decode cX9_quotientDown 10 = .ok (.iconst 0, 1) := by decide +kernel
theorem dX9_quotientDown_11 : decode cX9_quotientDown 11 = .ok (.ireturn, 1) := by decide +kernel
def p_X7_add (h : Hp) (o0 : Nat) (x1 : Int32) (x2 : Int32) : Option (Int32 × Hp) :=
  nv (h o0 3) fun v1 => if v1 < 6 then (if ib v1 6 then (nv (hp h (o0 + 1) (Int32.toNatClampNeg v1) x1) fun h3 => if ib v1 6 then (nv (hp h3 (o0 + 2) (Int32.toNatClampNeg v1) x2) fun h5 => if ib v1 6 then (nv (hp h5 (o0 + 3) (Int32.toNatClampNeg v1) 0) fun h7 => nv (hp h7 o0 3 ((h7 o0 3) + 1)) fun h8 => some (v1, h8)) else none) else none) else none) else (some ((-2), h))
set_option maxRecDepth 4000 in
theorem s_X7_add {p : Program} {l : Launch} {e : Env} {s : State} {m : MethodId} {args : Array Value} {below : List Frame} {meth : Method} {c : Code} {G : GT} (cx : CX p s m args c cX7_add 4 RX7 G) (hr : meth.sig.returnType = (some .int)) (hlk : meth.locks = false) (h : Hp) (o0 : Nat) (x1 : Int32) (x2 : Int32) (hk_o0 : kd o0 = 6) : PF p l e (rmc 0 0) s m args below meth c 4 G 0 0 (QI below G args s) 0 [some (.ref (gad G o0)), some (.int x1), some (.int x2), none] [] h (p_X7_add h o0 x1 x2) := by
  unfold p_X7_add
  refine f_aload_n (pc := 0) cx dX7_add_0 rfl rfl ?_
  refine g_X7_21 (pc := 1) cx hk_o0 dX7_add_1 ?_
  refine f_nvi (fun v1 => ?_)
  refine f_istore3 (pc := 4) cx dX7_add_4 (by decide) rfl ?_
  refine f_iload_n (pc := 5) cx dX7_add_5 rfl rfl ?_
  refine f_bipush (pc := 6) cx dX7_add_6 kc_bipush_6 ?_
  refine f_icmp_lt (pc := 8) (tgt := 14) cx dX7_add_8 (by decide) (fun _ => ?_) (fun _ => ?_)
  · refine f_aload_n (pc := 14) cx dX7_add_14 rfl rfl ?_
    refine g_X7_9 (pc := 15) cx hk_o0 dX7_add_15 ?_
    refine f_iload_n (pc := 18) cx dX7_add_18 rfl rfl ?_
    refine f_iload_n (pc := 19) cx dX7_add_19 rfl rfl ?_
    refine f_need (fun c2 => ?_)
    refine f_iast (pc := 20) (n := 6) cx (kf_6_0 hk_o0) (by decide) c2 dX7_add_20 ?_
    refine f_nvh (fun h3 => ?_)
    refine f_aload_n (pc := 21) cx dX7_add_21 rfl rfl ?_
    refine g_X7_15 (pc := 22) cx hk_o0 dX7_add_22 ?_
    refine f_iload_n (pc := 25) cx dX7_add_25 rfl rfl ?_
    refine f_iload_n (pc := 26) cx dX7_add_26 rfl rfl ?_
    refine f_need (fun c4 => ?_)
    refine f_iast (pc := 27) (n := 6) cx (kf_6_1 hk_o0) (by decide) c4 dX7_add_27 ?_
    refine f_nvh (fun h5 => ?_)
    refine f_aload_n (pc := 28) cx dX7_add_28 rfl rfl ?_
    refine g_X7_18 (pc := 29) cx hk_o0 dX7_add_29 ?_
    refine f_iload_n (pc := 32) cx dX7_add_32 rfl rfl ?_
    refine f_iconst (pc := 33) cx dX7_add_33 kc_iconst_0 ?_
    refine f_need (fun c6 => ?_)
    refine f_iast (pc := 34) (n := 6) cx (kf_6_2 hk_o0) (by decide) c6 dX7_add_34 ?_
    refine f_nvh (fun h7 => ?_)
    refine f_aload_n (pc := 35) cx dX7_add_35 rfl rfl ?_
    refine f_dup (pc := 36) cx dX7_add_36 rfl ?_
    refine g_X7_21 (pc := 37) cx hk_o0 dX7_add_37 ?_
    refine f_iconst (pc := 40) cx dX7_add_40 kc_iconst_1 ?_
    refine f_iadd (pc := 41) cx dX7_add_41 ?_
    refine u_X7_21 (pc := 42) cx hk_o0 dX7_add_42 ?_
    refine f_nvh (fun h8 => ?_)
    refine f_iload_n (pc := 45) cx dX7_add_45 rfl rfl ?_
    exact f_iret cx hr hlk rfl dX7_add_46
  · refine f_bipush (pc := 11) cx dX7_add_11 kc_bipush_m2 ?_
    exact f_iret cx hr hlk rfl dX7_add_13
set_option maxRecDepth 4000 in
theorem c_X7_add (l : Launch) (G : GT) (h : Hp) (o0 : Nat) (x1 : Int32) (x2 : Int32) (hk_o0 : kd o0 = 6) : CtI l G yX7_add cX7_add 4 (some .int) 0 0 [.ref (gad G o0), .int x1, .int x2] h (p_X7_add h o0 x1 x2) := fun a ha => Ct.of (lv := [some (.ref (gad G o0)), some (.int x1), some (.int x2), none]) (by decide) rfl (Nat.le_of_ble_eq_true rfl) rfl (fun p e s m args below meth c cx hr hlk => s_X7_add cx hr hlk h o0 x1 x2 hk_o0 a ha)
def p_X7_tell (h : Hp) (o0 : Nat) (x1 : Int32) : Option (Int32 × Hp) :=
  if x1 < 0 then (some ((-2), h)) else (if (h o0 3) ≤ x1 then (some ((-2), h)) else (if 6 ≤ x1 then (some ((-2), h)) else (if ib x1 6 then (some (h (o0 + 3) (Int32.toNatClampNeg x1), h)) else none)))
set_option maxRecDepth 4000 in
theorem s_X7_tell {p : Program} {l : Launch} {e : Env} {s : State} {m : MethodId} {args : Array Value} {below : List Frame} {meth : Method} {c : Code} {G : GT} (cx : CX p s m args c cX7_tell 2 RX7 G) (hr : meth.sig.returnType = (some .int)) (hlk : meth.locks = false) (h : Hp) (o0 : Nat) (x1 : Int32) (hk_o0 : kd o0 = 6) : PF p l e (rmc 0 0) s m args below meth c 2 G 0 0 (QI below G args s) 0 [some (.ref (gad G o0)), some (.int x1)] [] h (p_X7_tell h o0 x1) := by
  unfold p_X7_tell
  refine f_iload_n (pc := 0) cx dX7_tell_0 rfl rfl ?_
  refine f_if_lt (pc := 1) (tgt := 27) cx dX7_tell_1 (by decide) (fun _ => ?_) (fun _ => ?_)
  · refine f_bipush (pc := 27) cx dX7_tell_27 kc_bipush_m2 ?_
    exact f_iret cx hr hlk rfl dX7_tell_29
  · refine f_iload_n (pc := 4) cx dX7_tell_4 rfl rfl ?_
    refine f_aload_n (pc := 5) cx dX7_tell_5 rfl rfl ?_
    refine g_X7_21 (pc := 6) cx hk_o0 dX7_tell_6 ?_
    refine f_icmp_ge (pc := 9) (tgt := 27) cx dX7_tell_9 (by decide) (fun _ => ?_) (fun _ => ?_)
    · refine f_bipush (pc := 27) cx dX7_tell_27 kc_bipush_m2 ?_
      exact f_iret cx hr hlk rfl dX7_tell_29
    · refine f_iload_n (pc := 12) cx dX7_tell_12 rfl rfl ?_
      refine f_bipush (pc := 13) cx dX7_tell_13 kc_bipush_6 ?_
      refine f_icmp_ge (pc := 15) (tgt := 27) cx dX7_tell_15 (by decide) (fun _ => ?_) (fun _ => ?_)
      · refine f_bipush (pc := 27) cx dX7_tell_27 kc_bipush_m2 ?_
        exact f_iret cx hr hlk rfl dX7_tell_29
      · refine f_aload_n (pc := 18) cx dX7_tell_18 rfl rfl ?_
        refine g_X7_18 (pc := 19) cx hk_o0 dX7_tell_19 ?_
        refine f_iload_n (pc := 22) cx dX7_tell_22 rfl rfl ?_
        refine f_need (fun c1 => ?_)
        refine f_iald (pc := 23) (n := 6) cx (kf_6_2 hk_o0) (by decide) c1 dX7_tell_23 ?_
        refine f_goto (pc := 24) (tgt := 29) cx dX7_tell_24 (by decide) ?_
        exact f_iret cx hr hlk rfl dX7_tell_29
set_option maxRecDepth 4000 in
theorem c_X7_tell (l : Launch) (G : GT) (h : Hp) (o0 : Nat) (x1 : Int32) (hk_o0 : kd o0 = 6) : CtI l G yX7_tell cX7_tell 2 (some .int) 0 0 [.ref (gad G o0), .int x1] h (p_X7_tell h o0 x1) := fun a ha => Ct.of (lv := [some (.ref (gad G o0)), some (.int x1)]) (by decide) rfl (Nat.le_of_ble_eq_true rfl) rfl (fun p e s m args below meth c cx hr hlk => s_X7_tell cx hr hlk h o0 x1 hk_o0 a ha)
def q_X7_note_82 (k2 : Hp × Int32 → Option Hp) (h : Hp) (o0 : Nat) (x1 : Int32) (x2 : Int32) (x3 : Int32) (x4 : Int32) : Option Hp :=
  if x4 = 0 then (k2 (h, x3 + 1)) else (if ib x3 6 then (if (h (o0 + 1) (Int32.toNatClampNeg x3)) = x1 then (if ib x3 6 then (if ib x3 6 then (nv (hp h (o0 + 3) (Int32.toNatClampNeg x3) ((h (o0 + 3) (Int32.toNatClampNeg x3)) + 1)) fun h4 => k2 (h4, x3 + 1)) else none) else none) else (k2 (h, x3 + 1))) else none)
def q_X7_note_19 (k2 : Hp × Int32 → Option Hp) (h : Hp) (o0 : Nat) (x1 : Int32) (x2 : Int32) (x3 : Int32) : Option Hp :=
  if ib x3 6 then (if x2 < (h (o0 + 2) (Int32.toNatClampNeg x3)) then (q_X7_note_82 k2 h o0 x1 x2 x3 0) else (q_X7_note_82 k2 h o0 x1 x2 x3 1)) else none
def b_X7_note_2 (o0 : Nat) (x1 : Int32) (x2 : Int32) (k2 : Hp × Int32 → Option Hp) (q : Hp × Int32) : Option Hp :=
  if (q.1 o0 3) ≤ q.2 then (some q.1) else (if x1 = 0 then (q_X7_note_19 k2 q.1 o0 x1 x2 q.2) else (if x1 = 3 then (q_X7_note_19 k2 q.1 o0 x1 x2 q.2) else (if x1 = 2 then (if ib q.2 6 then (if (-(q.1 (o0 + 2) (Int32.toNatClampNeg q.2))) ≤ x2 then (q_X7_note_82 k2 q.1 o0 x1 x2 q.2 0) else (q_X7_note_82 k2 q.1 o0 x1 x2 q.2 1)) else none) else (if ib q.2 6 then (if x2 = (q.1 (o0 + 2) (Int32.toNatClampNeg q.2)) then (q_X7_note_82 k2 q.1 o0 x1 x2 q.2 1) else (q_X7_note_82 k2 q.1 o0 x1 x2 q.2 0)) else none))))
def p_X7_note (h : Hp) (o0 : Nat) (x1 : Int32) (x2 : Int32) : Option Hp :=
  lp (b_X7_note_2 o0 x1 x2) FU (h, 0)
set_option maxRecDepth 4000 in
theorem s_X7_note_82 {p : Program} {l : Launch} {e : Env} {s : State} {m : MethodId} {args : Array Value} {below : List Frame} {meth : Method} {c : Code} {G : GT} (cx : CX p s m args c cX7_note 5 RX7 G) (hr : meth.sig.returnType = none) (hlk : meth.locks = false) (h : Hp) (o0 : Nat) (x1 : Int32) (x2 : Int32) (x3 : Int32) (x4 : Int32) (hk_o0 : kd o0 = 6) (k2 : Hp × Int32 → Option Hp) (hk2 : ∀ (q : Hp × Int32), PF p l e (rmc 0 0) s m args below meth c 5 G 0 0 (QV below G args s) 2 [some (.ref (gad G o0)), some (.int x1), some (.int x2), some (.int q.2), none] [] q.1 (k2 q)) : PF p l e (rmc 0 0) s m args below meth c 5 G 0 0 (QV below G args s) 82 [some (.ref (gad G o0)), some (.int x1), some (.int x2), some (.int x3), some (.int x4)] [] h (q_X7_note_82 k2 h o0 x1 x2 x3 x4) := by
  unfold q_X7_note_82
  refine f_iload (pc := 82) cx dX7_note_82 rfl ?_
  refine f_if_eq (pc := 84) (tgt := 107) cx dX7_note_84 (by decide) (fun _ => ?_) (fun _ => ?_)
  · refine f_iinc3 (pc := 107) cx dX7_note_107 kc_iconst_1 (by decide) rfl ?_
    refine f_goto (pc := 110) (tgt := 2) cx dX7_note_110 (by decide) ?_
    exact f_weak (LSb.s (LSb.s (LSb.s (LSb.s (LSb.n LSb.e))))) (hk2 (h, x3 + 1))
  · refine f_aload_n (pc := 87) cx dX7_note_87 rfl rfl ?_
    refine g_X7_9 (pc := 88) cx hk_o0 dX7_note_88 ?_
    refine f_iload_n (pc := 91) cx dX7_note_91 rfl rfl ?_
    refine f_need (fun c1 => ?_)
    refine f_iald (pc := 92) (n := 6) cx (kf_6_0 hk_o0) (by decide) c1 dX7_note_92 ?_
    refine f_iload_n (pc := 93) cx dX7_note_93 rfl rfl ?_
    refine f_icmp_ne (pc := 94) (tgt := 107) cx dX7_note_94 (by decide) (fun _ => ?_) (fun _ => ?_)
    · refine f_aload_n (pc := 97) cx dX7_note_97 rfl rfl ?_
      refine g_X7_18 (pc := 98) cx hk_o0 dX7_note_98 ?_
      refine f_iload_n (pc := 101) cx dX7_note_101 rfl rfl ?_
      refine f_dup2 (pc := 102) cx dX7_note_102 rfl rfl ?_
      refine f_need (fun c2 => ?_)
      refine f_iald (pc := 103) (n := 6) cx (kf_6_2 hk_o0) (by decide) c2 dX7_note_103 ?_
      refine f_iconst (pc := 104) cx dX7_note_104 kc_iconst_1 ?_
      refine f_iadd (pc := 105) cx dX7_note_105 ?_
      refine f_need (fun c3 => ?_)
      refine f_iast (pc := 106) (n := 6) cx (kf_6_2 hk_o0) (by decide) c3 dX7_note_106 ?_
      refine f_nvh (fun h4 => ?_)
      refine f_iinc3 (pc := 107) cx dX7_note_107 kc_iconst_1 (by decide) rfl ?_
      refine f_goto (pc := 110) (tgt := 2) cx dX7_note_110 (by decide) ?_
      exact f_weak (LSb.s (LSb.s (LSb.s (LSb.s (LSb.n LSb.e))))) (hk2 (h4, x3 + 1))
    · refine f_iinc3 (pc := 107) cx dX7_note_107 kc_iconst_1 (by decide) rfl ?_
      refine f_goto (pc := 110) (tgt := 2) cx dX7_note_110 (by decide) ?_
      exact f_weak (LSb.s (LSb.s (LSb.s (LSb.s (LSb.n LSb.e))))) (hk2 (h, x3 + 1))
set_option maxRecDepth 4000 in
theorem s_X7_note_19 {p : Program} {l : Launch} {e : Env} {s : State} {m : MethodId} {args : Array Value} {below : List Frame} {meth : Method} {c : Code} {G : GT} (cx : CX p s m args c cX7_note 5 RX7 G) (hr : meth.sig.returnType = none) (hlk : meth.locks = false) (h : Hp) (o0 : Nat) (x1 : Int32) (x2 : Int32) (x3 : Int32) (hk_o0 : kd o0 = 6) (k2 : Hp × Int32 → Option Hp) (hk2 : ∀ (q : Hp × Int32), PF p l e (rmc 0 0) s m args below meth c 5 G 0 0 (QV below G args s) 2 [some (.ref (gad G o0)), some (.int x1), some (.int x2), some (.int q.2), none] [] q.1 (k2 q)) : PF p l e (rmc 0 0) s m args below meth c 5 G 0 0 (QV below G args s) 19 [some (.ref (gad G o0)), some (.int x1), some (.int x2), some (.int x3), none] [] h (q_X7_note_19 k2 h o0 x1 x2 x3) := by
  unfold q_X7_note_19
  refine f_iload_n (pc := 19) cx dX7_note_19 rfl rfl ?_
  refine f_aload_n (pc := 20) cx dX7_note_20 rfl rfl ?_
  refine g_X7_15 (pc := 21) cx hk_o0 dX7_note_21 ?_
  refine f_iload_n (pc := 24) cx dX7_note_24 rfl rfl ?_
  refine f_need (fun c5 => ?_)
  refine f_iald (pc := 25) (n := 6) cx (kf_6_1 hk_o0) (by decide) c5 dX7_note_25 ?_
  refine f_icmp_lt (pc := 26) (tgt := 33) cx dX7_note_26 (by decide) (fun _ => ?_) (fun _ => ?_)
  · refine f_iconst (pc := 33) cx dX7_note_33 kc_iconst_0 ?_
    refine f_istore4 (pc := 34) cx dX7_note_34 (by decide) rfl ?_
    refine f_goto (pc := 36) (tgt := 82) cx dX7_note_36 (by decide) ?_
    exact f_weak (LSb.s (LSb.s (LSb.s (LSb.s (LSb.s LSb.e))))) (s_X7_note_82 cx hr hlk _ o0 x1 x2 x3 0 hk_o0 k2 hk2)
  · refine f_iconst (pc := 29) cx dX7_note_29 kc_iconst_1 ?_
    refine f_goto (pc := 30) (tgt := 34) cx dX7_note_30 (by decide) ?_
    refine f_istore4 (pc := 34) cx dX7_note_34 (by decide) rfl ?_
    refine f_goto (pc := 36) (tgt := 82) cx dX7_note_36 (by decide) ?_
    exact f_weak (LSb.s (LSb.s (LSb.s (LSb.s (LSb.s LSb.e))))) (s_X7_note_82 cx hr hlk _ o0 x1 x2 x3 1 hk_o0 k2 hk2)
set_option maxRecDepth 4000 in
theorem s_X7_note_2 {p : Program} {l : Launch} {e : Env} {s : State} {m : MethodId} {args : Array Value} {below : List Frame} {meth : Method} {c : Code} {G : GT} (cx : CX p s m args c cX7_note 5 RX7 G) (hr : meth.sig.returnType = none) (hlk : meth.locks = false) (o0 : Nat) (x1 : Int32) (x2 : Int32) (hk_o0 : kd o0 = 6) : ∀ (n : Nat) (q : Hp × Int32), PF p l e (rmc 0 0) s m args below meth c 5 G 0 0 (QV below G args s) 2 [some (.ref (gad G o0)), some (.int x1), some (.int x2), some (.int q.2), none] [] q.1 (lp (b_X7_note_2 o0 x1 x2) n q) := by
  refine f_lp (lvf := fun (q : Hp × Int32) => [some (.ref (gad G o0)), some (.int x1), some (.int x2), some (.int q.2), none]) (hf := fun (q : Hp × Int32) => q.1) (fun k2 hk2 q => ?_)
  show PF p l e (rmc 0 0) s m args below meth c 5 G 0 0 (QV below G args s) 2 [some (.ref (gad G o0)), some (.int x1), some (.int x2), some (.int q.2), none] [] q.1 (b_X7_note_2 o0 x1 x2 k2 q)
  unfold b_X7_note_2
  refine f_iload_n (pc := 2) cx dX7_note_2 rfl rfl ?_
  refine f_aload_n (pc := 3) cx dX7_note_3 rfl rfl ?_
  refine g_X7_21 (pc := 4) cx hk_o0 dX7_note_4 ?_
  refine f_icmp_ge (pc := 7) (tgt := 113) cx dX7_note_7 (by decide) (fun _ => ?_) (fun _ => ?_)
  · exact f_vret cx hr hlk dX7_note_113
  · refine f_iload_n (pc := 10) cx dX7_note_10 rfl rfl ?_
    refine f_if_eq (pc := 11) (tgt := 19) cx dX7_note_11 (by decide) (fun _ => ?_) (fun _ => ?_)
    · exact f_weak (LSb.s (LSb.s (LSb.s (LSb.s (LSb.n LSb.e))))) (s_X7_note_19 cx hr hlk _ o0 x1 x2 q.2 hk_o0 k2 hk2)
    · refine f_iload_n (pc := 14) cx dX7_note_14 rfl rfl ?_
      refine f_iconst (pc := 15) cx dX7_note_15 kc_iconst_3 ?_
      refine f_icmp_ne (pc := 16) (tgt := 39) cx dX7_note_16 (by decide) (fun _ => ?_) (fun _ => ?_)
      · exact f_weak (LSb.s (LSb.s (LSb.s (LSb.s (LSb.n LSb.e))))) (s_X7_note_19 cx hr hlk _ o0 x1 x2 q.2 hk_o0 k2 hk2)
      · refine f_iload_n (pc := 39) cx dX7_note_39 rfl rfl ?_
        refine f_iconst (pc := 40) cx dX7_note_40 kc_iconst_2 ?_
        refine f_icmp_ne (pc := 41) (tgt := 65) cx dX7_note_41 (by decide) (fun _ => ?_) (fun _ => ?_)
        · refine f_iload_n (pc := 44) cx dX7_note_44 rfl rfl ?_
          refine f_aload_n (pc := 45) cx dX7_note_45 rfl rfl ?_
          refine g_X7_15 (pc := 46) cx hk_o0 dX7_note_46 ?_
          refine f_iload_n (pc := 49) cx dX7_note_49 rfl rfl ?_
          refine f_need (fun c6 => ?_)
          refine f_iald (pc := 50) (n := 6) cx (kf_6_1 hk_o0) (by decide) c6 dX7_note_50 ?_
          refine f_ineg (pc := 51) cx dX7_note_51 ?_
          refine f_icmp_ge (pc := 52) (tgt := 59) cx dX7_note_52 (by decide) (fun _ => ?_) (fun _ => ?_)
          · refine f_iconst (pc := 59) cx dX7_note_59 kc_iconst_0 ?_
            refine f_istore4 (pc := 60) cx dX7_note_60 (by decide) rfl ?_
            refine f_goto (pc := 62) (tgt := 82) cx dX7_note_62 (by decide) ?_
            exact f_weak (LSb.s (LSb.s (LSb.s (LSb.s (LSb.s LSb.e))))) (s_X7_note_82 cx hr hlk _ o0 x1 x2 q.2 0 hk_o0 k2 hk2)
          · refine f_iconst (pc := 55) cx dX7_note_55 kc_iconst_1 ?_
            refine f_goto (pc := 56) (tgt := 60) cx dX7_note_56 (by decide) ?_
            refine f_istore4 (pc := 60) cx dX7_note_60 (by decide) rfl ?_
            refine f_goto (pc := 62) (tgt := 82) cx dX7_note_62 (by decide) ?_
            exact f_weak (LSb.s (LSb.s (LSb.s (LSb.s (LSb.s LSb.e))))) (s_X7_note_82 cx hr hlk _ o0 x1 x2 q.2 1 hk_o0 k2 hk2)
        · refine f_iload_n (pc := 65) cx dX7_note_65 rfl rfl ?_
          refine f_aload_n (pc := 66) cx dX7_note_66 rfl rfl ?_
          refine g_X7_15 (pc := 67) cx hk_o0 dX7_note_67 ?_
          refine f_iload_n (pc := 70) cx dX7_note_70 rfl rfl ?_
          refine f_need (fun c7 => ?_)
          refine f_iald (pc := 71) (n := 6) cx (kf_6_1 hk_o0) (by decide) c7 dX7_note_71 ?_
          refine f_icmp_ne (pc := 72) (tgt := 79) cx dX7_note_72 (by decide) (fun _ => ?_) (fun _ => ?_)
          · refine f_iconst (pc := 75) cx dX7_note_75 kc_iconst_1 ?_
            refine f_goto (pc := 76) (tgt := 80) cx dX7_note_76 (by decide) ?_
            refine f_istore4 (pc := 80) cx dX7_note_80 (by decide) rfl ?_
            exact f_weak (LSb.s (LSb.s (LSb.s (LSb.s (LSb.s LSb.e))))) (s_X7_note_82 cx hr hlk _ o0 x1 x2 q.2 1 hk_o0 k2 hk2)
          · refine f_iconst (pc := 79) cx dX7_note_79 kc_iconst_0 ?_
            refine f_istore4 (pc := 80) cx dX7_note_80 (by decide) rfl ?_
            exact f_weak (LSb.s (LSb.s (LSb.s (LSb.s (LSb.s LSb.e))))) (s_X7_note_82 cx hr hlk _ o0 x1 x2 q.2 0 hk_o0 k2 hk2)
set_option maxRecDepth 4000 in
theorem s_X7_note {p : Program} {l : Launch} {e : Env} {s : State} {m : MethodId} {args : Array Value} {below : List Frame} {meth : Method} {c : Code} {G : GT} (cx : CX p s m args c cX7_note 5 RX7 G) (hr : meth.sig.returnType = none) (hlk : meth.locks = false) (h : Hp) (o0 : Nat) (x1 : Int32) (x2 : Int32) (hk_o0 : kd o0 = 6) : PF p l e (rmc 0 0) s m args below meth c 5 G 0 0 (QV below G args s) 0 [some (.ref (gad G o0)), some (.int x1), some (.int x2), none, none] [] h (p_X7_note h o0 x1 x2) := by
  unfold p_X7_note
  refine f_iconst (pc := 0) cx dX7_note_0 kc_iconst_0 ?_
  refine f_istore3 (pc := 1) cx dX7_note_1 (by decide) rfl ?_
  exact f_weak (LSb.s (LSb.s (LSb.s (LSb.s (LSb.n LSb.e))))) (s_X7_note_2 cx hr hlk o0 x1 x2 hk_o0 FU (h, 0))
set_option maxRecDepth 4000 in
theorem c_X7_note (l : Launch) (G : GT) (h : Hp) (o0 : Nat) (x1 : Int32) (x2 : Int32) (hk_o0 : kd o0 = 6) : CtV l G yX7_note cX7_note 5 none 0 0 [.ref (gad G o0), .int x1, .int x2] h (p_X7_note h o0 x1 x2) := fun a ha => Ct.of (lv := [some (.ref (gad G o0)), some (.int x1), some (.int x2), none, none]) (by decide) rfl (Nat.le_of_ble_eq_true rfl) rfl (fun p e s m args below meth c cx hr hlk => s_X7_note cx hr hlk h o0 x1 x2 hk_o0 a ha)
def p_X9_numbersOf (h : Hp) (x0 : Int32) : Option (Int32 × Hp) :=
  if x0 < 0 then (some (0, h)) else (if x0 < 13 then (if ib (x0 + 1) 14 then (if ib x0 14 then (some ((tbv 0 (Int32.toNatClampNeg (x0 + 1))) - (tbv 0 (Int32.toNatClampNeg x0)), h)) else none) else none) else (some (0, h)))
set_option maxRecDepth 4000 in
theorem s_X9_numbersOf {p : Program} {l : Launch} {e : Env} {s : State} {m : MethodId} {args : Array Value} {below : List Frame} {meth : Method} {c : Code} {G : GT} (cx : CX p s m args c cX9_numbersOf 1 RX9 G) (hr : meth.sig.returnType = (some .int)) (hlk : meth.locks = false) (h : Hp) (x0 : Int32) : PF p l e (rmc 0 0) s m args below meth c 1 G 0 0 (QI below G args s) 0 [some (.int x0)] [] h (p_X9_numbersOf h x0) := by
  unfold p_X9_numbersOf
  refine f_iload_n (pc := 0) cx dX9_numbersOf_0 rfl rfl ?_
  refine f_if_lt (pc := 1) (tgt := 10) cx dX9_numbersOf_1 (by decide) (fun _ => ?_) (fun _ => ?_)
  · refine f_iconst (pc := 10) cx dX9_numbersOf_10 kc_iconst_0 ?_
    refine f_goto (pc := 11) (tgt := 27) cx dX9_numbersOf_11 (by decide) ?_
    exact f_iret cx hr hlk rfl dX9_numbersOf_27
  · refine f_iload_n (pc := 4) cx dX9_numbersOf_4 rfl rfl ?_
    refine f_bipush (pc := 5) cx dX9_numbersOf_5 kc_bipush_13 ?_
    refine f_icmp_lt (pc := 7) (tgt := 14) cx dX9_numbersOf_7 (by decide) (fun _ => ?_) (fun _ => ?_)
    · refine g_X9_269 (pc := 14) cx dX9_numbersOf_14 ?_
      refine f_iload_n (pc := 17) cx dX9_numbersOf_17 rfl rfl ?_
      refine f_iconst (pc := 18) cx dX9_numbersOf_18 kc_iconst_1 ?_
      refine f_iadd (pc := 19) cx dX9_numbersOf_19 ?_
      refine f_need (fun c1 => ?_)
      refine f_tald (pc := 20) (j := 0) cx (by decide) c1 dX9_numbersOf_20 ?_
      refine g_X9_269 (pc := 21) cx dX9_numbersOf_21 ?_
      refine f_iload_n (pc := 24) cx dX9_numbersOf_24 rfl rfl ?_
      refine f_need (fun c2 => ?_)
      refine f_tald (pc := 25) (j := 0) cx (by decide) c2 dX9_numbersOf_25 ?_
      refine f_isub (pc := 26) cx dX9_numbersOf_26 ?_
      exact f_iret cx hr hlk rfl dX9_numbersOf_27
    · refine f_iconst (pc := 10) cx dX9_numbersOf_10 kc_iconst_0 ?_
      refine f_goto (pc := 11) (tgt := 27) cx dX9_numbersOf_11 (by decide) ?_
      exact f_iret cx hr hlk rfl dX9_numbersOf_27
set_option maxRecDepth 4000 in
theorem c_X9_numbersOf (l : Launch) (G : GT) (h : Hp) (x0 : Int32) : CtI l G yX9_numbersOf cX9_numbersOf 1 (some .int) 0 0 [.int x0] h (p_X9_numbersOf h x0) := fun a ha => Ct.of (lv := [some (.int x0)]) (by decide) rfl (Nat.le_of_ble_eq_true rfl) rfl (fun p e s m args below meth c cx hr hlk => s_X9_numbersOf cx hr hlk h x0 a ha)
def p_X9_fits (h : Hp) (x0 : Int32) (x1 : Int32) : Option (Int32 × Hp) :=
  if x0 < 0 then (some (0, h)) else (if 19 ≤ x0 then (some (0, h)) else (if 19 ≤ x0 then (some (0, h)) else (if ib x0 19 then (if x1 < (tbv 1 (Int32.toNatClampNeg x0)) then (some (0, h)) else (if ib x0 19 then (if (tbv 2 (Int32.toNatClampNeg x0)) < x1 then (some (0, h)) else (some (1, h))) else none)) else none)))
set_option maxRecDepth 4000 in
theorem s_X9_fits {p : Program} {l : Launch} {e : Env} {s : State} {m : MethodId} {args : Array Value} {below : List Frame} {meth : Method} {c : Code} {G : GT} (cx : CX p s m args c cX9_fits 2 RX9 G) (hr : meth.sig.returnType = (some .boolean)) (hlk : meth.locks = false) (h : Hp) (x0 : Int32) (x1 : Int32) : PF p l e (rmc 0 0) s m args below meth c 2 G 0 0 (QI below G args s) 0 [some (.int x0), some (.int x1)] [] h (p_X9_fits h x0 x1) := by
  unfold p_X9_fits
  refine f_iload_n (pc := 0) cx dX9_fits_0 rfl rfl ?_
  refine f_if_lt (pc := 1) (tgt := 42) cx dX9_fits_1 (by decide) (fun _ => ?_) (fun _ => ?_)
  · refine f_iconst (pc := 42) cx dX9_fits_42 kc_iconst_0 ?_
    exact f_iret cx hr hlk (bb_n bb_0).1 dX9_fits_43
  · refine f_iload_n (pc := 4) cx dX9_fits_4 rfl rfl ?_
    refine g_X9_272 (pc := 5) cx dX9_fits_5 ?_
    refine f_tlen (pc := 8) (j := 1) cx (by decide) kt_1 dX9_fits_8 ?_
    refine f_icmp_ge (pc := 9) (tgt := 42) cx dX9_fits_9 (by decide) (fun _ => ?_) (fun _ => ?_)
    · refine f_iconst (pc := 42) cx dX9_fits_42 kc_iconst_0 ?_
      exact f_iret cx hr hlk (bb_n bb_0).1 dX9_fits_43
    · refine f_iload_n (pc := 12) cx dX9_fits_12 rfl rfl ?_
      refine g_X9_275 (pc := 13) cx dX9_fits_13 ?_
      refine f_tlen (pc := 16) (j := 2) cx (by decide) kt_2 dX9_fits_16 ?_
      refine f_icmp_ge (pc := 17) (tgt := 42) cx dX9_fits_17 (by decide) (fun _ => ?_) (fun _ => ?_)
      · refine f_iconst (pc := 42) cx dX9_fits_42 kc_iconst_0 ?_
        exact f_iret cx hr hlk (bb_n bb_0).1 dX9_fits_43
      · refine f_iload_n (pc := 20) cx dX9_fits_20 rfl rfl ?_
        refine g_X9_272 (pc := 21) cx dX9_fits_21 ?_
        refine f_iload_n (pc := 24) cx dX9_fits_24 rfl rfl ?_
        refine f_need (fun c1 => ?_)
        refine f_tald (pc := 25) (j := 1) cx (by decide) c1 dX9_fits_25 ?_
        refine f_icmp_lt (pc := 26) (tgt := 42) cx dX9_fits_26 (by decide) (fun _ => ?_) (fun _ => ?_)
        · refine f_iconst (pc := 42) cx dX9_fits_42 kc_iconst_0 ?_
          exact f_iret cx hr hlk (bb_n bb_0).1 dX9_fits_43
        · refine f_iload_n (pc := 29) cx dX9_fits_29 rfl rfl ?_
          refine g_X9_275 (pc := 30) cx dX9_fits_30 ?_
          refine f_iload_n (pc := 33) cx dX9_fits_33 rfl rfl ?_
          refine f_need (fun c2 => ?_)
          refine f_tald (pc := 34) (j := 2) cx (by decide) c2 dX9_fits_34 ?_
          refine f_icmp_gt (pc := 35) (tgt := 42) cx dX9_fits_35 (by decide) (fun _ => ?_) (fun _ => ?_)
          · refine f_iconst (pc := 42) cx dX9_fits_42 kc_iconst_0 ?_
            exact f_iret cx hr hlk (bb_n bb_0).1 dX9_fits_43
          · refine f_iconst (pc := 38) cx dX9_fits_38 kc_iconst_1 ?_
            refine f_goto (pc := 39) (tgt := 43) cx dX9_fits_39 (by decide) ?_
            exact f_iret cx hr hlk (bb_n bb_1).1 dX9_fits_43
set_option maxRecDepth 4000 in
theorem c_X9_fits (l : Launch) (G : GT) (h : Hp) (x0 : Int32) (x1 : Int32) : CtI l G yX9_fits cX9_fits 2 (some .boolean) 0 0 [.int x0, .int x1] h (p_X9_fits h x0 x1) := fun a ha => Ct.of (lv := [some (.int x0), some (.int x1)]) (by decide) rfl (Nat.le_of_ble_eq_true rfl) rfl (fun p e s m args below meth c cx hr hlk => s_X9_fits cx hr hlk h x0 x1 a ha)
def p_X9_remainder (h : Hp) (x0 : Int32) (x1 : Int32) : Option (Int32 × Hp) :=
  if x1 ≤ 0 then (some (0, h)) else (if ¬ x1 = 0 then (some (x0 - x0 / x1 * x1, h)) else none)
set_option maxRecDepth 4000 in
theorem s_X9_remainder {p : Program} {l : Launch} {e : Env} {s : State} {m : MethodId} {args : Array Value} {below : List Frame} {meth : Method} {c : Code} {G : GT} (cx : CX p s m args c cX9_remainder 2 RX9 G) (hr : meth.sig.returnType = (some .int)) (hlk : meth.locks = false) (h : Hp) (x0 : Int32) (x1 : Int32) : PF p l e (rmc 0 0) s m args below meth c 2 G 0 0 (QI below G args s) 0 [some (.int x0), some (.int x1)] [] h (p_X9_remainder h x0 x1) := by
  unfold p_X9_remainder
  refine f_iload_n (pc := 0) cx dX9_remainder_0 rfl rfl ?_
  refine f_if_le (pc := 1) (tgt := 10) cx dX9_remainder_1 (by decide) (fun _ => ?_) (fun _ => ?_)
  · refine f_iconst (pc := 10) cx dX9_remainder_10 kc_iconst_0 ?_
    exact f_iret cx hr hlk rfl dX9_remainder_11
  · refine f_iload_n (pc := 4) cx dX9_remainder_4 rfl rfl ?_
    refine f_iload_n (pc := 5) cx dX9_remainder_5 rfl rfl ?_
    refine f_need (fun c1 => ?_)
    refine f_irem (pc := 6) cx dX9_remainder_6 c1 ?_
    refine f_goto (pc := 7) (tgt := 11) cx dX9_remainder_7 (by decide) ?_
    exact f_iret cx hr hlk rfl dX9_remainder_11
set_option maxRecDepth 4000 in
theorem c_X9_remainder (l : Launch) (G : GT) (h : Hp) (x0 : Int32) (x1 : Int32) : CtI l G yX9_remainder cX9_remainder 2 (some .int) 0 0 [.int x0, .int x1] h (p_X9_remainder h x0 x1) := fun a ha => Ct.of (lv := [some (.int x0), some (.int x1)]) (by decide) rfl (Nat.le_of_ble_eq_true rfl) rfl (fun p e s m args below meth c cx hr hlk => s_X9_remainder cx hr hlk h x0 x1 a ha)
def p_X9_quotientUp (h : Hp) (x0 : Int32) (x1 : Int32) : Option (Int32 × Hp) :=
  if x1 ≤ 0 then (some (0, h)) else (if ¬ x1 = 0 then (some (((x0 + x1) - 1) / x1, h)) else none)
set_option maxRecDepth 4000 in
theorem s_X9_quotientUp {p : Program} {l : Launch} {e : Env} {s : State} {m : MethodId} {args : Array Value} {below : List Frame} {meth : Method} {c : Code} {G : GT} (cx : CX p s m args c cX9_quotientUp 2 RX9 G) (hr : meth.sig.returnType = (some .int)) (hlk : meth.locks = false) (h : Hp) (x0 : Int32) (x1 : Int32) : PF p l e (rmc 0 0) s m args below meth c 2 G 0 0 (QI below G args s) 0 [some (.int x0), some (.int x1)] [] h (p_X9_quotientUp h x0 x1) := by
  unfold p_X9_quotientUp
  refine f_iload_n (pc := 0) cx dX9_quotientUp_0 rfl rfl ?_
  refine f_if_le (pc := 1) (tgt := 14) cx dX9_quotientUp_1 (by decide) (fun _ => ?_) (fun _ => ?_)
  · refine f_iconst (pc := 14) cx dX9_quotientUp_14 kc_iconst_0 ?_
    exact f_iret cx hr hlk rfl dX9_quotientUp_15
  · refine f_iload_n (pc := 4) cx dX9_quotientUp_4 rfl rfl ?_
    refine f_iload_n (pc := 5) cx dX9_quotientUp_5 rfl rfl ?_
    refine f_iadd (pc := 6) cx dX9_quotientUp_6 ?_
    refine f_iconst (pc := 7) cx dX9_quotientUp_7 kc_iconst_1 ?_
    refine f_isub (pc := 8) cx dX9_quotientUp_8 ?_
    refine f_iload_n (pc := 9) cx dX9_quotientUp_9 rfl rfl ?_
    refine f_need (fun c1 => ?_)
    refine f_idiv (pc := 10) cx dX9_quotientUp_10 c1 ?_
    refine f_goto (pc := 11) (tgt := 15) cx dX9_quotientUp_11 (by decide) ?_
    exact f_iret cx hr hlk rfl dX9_quotientUp_15
set_option maxRecDepth 4000 in
theorem c_X9_quotientUp (l : Launch) (G : GT) (h : Hp) (x0 : Int32) (x1 : Int32) : CtI l G yX9_quotientUp cX9_quotientUp 2 (some .int) 0 0 [.int x0, .int x1] h (p_X9_quotientUp h x0 x1) := fun a ha => Ct.of (lv := [some (.int x0), some (.int x1)]) (by decide) rfl (Nat.le_of_ble_eq_true rfl) rfl (fun p e s m args below meth c cx hr hlk => s_X9_quotientUp cx hr hlk h x0 x1 a ha)
def p_X9_quotientDown (h : Hp) (x0 : Int32) (x1 : Int32) : Option (Int32 × Hp) :=
  if x1 ≤ 0 then (some (0, h)) else (if ¬ x1 = 0 then (some (x0 / x1, h)) else none)
set_option maxRecDepth 4000 in
theorem s_X9_quotientDown {p : Program} {l : Launch} {e : Env} {s : State} {m : MethodId} {args : Array Value} {below : List Frame} {meth : Method} {c : Code} {G : GT} (cx : CX p s m args c cX9_quotientDown 2 RX9 G) (hr : meth.sig.returnType = (some .int)) (hlk : meth.locks = false) (h : Hp) (x0 : Int32) (x1 : Int32) : PF p l e (rmc 0 0) s m args below meth c 2 G 0 0 (QI below G args s) 0 [some (.int x0), some (.int x1)] [] h (p_X9_quotientDown h x0 x1) := by
  unfold p_X9_quotientDown
  refine f_iload_n (pc := 0) cx dX9_quotientDown_0 rfl rfl ?_
  refine f_if_le (pc := 1) (tgt := 10) cx dX9_quotientDown_1 (by decide) (fun _ => ?_) (fun _ => ?_)
  · refine f_iconst (pc := 10) cx dX9_quotientDown_10 kc_iconst_0 ?_
    exact f_iret cx hr hlk rfl dX9_quotientDown_11
  · refine f_iload_n (pc := 4) cx dX9_quotientDown_4 rfl rfl ?_
    refine f_iload_n (pc := 5) cx dX9_quotientDown_5 rfl rfl ?_
    refine f_need (fun c1 => ?_)
    refine f_idiv (pc := 6) cx dX9_quotientDown_6 c1 ?_
    refine f_goto (pc := 7) (tgt := 11) cx dX9_quotientDown_7 (by decide) ?_
    exact f_iret cx hr hlk rfl dX9_quotientDown_11
set_option maxRecDepth 4000 in
theorem c_X9_quotientDown (l : Launch) (G : GT) (h : Hp) (x0 : Int32) (x1 : Int32) : CtI l G yX9_quotientDown cX9_quotientDown 2 (some .int) 0 0 [.int x0, .int x1] h (p_X9_quotientDown h x0 x1) := fun a ha => Ct.of (lv := [some (.int x0), some (.int x1)]) (by decide) rfl (Nat.le_of_ble_eq_true rfl) rfl (fun p e s m args below meth c cx hr hlk => s_X9_quotientDown cx hr hlk h x0 x1 a ha)
