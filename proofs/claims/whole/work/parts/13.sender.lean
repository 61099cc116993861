theorem kc_bipush_99 : (Int8.ofInt (99)).toInt32 = 99 := by decide
theorem kc_bipush_100 : (Int8.ofInt (100)).toInt32 = 100 := by decide
theorem kc_sipush_2000 : (Int16.ofInt (2000)).toInt32 = 2000 := by decide
theorem kc_sipush_10000 : (Int16.ofInt (10000)).toInt32 = 10000 := by decide
theorem dX5_begin_0 : decode cX5_begin 0 = .ok (.aload_n 0, 1) := by decide +kernel
theorem dX5_begin_1 : decode cX5_begin 1 = .ok (.aload_n 1, 1) := by decide +kernel
theorem dX5_begin_2 : decode cX5_begin 2 = .ok (.iload_n 2, 1) := by decide +kernel
theorem dX5_begin_3 : decode cX5_begin 3 = .ok (.invokevirtual 42, 3) := by decide +kernel
theorem dX5_begin_6 : decode cX5_begin 6 = .ok (.putfield 9, 3) := by decide +kernel
theorem dX5_begin_9 : decode cX5_begin 9 = .ok (.aload_n 0, 1) := by decide +kernel
theorem dX5_begin_10 : decode cX5_begin 10 = .ok (.aload_n 1, 1) := by decide +kernel
theorem dX5_begin_11 : decode cX5_begin 11 = .ok (.iload_n 2, 1) := by decide +kernel
theorem dX5_begin_12 : decode cX5_begin 12 = .ok (.iconst 1, 1) := by decide +kernel
theorem dX5_begin_13 : decode cX5_begin 13 = .ok (.iadd, 1) := by decide +kernel
theorem dX5_begin_14 : decode cX5_begin 14 = .ok (.invokevirtual 42, 3) := by decide +kernel
theorem dX5_begin_17 : decode cX5_begin 17 = .ok (.putfield 15, 3) := by decide +kernel
theorem dX5_begin_20 : decode cX5_begin 20 = .ok (.aload_n 0, 1) := by decide +kernel
theorem dX5_begin_21 : decode cX5_begin 21 = .ok (.bipush 100, 2) := by decide +kernel
theorem dX5_begin_23 : decode cX5_begin 23 = .ok (.aload_n 1, 1) := by decide +kernel
theorem dX5_begin_24 : decode cX5_begin 24 = .ok (.iload_n 2, 1) := by decide +kernel
theorem dX5_begin_25 : decode cX5_begin 25 = .ok (.iconst 2, 1) := by decide +kernel
theorem dX5_begin_26 : decode cX5_begin 26 = .ok (.iadd, 1) := by decide +kernel
theorem dX5_begin_27 : decode cX5_begin 27 = .ok (.invokevirtual 42, 3) := by decide +kernel
theorem dX5_begin_30 : decode cX5_begin 30 = .ok (.imul, 1) := by decide +kernel
theorem dX5_begin_31 : decode cX5_begin 31 = .ok (.putfield 18, 3) := by decide +kernel
theorem dX5_begin_34 : decode cX5_begin 34 = .ok (.aload_n 0, 1) := by decide +kernel
theorem dX5_begin_35 : decode cX5_begin 35 = .ok (.aload_n 1, 1) := by decide +kernel
theorem dX5_begin_36 : decode cX5_begin 36 = .ok (.iload_n 2, 1) := by decide +kernel
theorem dX5_begin_37 : decode cX5_begin 37 = .ok (.iconst 3, 1) := by decide +kernel
theorem dX5_begin_38 : decode cX5_begin 38 = .ok (.iadd, 1) := by decide +kernel
theorem dX5_begin_39 : decode cX5_begin 39 = .ok (.invokevirtual 42, 3) := by decide +kernel
theorem dX5_begin_42 : decode cX5_begin 42 = .ok (.putfield 21, 3) := by decide +kernel
theorem dX5_begin_45 : decode cX5_begin 45 = .ok (.aload_n 0, 1) := by decide +kernel
theorem dX5_begin_46 : decode cX5_begin 46 = .ok (.aload_n 1, 1) := by decide +kernel
theorem dX5_begin_47 : decode cX5_begin 47 = .ok (.iload_n 2, 1) := by decide +kernel
theorem dX5_begin_48 : decode cX5_begin 48 = .ok (.iconst 4, 1) := by decide +kernel
theorem dX5_begin_49 : decode cX5_begin 49 = .ok (.iadd, 1) := by decide +kernel
theorem dX5_begin_50 : decode cX5_begin 50 = .ok (.invokevirtual 42, 3) := by decide +kernel
theorem dX5_begin_53 : decode cX5_begin 53 = .ok (.putfield 24, 3) := by decide +kernel
theorem dX5_begin_56 : decode cX5_begin 56 = .ok (.aload_n 0, 1) := by decide +kernel
theorem dX5_begin_57 : decode cX5_begin 57 = .ok (.iconst 0, 1) := by decide +kernel
theorem dX5_begin_58 : decode cX5_begin 58 = .ok (.putfield 27, 3) := by decide +kernel
theorem dX5_begin_61 : decode cX5_begin 61 = .ok (.aload_n 0, 1) := by decide +kernel
theorem dX5_begin_62 : decode cX5_begin 62 = .ok (.iconst 0, 1) := by decide +kernel
theorem dX5_begin_63 : decode cX5_begin 63 = .ok (.putfield 30, 3) := by decide +kernel
theorem dX5_begin_66 : decode cX5_begin 66 = .ok (.aload_n 0, 1) := by decide +kernel
theorem dX5_begin_67 : decode cX5_begin 67 = .ok (.bipush (-2), 2) := by decide +kernel
theorem dX5_begin_69 : decode cX5_begin 69 = .ok (.putfield 33, 3) := by decide +kernel
theorem dX5_begin_72 : decode cX5_begin 72 = .ok (.aload_n 0, 1) := by decide +kernel
theorem dX5_begin_73 : decode cX5_begin 73 = .ok (.iconst 0, 1) := by decide +kernel
theorem dX5_begin_74 : decode cX5_begin 74 = .ok (.putfield 36, 3) := by decide +kernel
theorem dX5_begin_77 : decode cX5_begin 77 = .ok (.aload_n 0, 1) := by decide +kernel
theorem dX5_begin_78 : decode cX5_begin 78 = .ok (.iconst 0, 1) := by decide +kernel
theorem dX5_begin_79 : decode cX5_begin 79 = .ok (.putfield 39, 3) := by decide +kernel
theorem dX5_begin_82 : decode cX5_begin 82 = .ok (.return_, 1) := by decide +kernel
theorem dX5_copyFrom_0 : decode cX5_copyFrom 0 = .ok (.aload_n 0, 1) := by decide +kernel
theorem dX5_copyFrom_1 : decode cX5_copyFrom 1 = .ok (.aload_n 1, 1) := by decide +kernel
theorem dX5_copyFrom_2 : decode cX5_copyFrom 2 = .ok (.getfield 9, 3) := by decide +kernel
theorem dX5_copyFrom_5 : decode cX5_copyFrom 5 = .ok (.putfield 9, 3) := by decide +kernel
theorem dX5_copyFrom_8 : decode cX5_copyFrom 8 = .ok (.aload_n 0, 1) := by decide +kernel
theorem dX5_copyFrom_9 : decode cX5_copyFrom 9 = .ok (.aload_n 1, 1) := by decide +kernel
theorem dX5_copyFrom_10 : decode cX5_copyFrom 10 = .ok (.getfield 15, 3) := by decide +kernel
theorem dX5_copyFrom_13 : decode cX5_copyFrom 13 = .ok (.putfield 15, 3) := by decide +kernel
theorem dX5_copyFrom_16 : decode cX5_copyFrom 16 = .ok (.aload_n 0, 1) := by decide +kernel
theorem dX5_copyFrom_17 : decode cX5_copyFrom 17 = .ok (.aload_n 1, 1) := by decide +kernel
theorem dX5_copyFrom_18 : decode cX5_copyFrom 18 = .ok (.getfield 18, 3) := by decide +kernel
theorem dX5_copyFrom_21 : decode cX5_copyFrom 21 = .ok (.putfield 18, 3) := by decide +kernel
theorem dX5_copyFrom_24 : decode cX5_copyFrom 24 = .ok (.aload_n 0, 1) := by decide +kernel
theorem dX5_copyFrom_25 : decode cX5_copyFrom 25 = .ok (.aload_n 1, 1) := by decide +kernel
theorem dX5_copyFrom_26 : decode cX5_copyFrom 26 = .ok (.getfield 21, 3) := by decide +kernel
theorem dX5_copyFrom_29 : decode cX5_copyFrom 29 = .ok (.putfield 21, 3) := by decide +kernel
theorem dX5_copyFrom_32 : decode cX5_copyFrom 32 = .ok (.aload_n 0, 1) := by decide +kernel
theorem dX5_copyFrom_33 : decode cX5_copyFrom 33 = .ok (.aload_n 1, 1) := by decide +kernel
theorem dX5_copyFrom_34 : decode cX5_copyFrom 34 = .ok (.getfield 24, 3) := by decide +kernel
theorem dX5_copyFrom_37 : decode cX5_copyFrom 37 = .ok (.putfield 24, 3) := by decide +kernel
theorem dX5_copyFrom_40 : decode cX5_copyFrom 40 = .ok (.aload_n 0, 1) := by decide +kernel
theorem dX5_copyFrom_41 : decode cX5_copyFrom 41 = .ok (.aload_n 1, 1) := by decide +kernel
theorem dX5_copyFrom_42 : decode cX5_copyFrom 42 = .ok (.getfield 27, 3) := by decide +kernel
theorem dX5_copyFrom_45 : decode cX5_copyFrom 45 = .ok (.putfield 27, 3) := by decide +kernel
theorem dX5_copyFrom_48 : decode cX5_copyFrom 48 = .ok (.aload_n 0, 1) := by decide +kernel
theorem dX5_copyFrom_49 : decode cX5_copyFrom 49 = .ok (.aload_n 1, 1) := by decide +kernel
theorem dX5_copyFrom_50 : decode cX5_copyFrom 50 = .ok (.getfield 30, 3) := by decide +kernel
theorem dX5_copyFrom_53 : decode cX5_copyFrom 53 = .ok (.putfield 30, 3) := by decide +kernel
theorem dX5_copyFrom_56 : decode cX5_copyFrom 56 = .ok (.aload_n 0, 1) := by decide +kernel
theorem dX5_copyFrom_57 : decode cX5_copyFrom 57 = .ok (.aload_n 1, 1) := by decide +kernel
theorem dX5_copyFrom_58 : decode cX5_copyFrom 58 = .ok (.getfield 33, 3) := by decide +kernel
theorem dX5_copyFrom_61 : decode cX5_copyFrom 61 = .ok (.putfield 33, 3) := by decide +kernel
theorem dX5_copyFrom_64 : decode cX5_copyFrom 64 = .ok (.aload_n 0, 1) := by decide +kernel
theorem dX5_copyFrom_65 : decode cX5_copyFrom 65 = .ok (.aload_n 1, 1) := by decide +kernel
theorem dX5_copyFrom_66 : decode cX5_copyFrom 66 = .ok (.getfield 36, 3) := by decide +kernel
theorem dX5_copyFrom_69 : decode cX5_copyFrom 69 = .ok (.putfield 36, 3) := by decide +kernel
theorem dX5_copyFrom_72 : decode cX5_copyFrom 72 = .ok (.aload_n 0, 1) := by decide +kernel
theorem dX5_copyFrom_73 : decode cX5_copyFrom 73 = .ok (.aload_n 1, 1) := by decide +kernel
theorem dX5_copyFrom_74 : decode cX5_copyFrom 74 = .ok (.getfield 39, 3) := by decide +kernel
theorem dX5_copyFrom_77 : decode cX5_copyFrom 77 = .ok (.putfield 39, 3) := by decide +kernel
theorem dX5_copyFrom_80 : decode cX5_copyFrom 80 = .ok (.return_, 1) := by decide +kernel
theorem dX5_tell_0 : decode cX5_tell 0 = .ok (.iload_n 1, 1) := by decide +kernel
theorem dX5_tell_1 : decode cX5_tell 1 = .ok (.tableswitch 96 0 8 #[51, 56, 61, 66, 71, 76, 81, 86, 91], 51) := by decide +kernel
theorem dX5_tell_52 : decode cX5_tell 52 = .ok (.aload_n 0, 1) := by decide +kernel
theorem dX5_tell_53 : decode cX5_tell 53 = .ok (.getfield 9, 3) := by decide +kernel
theorem dX5_tell_56 : decode cX5_tell 56 = .ok (.ireturn, 1) := by decide +kernel
theorem dX5_tell_57 : decode cX5_tell 57 = .ok (.aload_n 0, 1) := by decide +kernel
theorem dX5_tell_58 : decode cX5_tell 58 = .ok (.getfield 15, 3) := by decide +kernel
theorem dX5_tell_61 : decode cX5_tell 61 = .ok (.ireturn, 1) := by decide +kernel
theorem dX5_tell_62 : decode cX5_tell 62 = .ok (.aload_n 0, 1) := by decide +kernel
theorem dX5_tell_63 : decode cX5_tell 63 = .ok (.getfield 18, 3) := by decide +kernel
theorem dX5_tell_66 : decode cX5_tell 66 = .ok (.ireturn, 1) := by decide +kernel
theorem dX5_tell_67 : decode cX5_tell 67 = .ok (.aload_n 0, 1) := by decide +kernel
theorem dX5_tell_68 : decode cX5_tell 68 = .ok (.getfield 21, 3) := by decide +kernel
theorem dX5_tell_71 : decode cX5_tell 71 = .ok (.ireturn, 1) := by decide +kernel
theorem dX5_tell_72 : decode cX5_tell 72 = .ok (.aload_n 0, 1) := by decide +kernel
theorem dX5_tell_73 : decode cX5_tell 73 = .ok (.getfield 24, 3) := by decide +kernel
theorem dX5_tell_76 : decode cX5_tell 76 = .ok (.ireturn, 1) := by decide +kernel
theorem dX5_tell_77 : decode cX5_tell 77 = .ok (.aload_n 0, 1) := by decide +kernel
theorem dX5_tell_78 : decode cX5_tell 78 = .ok (.getfield 27, 3) := by decide +kernel
theorem dX5_tell_81 : decode cX5_tell 81 = .ok (.ireturn, 1) := by decide +kernel
theorem dX5_tell_82 : decode cX5_tell 82 = .ok (.aload_n 0, 1) := by decide +kernel
theorem dX5_tell_83 : decode cX5_tell 83 = .ok (.getfield 30, 3) := by decide +kernel
theorem dX5_tell_86 : decode cX5_tell 86 = .ok (.ireturn, 1) := by decide +kernel
theorem dX5_tell_87 : decode cX5_tell 87 = .ok (.aload_n 0, 1) := by decide +kernel
theorem dX5_tell_88 : decode cX5_tell 88 = .ok (.getfield 33, 3) := by decide +kernel
theorem dX5_tell_91 : decode cX5_tell 91 = .ok (.ireturn, 1) := by decide +kernel
theorem dX5_tell_92 : decode cX5_tell 92 = .ok (.aload_n 0, 1) := by decide +kernel
theorem dX5_tell_93 : decode cX5_tell 93 = .ok (.getfield 36, 3) := by decide +kernel
theorem dX5_tell_96 : decode cX5_tell 96 = .ok (.ireturn, 1) := by decide +kernel
theorem dX5_tell_97 : decode cX5_tell 97 = .ok (.iconst (-1), 1) := by decide +kernel
theorem dX5_tell_98 : decode cX5_tell 98 = .ok (.ireturn, 1) := by decide +kernel
theorem dX5_hasRoom_0 : decode cX5_hasRoom 0 = .ok (.aload_n 0, 1) := by decide +kernel
theorem dX5_hasRoom_1 : decode cX5_hasRoom 1 = .ok (.getfield 27, 3) := by decide +kernel
theorem dX5_hasRoom_4 : decode cX5_hasRoom 4 = .ok (.bipush 100, 2) := by decide +kernel
theorem dX5_hasRoom_6 : decode cX5_hasRoom 6 = .ok (.imul, 1) := by decide +kernel
theorem dX5_hasRoom_7 : decode cX5_hasRoom 7 = .ok (.aload_n 0, 1) := by decide +kernel
theorem dX5_hasRoom_8 : decode cX5_hasRoom 8 = .ok (.getfield 18, 3) := by decide +kernel
theorem dX5_hasRoom_11 : decode cX5_hasRoom 11 = .ok (.bipush 99, 2) := by decide +kernel
theorem dX5_hasRoom_13 : decode cX5_hasRoom 13 = .ok (.isub, 1) := by decide +kernel
theorem dX5_hasRoom_14 : decode cX5_hasRoom 14 = .ok (.if_icmp .ge 7, 3) := by decide +kernel
theorem dX5_hasRoom_17 : decode cX5_hasRoom 17 = .ok (.iconst 1, 1) := by decide +kernel
theorem dX5_hasRoom_18 : decode cX5_hasRoom 18 = .ok (.goto 4, 3) := by decide +kernel
theorem dX5_hasRoom_21 : decode cX5_hasRoom 21 = .ok (.iconst 0, 1) := by decide +kernel
theorem dX5_hasRoom_22 : decode cX5_hasRoom 22 = .ok (.ireturn, 1) := by decide +kernel
theorem dX5_hear_0 : decode cX5_hear 0 = .ok (.aload_n 0, 1) := by decide +kernel
theorem dX5_hear_1 : decode cX5_hear 1 = .ok (.dup, 1) := by decide +kernel
theorem dX5_hear_2 : decode cX5_hear 2 = .ok (.getfield 27, 3) := by decide +kernel
theorem dX5_hear_5 : decode cX5_hear 5 = .ok (.iconst 1, 1) := by decide +kernel
theorem dX5_hear_6 : decode cX5_hear 6 = .ok (.isub, 1) := by decide +kernel
theorem dX5_hear_7 : decode cX5_hear 7 = .ok (.putfield 27, 3) := by decide +kernel
theorem dX5_hear_10 : decode cX5_hear 10 = .ok (.aload_n 0, 1) := by decide +kernel
theorem dX5_hear_11 : decode cX5_hear 11 = .ok (.dup, 1) := by decide +kernel
theorem dX5_hear_12 : decode cX5_hear 12 = .ok (.getfield 36, 3) := by decide +kernel
theorem dX5_hear_15 : decode cX5_hear 15 = .ok (.iconst 1, 1) := by decide +kernel
theorem dX5_hear_16 : decode cX5_hear 16 = .ok (.iadd, 1) := by decide +kernel
theorem dX5_hear_17 : decode cX5_hear 17 = .ok (.putfield 36, 3) := by decide +kernel
theorem dX5_hear_20 : decode cX5_hear 20 = .ok (.iload_n 1, 1) := by decide +kernel
theorem dX5_hear_21 : decode cX5_hear 21 = .ok (.ifCond .eq 31, 3) := by decide +kernel
theorem dX5_hear_24 : decode cX5_hear 24 = .ok (.aload_n 0, 1) := by decide +kernel
theorem dX5_hear_25 : decode cX5_hear 25 = .ok (.aload_n 0, 1) := by decide +kernel
theorem dX5_hear_26 : decode cX5_hear 26 = .ok (.getfield 18, 3) := by decide +kernel
theorem dX5_hear_29 : decode cX5_hear 29 = .ok (.sipush 10000, 3) := by decide +kernel
theorem dX5_hear_32 : decode cX5_hear 32 = .ok (.aload_n 0, 1) := by decide +kernel
theorem dX5_hear_33 : decode cX5_hear 33 = .ok (.getfield 18, 3) := by decide +kernel
theorem dX5_hear_36 : decode cX5_hear 36 = .ok (.invokestatic 48, 3) := by decide +kernel
theorem dX5_hear_39 : decode cX5_hear 39 = .ok (.iadd, 1) := by decide +kernel
theorem dX5_hear_40 : decode cX5_hear 40 = .ok (.sipush 2000, 3) := by decide +kernel
theorem dX5_hear_43 : decode cX5_hear 43 = .ok (.invokestatic 52, 3) := by decide +kernel
theorem dX5_hear_46 : decode cX5_hear 46 = .ok (.putfield 18, 3) := by decide +kernel
theorem dX5_hear_49 : decode cX5_hear 49 = .ok (.goto 55, 3) := by decide +kernel
theorem dX5_hear_52 : decode cX5_hear 52 = .ok (.aload_n 0, 1) := by decide +kernel
theorem dX5_hear_53 : decode cX5_hear 53 = .ok (.getfield 33, 3) := by decide +kernel
theorem dX5_hear_56 : decode cX5_hear 56 = .ok (.bipush (-2), 2) := by decide +kernel
theorem dX5_hear_58 : decode cX5_hear 58 = .ok (.if_icmp .eq 16, 3) := by decide +kernel
theorem dX5_hear_61 : decode cX5_hear 61 = .ok (.iload_n 2, 1) := by decide +kernel
theorem dX5_hear_62 : decode cX5_hear 62 = .ok (.aload_n 0, 1) := by decide +kernel
theorem dX5_hear_63 : decode cX5_hear 63 = .ok (.getfield 33, 3) := by decide +kernel
theorem dX5_hear_66 : decode cX5_hear 66 = .ok (.isub, 1) := by decide +kernel
theorem dX5_hear_67 : decode cX5_hear 67 = .ok (.aload_n 0, 1) := by decide +kernel
theorem dX5_hear_68 : decode cX5_hear 68 = .ok (.getfield 21, 3) := by decide +kernel
theorem dX5_hear_71 : decode cX5_hear 71 = .ok (.if_icmp .lt 33, 3) := by decide +kernel
theorem dX5_hear_74 : decode cX5_hear 74 = .ok (.aload_n 0, 1) := by decide +kernel
theorem dX5_hear_75 : decode cX5_hear 75 = .ok (.aload_n 0, 1) := by decide +kernel
theorem dX5_hear_76 : decode cX5_hear 76 = .ok (.getfield 18, 3) := by decide +kernel
theorem dX5_hear_79 : decode cX5_hear 79 = .ok (.iconst 1, 1) := by decide +kernel
theorem dX5_hear_80 : decode cX5_hear 80 = .ok (.ishr, 1) := by decide +kernel
theorem dX5_hear_81 : decode cX5_hear 81 = .ok (.bipush 100, 2) := by decide +kernel
theorem dX5_hear_83 : decode cX5_hear 83 = .ok (.invokestatic 57, 3) := by decide +kernel
theorem dX5_hear_86 : decode cX5_hear 86 = .ok (.putfield 18, 3) := by decide +kernel
theorem dX5_hear_89 : decode cX5_hear 89 = .ok (.aload_n 0, 1) := by decide +kernel
theorem dX5_hear_90 : decode cX5_hear 90 = .ok (.iload_n 2, 1) := by decide +kernel
theorem dX5_hear_91 : decode cX5_hear 91 = .ok (.putfield 33, 3) := by decide +kernel
theorem dX5_hear_94 : decode cX5_hear 94 = .ok (.aload_n 0, 1) := by decide +kernel
theorem dX5_hear_95 : decode cX5_hear 95 = .ok (.dup, 1) := by decide +kernel
theorem dX5_hear_96 : decode cX5_hear 96 = .ok (.getfield 30, 3) := by decide +kernel
theorem dX5_hear_99 : decode cX5_hear 99 = .ok (.iconst 1, 1) := by decide +kernel
theorem dX5_hear_100 : decode cX5_hear 100 = .ok (.iadd, 1) := by decide +kernel
theorem dX5_hear_101 : decode cX5_hear 101 = .ok (.putfield 30, 3) := by decide +kernel
theorem dX5_hear_104 : decode cX5_hear 104 = .ok (.return_, 1) := by decide +kernel
def p_X5_begin (h : Hp) (o0 : Nat) (o1 : Nat) (x2 : Int32) : Option Hp :=
  Option.bind (p_X3_orderAt h o1 x2) fun r1 => nv (hp r1.2 o0 0 r1.1) fun h2 => Option.bind (p_X3_orderAt h2 o1 (x2 + 1)) fun r3 => nv (hp r3.2 o0 1 r3.1) fun h4 => Option.bind (p_X3_orderAt h4 o1 (x2 + 2)) fun r5 => nv (hp r5.2 o0 2 (100 * r5.1)) fun h6 => Option.bind (p_X3_orderAt h6 o1 (x2 + 3)) fun r7 => nv (hp r7.2 o0 3 r7.1) fun h8 => Option.bind (p_X3_orderAt h8 o1 (x2 + 4)) fun r9 => nv (hp r9.2 o0 4 r9.1) fun h10 => nv (hp h10 o0 5 0) fun h11 => nv (hp h11 o0 6 0) fun h12 => nv (hp h12 o0 7 (-2)) fun h13 => nv (hp h13 o0 8 0) fun h14 => nv (hp h14 o0 9 0) fun h15 => some h15
set_option maxRecDepth 4000 in
theorem s_X5_begin {p : Program} {l : Launch} {e : Env} {s : State} {m : MethodId} {args : Array Value} {below : List Frame} {meth : Method} {c : Code} {G : GT} (cx : CX p s m args c cX5_begin 3 RX5 G) (hr : meth.sig.returnType = none) (hlk : meth.locks = false) (h : Hp) (o0 : Nat) (o1 : Nat) (x2 : Int32) (hk_o0 : kd o0 = 4) (hk_o1 : kd o1 = 3) : PF p l e (rmc 1 21) s m args below meth c 3 G 0 0 (QV below G args s) 0 [some (.ref (gad G o0)), some (.ref (gad G o1)), some (.int x2)] [] h (p_X5_begin h o0 o1 x2) := by
  unfold p_X5_begin
  refine f_aload_n (pc := 0) cx dX5_begin_0 rfl rfl ?_
  refine f_aload_n (pc := 1) cx dX5_begin_1 rfl rfl ?_
  refine f_iload_n (pc := 2) cx dX5_begin_2 rfl rfl ?_
  refine f_bind (fun r1 hr1 => ?_)
  refine k_X5_42 (pc := 3) cx (c_X3_orderAt l G _ o1 x2 hk_o1 r1 hr1) hk_o1 ⟨by decide, by decide⟩ ⟨Nat.zero_le _, Nat.zero_le _⟩ (Nat.le_of_ble_eq_true rfl) dX5_begin_3 ?_
  refine u_X5_9 (pc := 6) cx hk_o0 dX5_begin_6 ?_
  refine f_nvh (fun h2 => ?_)
  refine f_aload_n (pc := 9) cx dX5_begin_9 rfl rfl ?_
  refine f_aload_n (pc := 10) cx dX5_begin_10 rfl rfl ?_
  refine f_iload_n (pc := 11) cx dX5_begin_11 rfl rfl ?_
  refine f_iconst (pc := 12) cx dX5_begin_12 kc_iconst_1 ?_
  refine f_iadd (pc := 13) cx dX5_begin_13 ?_
  refine f_bind (fun r3 hr3 => ?_)
  refine k_X5_42 (pc := 14) cx (c_X3_orderAt l G _ o1 (x2 + 1) hk_o1 r3 hr3) hk_o1 ⟨by decide, by decide⟩ ⟨Nat.zero_le _, Nat.zero_le _⟩ (Nat.le_of_ble_eq_true rfl) dX5_begin_14 ?_
  refine u_X5_15 (pc := 17) cx hk_o0 dX5_begin_17 ?_
  refine f_nvh (fun h4 => ?_)
  refine f_aload_n (pc := 20) cx dX5_begin_20 rfl rfl ?_
  refine f_bipush (pc := 21) cx dX5_begin_21 kc_bipush_100 ?_
  refine f_aload_n (pc := 23) cx dX5_begin_23 rfl rfl ?_
  refine f_iload_n (pc := 24) cx dX5_begin_24 rfl rfl ?_
  refine f_iconst (pc := 25) cx dX5_begin_25 kc_iconst_2 ?_
  refine f_iadd (pc := 26) cx dX5_begin_26 ?_
  refine f_bind (fun r5 hr5 => ?_)
  refine k_X5_42 (pc := 27) cx (c_X3_orderAt l G _ o1 (x2 + 2) hk_o1 r5 hr5) hk_o1 ⟨by decide, by decide⟩ ⟨Nat.zero_le _, Nat.zero_le _⟩ (Nat.le_of_ble_eq_true rfl) dX5_begin_27 ?_
  refine f_imul (pc := 30) cx dX5_begin_30 ?_
  refine u_X5_18 (pc := 31) cx hk_o0 dX5_begin_31 ?_
  refine f_nvh (fun h6 => ?_)
  refine f_aload_n (pc := 34) cx dX5_begin_34 rfl rfl ?_
  refine f_aload_n (pc := 35) cx dX5_begin_35 rfl rfl ?_
  refine f_iload_n (pc := 36) cx dX5_begin_36 rfl rfl ?_
  refine f_iconst (pc := 37) cx dX5_begin_37 kc_iconst_3 ?_
  refine f_iadd (pc := 38) cx dX5_begin_38 ?_
  refine f_bind (fun r7 hr7 => ?_)
  refine k_X5_42 (pc := 39) cx (c_X3_orderAt l G _ o1 (x2 + 3) hk_o1 r7 hr7) hk_o1 ⟨by decide, by decide⟩ ⟨Nat.zero_le _, Nat.zero_le _⟩ (Nat.le_of_ble_eq_true rfl) dX5_begin_39 ?_
  refine u_X5_21 (pc := 42) cx hk_o0 dX5_begin_42 ?_
  refine f_nvh (fun h8 => ?_)
  refine f_aload_n (pc := 45) cx dX5_begin_45 rfl rfl ?_
  refine f_aload_n (pc := 46) cx dX5_begin_46 rfl rfl ?_
  refine f_iload_n (pc := 47) cx dX5_begin_47 rfl rfl ?_
  refine f_iconst (pc := 48) cx dX5_begin_48 kc_iconst_4 ?_
  refine f_iadd (pc := 49) cx dX5_begin_49 ?_
  refine f_bind (fun r9 hr9 => ?_)
  refine k_X5_42 (pc := 50) cx (c_X3_orderAt l G _ o1 (x2 + 4) hk_o1 r9 hr9) hk_o1 ⟨by decide, by decide⟩ ⟨Nat.zero_le _, Nat.zero_le _⟩ (Nat.le_of_ble_eq_true rfl) dX5_begin_50 ?_
  refine u_X5_24 (pc := 53) cx hk_o0 dX5_begin_53 ?_
  refine f_nvh (fun h10 => ?_)
  refine f_aload_n (pc := 56) cx dX5_begin_56 rfl rfl ?_
  refine f_iconst (pc := 57) cx dX5_begin_57 kc_iconst_0 ?_
  refine u_X5_27 (pc := 58) cx hk_o0 dX5_begin_58 ?_
  refine f_nvh (fun h11 => ?_)
  refine f_aload_n (pc := 61) cx dX5_begin_61 rfl rfl ?_
  refine f_iconst (pc := 62) cx dX5_begin_62 kc_iconst_0 ?_
  refine u_X5_30 (pc := 63) cx hk_o0 dX5_begin_63 ?_
  refine f_nvh (fun h12 => ?_)
  refine f_aload_n (pc := 66) cx dX5_begin_66 rfl rfl ?_
  refine f_bipush (pc := 67) cx dX5_begin_67 kc_bipush_m2 ?_
  refine u_X5_33 (pc := 69) cx hk_o0 dX5_begin_69 ?_
  refine f_nvh (fun h13 => ?_)
  refine f_aload_n (pc := 72) cx dX5_begin_72 rfl rfl ?_
  refine f_iconst (pc := 73) cx dX5_begin_73 kc_iconst_0 ?_
  refine u_X5_36 (pc := 74) cx hk_o0 dX5_begin_74 ?_
  refine f_nvh (fun h14 => ?_)
  refine f_aload_n (pc := 77) cx dX5_begin_77 rfl rfl ?_
  refine f_iconst (pc := 78) cx dX5_begin_78 kc_iconst_0 ?_
  refine u_X5_39 (pc := 79) cx hk_o0 dX5_begin_79 ?_
  refine f_nvh (fun h15 => ?_)
  exact f_vret cx hr hlk dX5_begin_82
set_option maxRecDepth 4000 in
theorem c_X5_begin (l : Launch) (G : GT) (h : Hp) (o0 : Nat) (o1 : Nat) (x2 : Int32) (hk_o0 : kd o0 = 4) (hk_o1 : kd o1 = 3) : CtV l G yX5_begin cX5_begin 3 none 1 21 [.ref (gad G o0), .ref (gad G o1), .int x2] h (p_X5_begin h o0 o1 x2) := fun a ha => Ct.of (lv := [some (.ref (gad G o0)), some (.ref (gad G o1)), some (.int x2)]) (by decide) rfl (Nat.le_of_ble_eq_true rfl) rfl (fun p e s m args below meth c cx hr hlk => s_X5_begin cx hr hlk h o0 o1 x2 hk_o0 hk_o1 a ha)
def p_X5_copyFrom (h : Hp) (o0 : Nat) (o1 : Nat) : Option Hp :=
  nv (hp h o0 0 (h o1 0)) fun h1 => nv (hp h1 o0 1 (h1 o1 1)) fun h2 => nv (hp h2 o0 2 (h2 o1 2)) fun h3 => nv (hp h3 o0 3 (h3 o1 3)) fun h4 => nv (hp h4 o0 4 (h4 o1 4)) fun h5 => nv (hp h5 o0 5 (h5 o1 5)) fun h6 => nv (hp h6 o0 6 (h6 o1 6)) fun h7 => nv (hp h7 o0 7 (h7 o1 7)) fun h8 => nv (hp h8 o0 8 (h8 o1 8)) fun h9 => nv (hp h9 o0 9 (h9 o1 9)) fun h10 => some h10
set_option maxRecDepth 4000 in
theorem s_X5_copyFrom {p : Program} {l : Launch} {e : Env} {s : State} {m : MethodId} {args : Array Value} {below : List Frame} {meth : Method} {c : Code} {G : GT} (cx : CX p s m args c cX5_copyFrom 2 RX5 G) (hr : meth.sig.returnType = none) (hlk : meth.locks = false) (h : Hp) (o0 : Nat) (o1 : Nat) (hk_o0 : kd o0 = 4) (hk_o1 : kd o1 = 4) : PF p l e (rmc 0 0) s m args below meth c 2 G 0 0 (QV below G args s) 0 [some (.ref (gad G o0)), some (.ref (gad G o1))] [] h (p_X5_copyFrom h o0 o1) := by
  unfold p_X5_copyFrom
  refine f_aload_n (pc := 0) cx dX5_copyFrom_0 rfl rfl ?_
  refine f_aload_n (pc := 1) cx dX5_copyFrom_1 rfl rfl ?_
  refine g_X5_9 (pc := 2) cx hk_o1 dX5_copyFrom_2 ?_
  refine u_X5_9 (pc := 5) cx hk_o0 dX5_copyFrom_5 ?_
  refine f_nvh (fun h1 => ?_)
  refine f_aload_n (pc := 8) cx dX5_copyFrom_8 rfl rfl ?_
  refine f_aload_n (pc := 9) cx dX5_copyFrom_9 rfl rfl ?_
  refine g_X5_15 (pc := 10) cx hk_o1 dX5_copyFrom_10 ?_
  refine u_X5_15 (pc := 13) cx hk_o0 dX5_copyFrom_13 ?_
  refine f_nvh (fun h2 => ?_)
  refine f_aload_n (pc := 16) cx dX5_copyFrom_16 rfl rfl ?_
  refine f_aload_n (pc := 17) cx dX5_copyFrom_17 rfl rfl ?_
  refine g_X5_18 (pc := 18) cx hk_o1 dX5_copyFrom_18 ?_
  refine u_X5_18 (pc := 21) cx hk_o0 dX5_copyFrom_21 ?_
  refine f_nvh (fun h3 => ?_)
  refine f_aload_n (pc := 24) cx dX5_copyFrom_24 rfl rfl ?_
  refine f_aload_n (pc := 25) cx dX5_copyFrom_25 rfl rfl ?_
  refine g_X5_21 (pc := 26) cx hk_o1 dX5_copyFrom_26 ?_
  refine u_X5_21 (pc := 29) cx hk_o0 dX5_copyFrom_29 ?_
  refine f_nvh (fun h4 => ?_)
  refine f_aload_n (pc := 32) cx dX5_copyFrom_32 rfl rfl ?_
  refine f_aload_n (pc := 33) cx dX5_copyFrom_33 rfl rfl ?_
  refine g_X5_24 (pc := 34) cx hk_o1 dX5_copyFrom_34 ?_
  refine u_X5_24 (pc := 37) cx hk_o0 dX5_copyFrom_37 ?_
  refine f_nvh (fun h5 => ?_)
  refine f_aload_n (pc := 40) cx dX5_copyFrom_40 rfl rfl ?_
  refine f_aload_n (pc := 41) cx dX5_copyFrom_41 rfl rfl ?_
  refine g_X5_27 (pc := 42) cx hk_o1 dX5_copyFrom_42 ?_
  refine u_X5_27 (pc := 45) cx hk_o0 dX5_copyFrom_45 ?_
  refine f_nvh (fun h6 => ?_)
  refine f_aload_n (pc := 48) cx dX5_copyFrom_48 rfl rfl ?_
  refine f_aload_n (pc := 49) cx dX5_copyFrom_49 rfl rfl ?_
  refine g_X5_30 (pc := 50) cx hk_o1 dX5_copyFrom_50 ?_
  refine u_X5_30 (pc := 53) cx hk_o0 dX5_copyFrom_53 ?_
  refine f_nvh (fun h7 => ?_)
  refine f_aload_n (pc := 56) cx dX5_copyFrom_56 rfl rfl ?_
  refine f_aload_n (pc := 57) cx dX5_copyFrom_57 rfl rfl ?_
  refine g_X5_33 (pc := 58) cx hk_o1 dX5_copyFrom_58 ?_
  refine u_X5_33 (pc := 61) cx hk_o0 dX5_copyFrom_61 ?_
  refine f_nvh (fun h8 => ?_)
  refine f_aload_n (pc := 64) cx dX5_copyFrom_64 rfl rfl ?_
  refine f_aload_n (pc := 65) cx dX5_copyFrom_65 rfl rfl ?_
  refine g_X5_36 (pc := 66) cx hk_o1 dX5_copyFrom_66 ?_
  refine u_X5_36 (pc := 69) cx hk_o0 dX5_copyFrom_69 ?_
  refine f_nvh (fun h9 => ?_)
  refine f_aload_n (pc := 72) cx dX5_copyFrom_72 rfl rfl ?_
  refine f_aload_n (pc := 73) cx dX5_copyFrom_73 rfl rfl ?_
  refine g_X5_39 (pc := 74) cx hk_o1 dX5_copyFrom_74 ?_
  refine u_X5_39 (pc := 77) cx hk_o0 dX5_copyFrom_77 ?_
  refine f_nvh (fun h10 => ?_)
  exact f_vret cx hr hlk dX5_copyFrom_80
set_option maxRecDepth 4000 in
theorem c_X5_copyFrom (l : Launch) (G : GT) (h : Hp) (o0 : Nat) (o1 : Nat) (hk_o0 : kd o0 = 4) (hk_o1 : kd o1 = 4) : CtV l G yX5_copyFrom cX5_copyFrom 2 none 0 0 [.ref (gad G o0), .ref (gad G o1)] h (p_X5_copyFrom h o0 o1) := fun a ha => Ct.of (lv := [some (.ref (gad G o0)), some (.ref (gad G o1))]) (by decide) rfl (Nat.le_of_ble_eq_true rfl) rfl (fun p e s m args below meth c cx hr hlk => s_X5_copyFrom cx hr hlk h o0 o1 hk_o0 hk_o1 a ha)
def p_X5_tell (h : Hp) (o0 : Nat) (x1 : Int32) : Option (Int32 × Hp) :=
  if x1 = 0 then (some (h o0 0, h)) else if x1 = 1 then (some (h o0 1, h)) else if x1 = 2 then (some (h o0 2, h)) else if x1 = 3 then (some (h o0 3, h)) else if x1 = 4 then (some (h o0 4, h)) else if x1 = 5 then (some (h o0 5, h)) else if x1 = 6 then (some (h o0 6, h)) else if x1 = 7 then (some (h o0 7, h)) else if x1 = 8 then (some (h o0 8, h)) else (some ((-1), h))
set_option maxRecDepth 4000 in
theorem s_X5_tell {p : Program} {l : Launch} {e : Env} {s : State} {m : MethodId} {args : Array Value} {below : List Frame} {meth : Method} {c : Code} {G : GT} (cx : CX p s m args c cX5_tell 2 RX5 G) (hr : meth.sig.returnType = (some .int)) (hlk : meth.locks = false) (h : Hp) (o0 : Nat) (x1 : Int32) (hk_o0 : kd o0 = 4) : PF p l e (rmc 0 0) s m args below meth c 2 G 0 0 (QI below G args s) 0 [some (.ref (gad G o0)), some (.int x1)] [] h (p_X5_tell h o0 x1) := by
  unfold p_X5_tell
  refine f_iload_n (pc := 0) cx dX5_tell_0 rfl rfl ?_
  refine f_case (?_) (fun n1 => ?_)
  · refine f_tin (pc := 1) (tgt := 52) cx dX5_tell_1 (by decide) (by decide) rfl (by decide) ?_
    refine f_aload_n (pc := 52) cx dX5_tell_52 rfl rfl ?_
    refine g_X5_9 (pc := 53) cx hk_o0 dX5_tell_53 ?_
    exact f_iret cx hr hlk rfl dX5_tell_56
  refine f_case (?_) (fun n2 => ?_)
  · refine f_tin (pc := 1) (tgt := 57) cx dX5_tell_1 (by decide) (by decide) rfl (by decide) ?_
    refine f_aload_n (pc := 57) cx dX5_tell_57 rfl rfl ?_
    refine g_X5_15 (pc := 58) cx hk_o0 dX5_tell_58 ?_
    exact f_iret cx hr hlk rfl dX5_tell_61
  refine f_case (?_) (fun n3 => ?_)
  · refine f_tin (pc := 1) (tgt := 62) cx dX5_tell_1 (by decide) (by decide) rfl (by decide) ?_
    refine f_aload_n (pc := 62) cx dX5_tell_62 rfl rfl ?_
    refine g_X5_18 (pc := 63) cx hk_o0 dX5_tell_63 ?_
    exact f_iret cx hr hlk rfl dX5_tell_66
  refine f_case (?_) (fun n4 => ?_)
  · refine f_tin (pc := 1) (tgt := 67) cx dX5_tell_1 (by decide) (by decide) rfl (by decide) ?_
    refine f_aload_n (pc := 67) cx dX5_tell_67 rfl rfl ?_
    refine g_X5_21 (pc := 68) cx hk_o0 dX5_tell_68 ?_
    exact f_iret cx hr hlk rfl dX5_tell_71
  refine f_case (?_) (fun n5 => ?_)
  · refine f_tin (pc := 1) (tgt := 72) cx dX5_tell_1 (by decide) (by decide) rfl (by decide) ?_
    refine f_aload_n (pc := 72) cx dX5_tell_72 rfl rfl ?_
    refine g_X5_24 (pc := 73) cx hk_o0 dX5_tell_73 ?_
    exact f_iret cx hr hlk rfl dX5_tell_76
  refine f_case (?_) (fun n6 => ?_)
  · refine f_tin (pc := 1) (tgt := 77) cx dX5_tell_1 (by decide) (by decide) rfl (by decide) ?_
    refine f_aload_n (pc := 77) cx dX5_tell_77 rfl rfl ?_
    refine g_X5_27 (pc := 78) cx hk_o0 dX5_tell_78 ?_
    exact f_iret cx hr hlk rfl dX5_tell_81
  refine f_case (?_) (fun n7 => ?_)
  · refine f_tin (pc := 1) (tgt := 82) cx dX5_tell_1 (by decide) (by decide) rfl (by decide) ?_
    refine f_aload_n (pc := 82) cx dX5_tell_82 rfl rfl ?_
    refine g_X5_30 (pc := 83) cx hk_o0 dX5_tell_83 ?_
    exact f_iret cx hr hlk rfl dX5_tell_86
  refine f_case (?_) (fun n8 => ?_)
  · refine f_tin (pc := 1) (tgt := 87) cx dX5_tell_1 (by decide) (by decide) rfl (by decide) ?_
    refine f_aload_n (pc := 87) cx dX5_tell_87 rfl rfl ?_
    refine g_X5_33 (pc := 88) cx hk_o0 dX5_tell_88 ?_
    exact f_iret cx hr hlk rfl dX5_tell_91
  refine f_case (?_) (fun n9 => ?_)
  · refine f_tin (pc := 1) (tgt := 92) cx dX5_tell_1 (by decide) (by decide) rfl (by decide) ?_
    refine f_aload_n (pc := 92) cx dX5_tell_92 rfl rfl ?_
    refine g_X5_36 (pc := 93) cx hk_o0 dX5_tell_93 ?_
    exact f_iret cx hr hlk rfl dX5_tell_96
  refine f_tout (pc := 1) (tgt := 97) (N := 9) cx dX5_tell_1 (by decide) (by decide) (lt_s (lt_s (lt_s (lt_s (lt_s (lt_s (lt_s (lt_s (lt_s lt_0 n1) n2) n3) n4) n5) n6) n7) n8) n9) (by decide) ?_
  refine f_iconst (pc := 97) cx dX5_tell_97 kc_iconst_m1 ?_
  exact f_iret cx hr hlk rfl dX5_tell_98
set_option maxRecDepth 4000 in
theorem c_X5_tell (l : Launch) (G : GT) (h : Hp) (o0 : Nat) (x1 : Int32) (hk_o0 : kd o0 = 4) : CtI l G yX5_tell cX5_tell 2 (some .int) 0 0 [.ref (gad G o0), .int x1] h (p_X5_tell h o0 x1) := fun a ha => Ct.of (lv := [some (.ref (gad G o0)), some (.int x1)]) (by decide) rfl (Nat.le_of_ble_eq_true rfl) rfl (fun p e s m args below meth c cx hr hlk => s_X5_tell cx hr hlk h o0 x1 hk_o0 a ha)
def p_X5_hasRoom (h : Hp) (o0 : Nat) : Option (Int32 × Hp) :=
  if ((h o0 2) - 99) ≤ ((h o0 5) * 100) then (some (0, h)) else (some (1, h))
set_option maxRecDepth 4000 in
theorem s_X5_hasRoom {p : Program} {l : Launch} {e : Env} {s : State} {m : MethodId} {args : Array Value} {below : List Frame} {meth : Method} {c : Code} {G : GT} (cx : CX p s m args c cX5_hasRoom 1 RX5 G) (hr : meth.sig.returnType = (some .boolean)) (hlk : meth.locks = false) (h : Hp) (o0 : Nat) (hk_o0 : kd o0 = 4) : PF p l e (rmc 0 0) s m args below meth c 1 G 0 0 (QI below G args s) 0 [some (.ref (gad G o0))] [] h (p_X5_hasRoom h o0) := by
  unfold p_X5_hasRoom
  refine f_aload_n (pc := 0) cx dX5_hasRoom_0 rfl rfl ?_
  refine g_X5_27 (pc := 1) cx hk_o0 dX5_hasRoom_1 ?_
  refine f_bipush (pc := 4) cx dX5_hasRoom_4 kc_bipush_100 ?_
  refine f_imul (pc := 6) cx dX5_hasRoom_6 ?_
  refine f_aload_n (pc := 7) cx dX5_hasRoom_7 rfl rfl ?_
  refine g_X5_18 (pc := 8) cx hk_o0 dX5_hasRoom_8 ?_
  refine f_bipush (pc := 11) cx dX5_hasRoom_11 kc_bipush_99 ?_
  refine f_isub (pc := 13) cx dX5_hasRoom_13 ?_
  refine f_icmp_ge (pc := 14) (tgt := 21) cx dX5_hasRoom_14 (by decide) (fun _ => ?_) (fun _ => ?_)
  · refine f_iconst (pc := 21) cx dX5_hasRoom_21 kc_iconst_0 ?_
    exact f_iret cx hr hlk (bb_n bb_0).1 dX5_hasRoom_22
  · refine f_iconst (pc := 17) cx dX5_hasRoom_17 kc_iconst_1 ?_
    refine f_goto (pc := 18) (tgt := 22) cx dX5_hasRoom_18 (by decide) ?_
    exact f_iret cx hr hlk (bb_n bb_1).1 dX5_hasRoom_22
set_option maxRecDepth 4000 in
theorem c_X5_hasRoom (l : Launch) (G : GT) (h : Hp) (o0 : Nat) (hk_o0 : kd o0 = 4) : CtI l G yX5_hasRoom cX5_hasRoom 1 (some .boolean) 0 0 [.ref (gad G o0)] h (p_X5_hasRoom h o0) := fun a ha => Ct.of (lv := [some (.ref (gad G o0))]) (by decide) rfl (Nat.le_of_ble_eq_true rfl) rfl (fun p e s m args below meth c cx hr hlk => s_X5_hasRoom cx hr hlk h o0 hk_o0 a ha)
def q_X5_hear_74 (h : Hp) (o0 : Nat) (x2 : Int32) : Option Hp :=
  nv (hp h o0 2 (if ((h o0 2) >>> (1 &&& 31)) < 100 then 100 else ((h o0 2) >>> (1 &&& 31)))) fun h1 => nv (hp h1 o0 7 x2) fun h2 => nv (hp h2 o0 6 ((h2 o0 6) + 1)) fun h3 => some h3
def p_X5_hear (h : Hp) (o0 : Nat) (x1 : Int32) (x2 : Int32) : Option Hp :=
  nv (hp h o0 5 ((h o0 5) - 1)) fun h4 => nv (hp h4 o0 8 ((h4 o0 8) + 1)) fun h5 => if x1 = 0 then (if (h5 o0 7) = (-2) then (q_X5_hear_74 h5 o0 x2) else (if (x2 - (h5 o0 7)) < (h5 o0 3) then (some h5) else (q_X5_hear_74 h5 o0 x2))) else (Option.bind (p_X9_quotientDown h5 10000 (h5 o0 2)) fun r6 => nv (hp r6.2 o0 2 (if 2000 < ((h5 o0 2) + r6.1) then 2000 else ((h5 o0 2) + r6.1))) fun h7 => some h7)
set_option maxRecDepth 4000 in
theorem s_X5_hear_74 {p : Program} {l : Launch} {e : Env} {s : State} {m : MethodId} {args : Array Value} {below : List Frame} {meth : Method} {c : Code} {G : GT} (cx : CX p s m args c cX5_hear 3 RX5 G) (hr : meth.sig.returnType = none) (hlk : meth.locks = false) (h : Hp) (o0 : Nat) (x2 : Int32) (hk_o0 : kd o0 = 4) : PF p l e (rmc 1 27) s m args below meth c 3 G 0 0 (QV below G args s) 74 [some (.ref (gad G o0)), none, some (.int x2)] [] h (q_X5_hear_74 h o0 x2) := by
  unfold q_X5_hear_74
  refine f_aload_n (pc := 74) cx dX5_hear_74 rfl rfl ?_
  refine f_aload_n (pc := 75) cx dX5_hear_75 rfl rfl ?_
  refine g_X5_18 (pc := 76) cx hk_o0 dX5_hear_76 ?_
  refine f_iconst (pc := 79) cx dX5_hear_79 kc_iconst_1 ?_
  refine f_ishr (pc := 80) cx dX5_hear_80 ?_
  refine f_bipush (pc := 81) cx dX5_hear_81 kc_bipush_100 ?_
  refine k_X5_57 (pc := 83) cx ⟨by decide, by decide⟩ ⟨Nat.zero_le _, Nat.zero_le _⟩ (Nat.le_of_ble_eq_true rfl) dX5_hear_83 ?_
  refine u_X5_18 (pc := 86) cx hk_o0 dX5_hear_86 ?_
  refine f_nvh (fun h1 => ?_)
  refine f_aload_n (pc := 89) cx dX5_hear_89 rfl rfl ?_
  refine f_iload_n (pc := 90) cx dX5_hear_90 rfl rfl ?_
  refine u_X5_33 (pc := 91) cx hk_o0 dX5_hear_91 ?_
  refine f_nvh (fun h2 => ?_)
  refine f_aload_n (pc := 94) cx dX5_hear_94 rfl rfl ?_
  refine f_dup (pc := 95) cx dX5_hear_95 rfl ?_
  refine g_X5_30 (pc := 96) cx hk_o0 dX5_hear_96 ?_
  refine f_iconst (pc := 99) cx dX5_hear_99 kc_iconst_1 ?_
  refine f_iadd (pc := 100) cx dX5_hear_100 ?_
  refine u_X5_30 (pc := 101) cx hk_o0 dX5_hear_101 ?_
  refine f_nvh (fun h3 => ?_)
  exact f_vret cx hr hlk dX5_hear_104
set_option maxRecDepth 4000 in
theorem s_X5_hear {p : Program} {l : Launch} {e : Env} {s : State} {m : MethodId} {args : Array Value} {below : List Frame} {meth : Method} {c : Code} {G : GT} (cx : CX p s m args c cX5_hear 3 RX5 G) (hr : meth.sig.returnType = none) (hlk : meth.locks = false) (h : Hp) (o0 : Nat) (x1 : Int32) (x2 : Int32) (hk_o0 : kd o0 = 4) : PF p l e (rmc 1 27) s m args below meth c 3 G 0 0 (QV below G args s) 0 [some (.ref (gad G o0)), some (.int x1), some (.int x2)] [] h (p_X5_hear h o0 x1 x2) := by
  unfold p_X5_hear
  refine f_aload_n (pc := 0) cx dX5_hear_0 rfl rfl ?_
  refine f_dup (pc := 1) cx dX5_hear_1 rfl ?_
  refine g_X5_27 (pc := 2) cx hk_o0 dX5_hear_2 ?_
  refine f_iconst (pc := 5) cx dX5_hear_5 kc_iconst_1 ?_
  refine f_isub (pc := 6) cx dX5_hear_6 ?_
  refine u_X5_27 (pc := 7) cx hk_o0 dX5_hear_7 ?_
  refine f_nvh (fun h4 => ?_)
  refine f_aload_n (pc := 10) cx dX5_hear_10 rfl rfl ?_
  refine f_dup (pc := 11) cx dX5_hear_11 rfl ?_
  refine g_X5_36 (pc := 12) cx hk_o0 dX5_hear_12 ?_
  refine f_iconst (pc := 15) cx dX5_hear_15 kc_iconst_1 ?_
  refine f_iadd (pc := 16) cx dX5_hear_16 ?_
  refine u_X5_36 (pc := 17) cx hk_o0 dX5_hear_17 ?_
  refine f_nvh (fun h5 => ?_)
  refine f_iload_n (pc := 20) cx dX5_hear_20 rfl rfl ?_
  refine f_if_eq (pc := 21) (tgt := 52) cx dX5_hear_21 (by decide) (fun _ => ?_) (fun _ => ?_)
  · refine f_aload_n (pc := 52) cx dX5_hear_52 rfl rfl ?_
    refine g_X5_33 (pc := 53) cx hk_o0 dX5_hear_53 ?_
    refine f_bipush (pc := 56) cx dX5_hear_56 kc_bipush_m2 ?_
    refine f_icmp_eq (pc := 58) (tgt := 74) cx dX5_hear_58 (by decide) (fun _ => ?_) (fun _ => ?_)
    · exact f_weak (LSb.s (LSb.n (LSb.s LSb.e))) (s_X5_hear_74 cx hr hlk _ o0 x2 hk_o0)
    · refine f_iload_n (pc := 61) cx dX5_hear_61 rfl rfl ?_
      refine f_aload_n (pc := 62) cx dX5_hear_62 rfl rfl ?_
      refine g_X5_33 (pc := 63) cx hk_o0 dX5_hear_63 ?_
      refine f_isub (pc := 66) cx dX5_hear_66 ?_
      refine f_aload_n (pc := 67) cx dX5_hear_67 rfl rfl ?_
      refine g_X5_21 (pc := 68) cx hk_o0 dX5_hear_68 ?_
      refine f_icmp_lt (pc := 71) (tgt := 104) cx dX5_hear_71 (by decide) (fun _ => ?_) (fun _ => ?_)
      · exact f_vret cx hr hlk dX5_hear_104
      · exact f_weak (LSb.s (LSb.n (LSb.s LSb.e))) (s_X5_hear_74 cx hr hlk _ o0 x2 hk_o0)
  · refine f_aload_n (pc := 24) cx dX5_hear_24 rfl rfl ?_
    refine f_aload_n (pc := 25) cx dX5_hear_25 rfl rfl ?_
    refine g_X5_18 (pc := 26) cx hk_o0 dX5_hear_26 ?_
    refine f_sipush (pc := 29) cx dX5_hear_29 kc_sipush_10000 ?_
    refine f_aload_n (pc := 32) cx dX5_hear_32 rfl rfl ?_
    refine g_X5_18 (pc := 33) cx hk_o0 dX5_hear_33 ?_
    refine f_bind (fun r6 hr6 => ?_)
    refine k_X5_48 (pc := 36) cx (c_X9_quotientDown l G _ 10000 (h5 o0 2) r6 hr6) ⟨by decide, by decide⟩ ⟨Nat.zero_le _, Nat.zero_le _⟩ (Nat.le_of_ble_eq_true rfl) dX5_hear_36 ?_
    refine f_iadd (pc := 39) cx dX5_hear_39 ?_
    refine f_sipush (pc := 40) cx dX5_hear_40 kc_sipush_2000 ?_
    refine k_X5_52 (pc := 43) cx ⟨by decide, by decide⟩ ⟨Nat.zero_le _, Nat.zero_le _⟩ (Nat.le_of_ble_eq_true rfl) dX5_hear_43 ?_
    refine u_X5_18 (pc := 46) cx hk_o0 dX5_hear_46 ?_
    refine f_nvh (fun h7 => ?_)
    refine f_goto (pc := 49) (tgt := 104) cx dX5_hear_49 (by decide) ?_
    exact f_vret cx hr hlk dX5_hear_104
set_option maxRecDepth 4000 in
theorem c_X5_hear (l : Launch) (G : GT) (h : Hp) (o0 : Nat) (x1 : Int32) (x2 : Int32) (hk_o0 : kd o0 = 4) : CtV l G yX5_hear cX5_hear 3 none 1 27 [.ref (gad G o0), .int x1, .int x2] h (p_X5_hear h o0 x1 x2) := fun a ha => Ct.of (lv := [some (.ref (gad G o0)), some (.int x1), some (.int x2)]) (by decide) rfl (Nat.le_of_ble_eq_true rfl) rfl (fun p e s m args below meth c cx hr hlk => s_X5_hear cx hr hlk h o0 x1 x2 hk_o0 a ha)
