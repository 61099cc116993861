theorem kc_bipush_m2 : (Int8.ofInt (-2)).toInt32 = (-2) := by decide
theorem dX0_begin_0 : decode cX0_begin 0 = .ok (.aload_n 0, 1) := by decide +kernel
theorem dX0_begin_1 : decode cX0_begin 1 = .ok (.iload_n 1, 1) := by decide +kernel
theorem dX0_begin_2 : decode cX0_begin 2 = .ok (.putfield 9, 3) := by decide +kernel
theorem dX0_begin_5 : decode cX0_begin 5 = .ok (.aload_n 0, 1) := by decide +kernel
theorem dX0_begin_6 : decode cX0_begin 6 = .ok (.iload_n 2, 1) := by decide +kernel
theorem dX0_begin_7 : decode cX0_begin 7 = .ok (.putfield 27, 3) := by decide +kernel
theorem dX0_begin_10 : decode cX0_begin 10 = .ok (.aload_n 0, 1) := by decide +kernel
theorem dX0_begin_11 : decode cX0_begin 11 = .ok (.iload_n 3, 1) := by decide +kernel
theorem dX0_begin_12 : decode cX0_begin 12 = .ok (.putfield 55, 3) := by decide +kernel
theorem dX0_begin_15 : decode cX0_begin 15 = .ok (.aload_n 0, 1) := by decide +kernel
theorem dX0_begin_16 : decode cX0_begin 16 = .ok (.iconst 0, 1) := by decide +kernel
theorem dX0_begin_17 : decode cX0_begin 17 = .ok (.putfield 33, 3) := by decide +kernel
theorem dX0_begin_20 : decode cX0_begin 20 = .ok (.aload_n 0, 1) := by decide +kernel
theorem dX0_begin_21 : decode cX0_begin 21 = .ok (.iconst 0, 1) := by decide +kernel
theorem dX0_begin_22 : decode cX0_begin 22 = .ok (.putfield 36, 3) := by decide +kernel
theorem dX0_begin_25 : decode cX0_begin 25 = .ok (.aload_n 0, 1) := by decide +kernel
theorem dX0_begin_26 : decode cX0_begin 26 = .ok (.iconst 0, 1) := by decide +kernel
theorem dX0_begin_27 : decode cX0_begin 27 = .ok (.putfield 39, 3) := by decide +kernel
theorem dX0_begin_30 : decode cX0_begin 30 = .ok (.aload_n 0, 1) := by decide +kernel
theorem dX0_begin_31 : decode cX0_begin 31 = .ok (.bipush (-2), 2) := by decide +kernel
theorem dX0_begin_33 : decode cX0_begin 33 = .ok (.putfield 42, 3) := by decide +kernel
theorem dX0_begin_36 : decode cX0_begin 36 = .ok (.aload_n 0, 1) := by decide +kernel
theorem dX0_begin_37 : decode cX0_begin 37 = .ok (.ldc 47, 2) := by decide +kernel
theorem dX0_begin_39 : decode cX0_begin 39 = .ok (.putfield 48, 3) := by decide +kernel
theorem dX0_begin_42 : decode cX0_begin 42 = .ok (.aload_n 0, 1) := by decide +kernel
theorem dX0_begin_43 : decode cX0_begin 43 = .ok (.iconst 0, 1) := by decide +kernel
theorem dX0_begin_44 : decode cX0_begin 44 = .ok (.putfield 51, 3) := by decide +kernel
theorem dX0_begin_47 : decode cX0_begin 47 = .ok (.return_, 1) := by decide +kernel
theorem dX0_copyFrom_0 : decode cX0_copyFrom 0 = .ok (.aload_n 0, 1) := by decide +kernel
theorem dX0_copyFrom_1 : decode cX0_copyFrom 1 = .ok (.aload_n 1, 1) := by decide +kernel
theorem dX0_copyFrom_2 : decode cX0_copyFrom 2 = .ok (.getfield 9, 3) := by decide +kernel
theorem dX0_copyFrom_5 : decode cX0_copyFrom 5 = .ok (.putfield 9, 3) := by decide +kernel
theorem dX0_copyFrom_8 : decode cX0_copyFrom 8 = .ok (.aload_n 0, 1) := by decide +kernel
theorem dX0_copyFrom_9 : decode cX0_copyFrom 9 = .ok (.aload_n 1, 1) := by decide +kernel
theorem dX0_copyFrom_10 : decode cX0_copyFrom 10 = .ok (.getfield 15, 3) := by decide +kernel
theorem dX0_copyFrom_13 : decode cX0_copyFrom 13 = .ok (.putfield 15, 3) := by decide +kernel
theorem dX0_copyFrom_16 : decode cX0_copyFrom 16 = .ok (.aload_n 0, 1) := by decide +kernel
theorem dX0_copyFrom_17 : decode cX0_copyFrom 17 = .ok (.aload_n 1, 1) := by decide +kernel
theorem dX0_copyFrom_18 : decode cX0_copyFrom 18 = .ok (.getfield 18, 3) := by decide +kernel
theorem dX0_copyFrom_21 : decode cX0_copyFrom 21 = .ok (.putfield 18, 3) := by decide +kernel
theorem dX0_copyFrom_24 : decode cX0_copyFrom 24 = .ok (.aload_n 0, 1) := by decide +kernel
theorem dX0_copyFrom_25 : decode cX0_copyFrom 25 = .ok (.aload_n 1, 1) := by decide +kernel
theorem dX0_copyFrom_26 : decode cX0_copyFrom 26 = .ok (.getfield 21, 3) := by decide +kernel
theorem dX0_copyFrom_29 : decode cX0_copyFrom 29 = .ok (.putfield 21, 3) := by decide +kernel
theorem dX0_copyFrom_32 : decode cX0_copyFrom 32 = .ok (.aload_n 0, 1) := by decide +kernel
theorem dX0_copyFrom_33 : decode cX0_copyFrom 33 = .ok (.aload_n 1, 1) := by decide +kernel
theorem dX0_copyFrom_34 : decode cX0_copyFrom 34 = .ok (.getfield 24, 3) := by decide +kernel
theorem dX0_copyFrom_37 : decode cX0_copyFrom 37 = .ok (.putfield 24, 3) := by decide +kernel
theorem dX0_copyFrom_40 : decode cX0_copyFrom 40 = .ok (.aload_n 0, 1) := by decide +kernel
theorem dX0_copyFrom_41 : decode cX0_copyFrom 41 = .ok (.aload_n 1, 1) := by decide +kernel
theorem dX0_copyFrom_42 : decode cX0_copyFrom 42 = .ok (.getfield 27, 3) := by decide +kernel
theorem dX0_copyFrom_45 : decode cX0_copyFrom 45 = .ok (.putfield 27, 3) := by decide +kernel
theorem dX0_copyFrom_48 : decode cX0_copyFrom 48 = .ok (.aload_n 0, 1) := by decide +kernel
theorem dX0_copyFrom_49 : decode cX0_copyFrom 49 = .ok (.aload_n 1, 1) := by decide +kernel
theorem dX0_copyFrom_50 : decode cX0_copyFrom 50 = .ok (.getfield 30, 3) := by decide +kernel
theorem dX0_copyFrom_53 : decode cX0_copyFrom 53 = .ok (.putfield 30, 3) := by decide +kernel
theorem dX0_copyFrom_56 : decode cX0_copyFrom 56 = .ok (.aload_n 0, 1) := by decide +kernel
theorem dX0_copyFrom_57 : decode cX0_copyFrom 57 = .ok (.aload_n 1, 1) := by decide +kernel
theorem dX0_copyFrom_58 : decode cX0_copyFrom 58 = .ok (.getfield 33, 3) := by decide +kernel
theorem dX0_copyFrom_61 : decode cX0_copyFrom 61 = .ok (.putfield 33, 3) := by decide +kernel
theorem dX0_copyFrom_64 : decode cX0_copyFrom 64 = .ok (.aload_n 0, 1) := by decide +kernel
theorem dX0_copyFrom_65 : decode cX0_copyFrom 65 = .ok (.aload_n 1, 1) := by decide +kernel
theorem dX0_copyFrom_66 : decode cX0_copyFrom 66 = .ok (.getfield 36, 3) := by decide +kernel
theorem dX0_copyFrom_69 : decode cX0_copyFrom 69 = .ok (.putfield 36, 3) := by decide +kernel
theorem dX0_copyFrom_72 : decode cX0_copyFrom 72 = .ok (.aload_n 0, 1) := by decide +kernel
theorem dX0_copyFrom_73 : decode cX0_copyFrom 73 = .ok (.aload_n 1, 1) := by decide +kernel
theorem dX0_copyFrom_74 : decode cX0_copyFrom 74 = .ok (.getfield 39, 3) := by decide +kernel
theorem dX0_copyFrom_77 : decode cX0_copyFrom 77 = .ok (.putfield 39, 3) := by decide +kernel
theorem dX0_copyFrom_80 : decode cX0_copyFrom 80 = .ok (.aload_n 0, 1) := by decide +kernel
theorem dX0_copyFrom_81 : decode cX0_copyFrom 81 = .ok (.aload_n 1, 1) := by decide +kernel
theorem dX0_copyFrom_82 : decode cX0_copyFrom 82 = .ok (.getfield 42, 3) := by decide +kernel
theorem dX0_copyFrom_85 : decode cX0_copyFrom 85 = .ok (.putfield 42, 3) := by decide +kernel
theorem dX0_copyFrom_88 : decode cX0_copyFrom 88 = .ok (.aload_n 0, 1) := by decide +kernel
theorem dX0_copyFrom_89 : decode cX0_copyFrom 89 = .ok (.aload_n 1, 1) := by decide +kernel
theorem dX0_copyFrom_90 : decode cX0_copyFrom 90 = .ok (.getfield 48, 3) := by decide +kernel
theorem dX0_copyFrom_93 : decode cX0_copyFrom 93 = .ok (.putfield 48, 3) := by decide +kernel
theorem dX0_copyFrom_96 : decode cX0_copyFrom 96 = .ok (.aload_n 0, 1) := by decide +kernel
theorem dX0_copyFrom_97 : decode cX0_copyFrom 97 = .ok (.aload_n 1, 1) := by decide +kernel
theorem dX0_copyFrom_98 : decode cX0_copyFrom 98 = .ok (.getfield 51, 3) := by decide +kernel
theorem dX0_copyFrom_101 : decode cX0_copyFrom 101 = .ok (.putfield 51, 3) := by decide +kernel
theorem dX0_copyFrom_104 : decode cX0_copyFrom 104 = .ok (.aload_n 0, 1) := by decide +kernel
theorem dX0_copyFrom_105 : decode cX0_copyFrom 105 = .ok (.aload_n 1, 1) := by decide +kernel
theorem dX0_copyFrom_106 : decode cX0_copyFrom 106 = .ok (.getfield 55, 3) := by decide +kernel
theorem dX0_copyFrom_109 : decode cX0_copyFrom 109 = .ok (.putfield 55, 3) := by decide +kernel
theorem dX0_copyFrom_112 : decode cX0_copyFrom 112 = .ok (.return_, 1) := by decide +kernel
theorem dX0_tell_0 : decode cX0_tell 0 = .ok (.iload_n 1, 1) := by decide +kernel
theorem dX0_tell_1 : decode cX0_tell 1 = .ok (.tableswitch 113 0 9 #[55, 60, 65, 70, 75, 80, 85, 90, 103, 108], 55) := by decide +kernel
theorem dX0_tell_56 : decode cX0_tell 56 = .ok (.aload_n 0, 1) := by decide +kernel
theorem dX0_tell_57 : decode cX0_tell 57 = .ok (.getfield 9, 3) := by decide +kernel
theorem dX0_tell_60 : decode cX0_tell 60 = .ok (.ireturn, 1) := by decide +kernel
theorem dX0_tell_61 : decode cX0_tell 61 = .ok (.aload_n 0, 1) := by decide +kernel
theorem dX0_tell_62 : decode cX0_tell 62 = .ok (.getfield 21, 3) := by decide +kernel
theorem dX0_tell_65 : decode cX0_tell 65 = .ok (.ireturn, 1) := by decide +kernel
theorem dX0_tell_66 : decode cX0_tell 66 = .ok (.aload_n 0, 1) := by decide +kernel
theorem dX0_tell_67 : decode cX0_tell 67 = .ok (.getfield 24, 3) := by decide +kernel
theorem dX0_tell_70 : decode cX0_tell 70 = .ok (.ireturn, 1) := by decide +kernel
theorem dX0_tell_71 : decode cX0_tell 71 = .ok (.aload_n 0, 1) := by decide +kernel
theorem dX0_tell_72 : decode cX0_tell 72 = .ok (.getfield 27, 3) := by decide +kernel
theorem dX0_tell_75 : decode cX0_tell 75 = .ok (.ireturn, 1) := by decide +kernel
theorem dX0_tell_76 : decode cX0_tell 76 = .ok (.aload_n 0, 1) := by decide +kernel
theorem dX0_tell_77 : decode cX0_tell 77 = .ok (.getfield 30, 3) := by decide +kernel
theorem dX0_tell_80 : decode cX0_tell 80 = .ok (.ireturn, 1) := by decide +kernel
theorem dX0_tell_81 : decode cX0_tell 81 = .ok (.aload_n 0, 1) := by decide +kernel
theorem dX0_tell_82 : decode cX0_tell 82 = .ok (.getfield 33, 3) := by decide +kernel
theorem dX0_tell_85 : decode cX0_tell 85 = .ok (.ireturn, 1) := by decide +kernel
theorem dX0_tell_86 : decode cX0_tell 86 = .ok (.aload_n 0, 1) := by decide +kernel
theorem dX0_tell_87 : decode cX0_tell 87 = .ok (.getfield 36, 3) := by decide +kernel
theorem dX0_tell_90 : decode cX0_tell 90 = .ok (.ireturn, 1) := by decide +kernel
theorem dX0_tell_91 : decode cX0_tell 91 = .ok (.aload_n 0, 1) := by decide +kernel
theorem dX0_tell_92 : decode cX0_tell 92 = .ok (.getfield 51, 3) := by decide +kernel
theorem dX0_tell_95 : decode cX0_tell 95 = .ok (.ifCond .eq 7, 3) := by decide +kernel
theorem dX0_tell_98 : decode cX0_tell 98 = .ok (.iconst 1, 1) := by decide +kernel
theorem dX0_tell_99 : decode cX0_tell 99 = .ok (.goto 4, 3) := by decide +kernel
theorem dX0_tell_102 : decode cX0_tell 102 = .ok (.iconst 0, 1) := by decide +kernel
theorem dX0_tell_103 : decode cX0_tell 103 = .ok (.ireturn, 1) := by decide +kernel
theorem dX0_tell_104 : decode cX0_tell 104 = .ok (.aload_n 0, 1) := by decide +kernel
theorem dX0_tell_105 : decode cX0_tell 105 = .ok (.getfield 39, 3) := by decide +kernel
theorem dX0_tell_108 : decode cX0_tell 108 = .ok (.ireturn, 1) := by decide +kernel
theorem dX0_tell_109 : decode cX0_tell 109 = .ok (.aload_n 0, 1) := by decide +kernel
theorem dX0_tell_110 : decode cX0_tell 110 = .ok (.getfield 42, 3) := by decide +kernel
theorem dX0_tell_113 : decode cX0_tell 113 = .ok (.ireturn, 1) := by decide +kernel
theorem dX0_tell_114 : decode cX0_tell 114 = .ok (.aload_n 0, 1) := by decide +kernel
theorem dX0_tell_115 : decode cX0_tell 115 = .ok (.getfield 48, 3) := by decide +kernel
theorem dX0_tell_118 : decode cX0_tell 118 = .ok (.ireturn, 1) := by decide +kernel
theorem dX0_law_0 : decode cX0_law 0 = .ok (.iload_n 1, 1) := by decide +kernel
theorem dX0_law_1 : decode cX0_law 1 = .ok (.iload_n 2, 1) := by decide +kernel
theorem dX0_law_2 : decode cX0_law 2 = .ok (.aload_n 0, 1) := by decide +kernel
theorem dX0_law_3 : decode cX0_law 3 = .ok (.getfield 48, 3) := by decide +kernel
theorem dX0_law_6 : decode cX0_law 6 = .ok (.imul, 1) := by decide +kernel
theorem dX0_law_7 : decode cX0_law 7 = .ok (.bipush 16, 2) := by decide +kernel
theorem dX0_law_9 : decode cX0_law 9 = .ok (.ishr, 1) := by decide +kernel
theorem dX0_law_10 : decode cX0_law 10 = .ok (.iadd, 1) := by decide +kernel
theorem dX0_law_11 : decode cX0_law 11 = .ok (.ireturn, 1) := by decide +kernel
theorem dX0_clear_0 : decode cX0_clear 0 = .ok (.aload_n 0, 1) := by decide +kernel
theorem dX0_clear_1 : decode cX0_clear 1 = .ok (.bipush (-2), 2) := by decide +kernel
theorem dX0_clear_3 : decode cX0_clear 3 = .ok (.iconst 0, 1) := by decide +kernel
theorem dX0_clear_4 : decode cX0_clear 4 = .ok (.iconst 0, 1) := by decide +kernel
theorem dX0_clear_5 : decode cX0_clear 5 = .ok (.invokevirtual 58, 3) := by decide +kernel
theorem dX0_clear_8 : decode cX0_clear 8 = .ok (.aload_n 0, 1) := by decide +kernel
theorem dX0_clear_9 : decode cX0_clear 9 = .ok (.bipush (-2), 2) := by decide +kernel
theorem dX0_clear_11 : decode cX0_clear 11 = .ok (.putfield 15, 3) := by decide +kernel
theorem dX0_clear_14 : decode cX0_clear 14 = .ok (.aload_n 0, 1) := by decide +kernel
theorem dX0_clear_15 : decode cX0_clear 15 = .ok (.bipush (-2), 2) := by decide +kernel
theorem dX0_clear_17 : decode cX0_clear 17 = .ok (.putfield 18, 3) := by decide +kernel
theorem dX0_clear_20 : decode cX0_clear 20 = .ok (.aload_n 0, 1) := by decide +kernel
theorem dX0_clear_21 : decode cX0_clear 21 = .ok (.iconst 0, 1) := by decide +kernel
theorem dX0_clear_22 : decode cX0_clear 22 = .ok (.putfield 21, 3) := by decide +kernel
theorem dX0_clear_25 : decode cX0_clear 25 = .ok (.aload_n 0, 1) := by decide +kernel
theorem dX0_clear_26 : decode cX0_clear 26 = .ok (.iconst 0, 1) := by decide +kernel
theorem dX0_clear_27 : decode cX0_clear 27 = .ok (.putfield 24, 3) := by decide +kernel
theorem dX0_clear_30 : decode cX0_clear 30 = .ok (.aload_n 0, 1) := by decide +kernel
theorem dX0_clear_31 : decode cX0_clear 31 = .ok (.iconst 0, 1) := by decide +kernel
theorem dX0_clear_32 : decode cX0_clear 32 = .ok (.putfield 30, 3) := by decide +kernel
theorem dX0_clear_35 : decode cX0_clear 35 = .ok (.return_, 1) := by decide +kernel
def p_X0_begin (h : Hp) (o0 : Nat) (x1 : Int32) (x2 : Int32) (x3 : Int32) : Option Hp :=
  nv (hp h o0 0 x1) fun h1 => nv (hp h1 o0 5 x2) fun h2 => nv (hp h2 o0 13 x3) fun h3 => nv (hp h3 o0 7 0) fun h4 => nv (hp h4 o0 8 0) fun h5 => nv (hp h5 o0 9 0) fun h6 => nv (hp h6 o0 10 (-2)) fun h7 => nv (hp h7 o0 11 65535) fun h8 => nv (hp h8 o0 12 0) fun h9 => some h9
set_option maxRecDepth 4000 in
theorem s_X0_begin {p : Program} {l : Launch} {e : Env} {s : State} {m : MethodId} {args : Array Value} {below : List Frame} {meth : Method} {c : Code} {G : GT} (cx : CX p s m args c cX0_begin 4 RX0 G) (hr : meth.sig.returnType = none) (hlk : meth.locks = false) (h : Hp) (o0 : Nat) (x1 : Int32) (x2 : Int32) (x3 : Int32) (hk_o0 : kd o0 = 0) : PF p l e (rmc 0 0) s m args below meth c 4 G 0 0 (QV below G args s) 0 [some (.ref (gad G o0)), some (.int x1), some (.int x2), some (.int x3)] [] h (p_X0_begin h o0 x1 x2 x3) := by
  unfold p_X0_begin
  refine f_aload_n (pc := 0) cx dX0_begin_0 rfl rfl ?_
  refine f_iload_n (pc := 1) cx dX0_begin_1 rfl rfl ?_
  refine u_X0_9 (pc := 2) cx hk_o0 dX0_begin_2 ?_
  refine f_nvh (fun h1 => ?_)
  refine f_aload_n (pc := 5) cx dX0_begin_5 rfl rfl ?_
  refine f_iload_n (pc := 6) cx dX0_begin_6 rfl rfl ?_
  refine u_X0_27 (pc := 7) cx hk_o0 dX0_begin_7 ?_
  refine f_nvh (fun h2 => ?_)
  refine f_aload_n (pc := 10) cx dX0_begin_10 rfl rfl ?_
  refine f_iload_n (pc := 11) cx dX0_begin_11 rfl rfl ?_
  refine u_X0_55 (pc := 12) cx hk_o0 dX0_begin_12 ?_
  refine f_nvh (fun h3 => ?_)
  refine f_aload_n (pc := 15) cx dX0_begin_15 rfl rfl ?_
  refine f_iconst (pc := 16) cx dX0_begin_16 kc_iconst_0 ?_
  refine u_X0_33 (pc := 17) cx hk_o0 dX0_begin_17 ?_
  refine f_nvh (fun h4 => ?_)
  refine f_aload_n (pc := 20) cx dX0_begin_20 rfl rfl ?_
  refine f_iconst (pc := 21) cx dX0_begin_21 kc_iconst_0 ?_
  refine u_X0_36 (pc := 22) cx hk_o0 dX0_begin_22 ?_
  refine f_nvh (fun h5 => ?_)
  refine f_aload_n (pc := 25) cx dX0_begin_25 rfl rfl ?_
  refine f_iconst (pc := 26) cx dX0_begin_26 kc_iconst_0 ?_
  refine u_X0_39 (pc := 27) cx hk_o0 dX0_begin_27 ?_
  refine f_nvh (fun h6 => ?_)
  refine f_aload_n (pc := 30) cx dX0_begin_30 rfl rfl ?_
  refine f_bipush (pc := 31) cx dX0_begin_31 kc_bipush_m2 ?_
  refine u_X0_42 (pc := 33) cx hk_o0 dX0_begin_33 ?_
  refine f_nvh (fun h7 => ?_)
  refine f_aload_n (pc := 36) cx dX0_begin_36 rfl rfl ?_
  refine f_ldc (pc := 37) cx w_312 dX0_begin_37 ?_
  refine u_X0_48 (pc := 39) cx hk_o0 dX0_begin_39 ?_
  refine f_nvh (fun h8 => ?_)
  refine f_aload_n (pc := 42) cx dX0_begin_42 rfl rfl ?_
  refine f_iconst (pc := 43) cx dX0_begin_43 kc_iconst_0 ?_
  refine u_X0_51 (pc := 44) cx hk_o0 bb_0 dX0_begin_44 ?_
  refine f_nvh (fun h9 => ?_)
  exact f_vret cx hr hlk dX0_begin_47
set_option maxRecDepth 4000 in
theorem c_X0_begin (l : Launch) (G : GT) (h : Hp) (o0 : Nat) (x1 : Int32) (x2 : Int32) (x3 : Int32) (hk_o0 : kd o0 = 0) : CtV l G yX0_begin cX0_begin 4 none 0 0 [.ref (gad G o0), .int x1, .int x2, .int x3] h (p_X0_begin h o0 x1 x2 x3) := fun a ha => Ct.of (lv := [some (.ref (gad G o0)), some (.int x1), some (.int x2), some (.int x3)]) (by decide) rfl (Nat.le_of_ble_eq_true rfl) rfl (fun p e s m args below meth c cx hr hlk => s_X0_begin cx hr hlk h o0 x1 x2 x3 hk_o0 a ha)
def p_X0_copyFrom (h : Hp) (o0 : Nat) (o1 : Nat) : Option Hp :=
  nv (hp h o0 0 (h o1 0)) fun h1 => nv (hp h1 o0 1 (h1 o1 1)) fun h2 => nv (hp h2 o0 2 (h2 o1 2)) fun h3 => nv (hp h3 o0 3 (h3 o1 3)) fun h4 => nv (hp h4 o0 4 (h4 o1 4)) fun h5 => nv (hp h5 o0 5 (h5 o1 5)) fun h6 => nv (hp h6 o0 6 (h6 o1 6)) fun h7 => nv (hp h7 o0 7 (h7 o1 7)) fun h8 => nv (hp h8 o0 8 (h8 o1 8)) fun h9 => nv (hp h9 o0 9 (h9 o1 9)) fun h10 => nv (hp h10 o0 10 (h10 o1 10)) fun h11 => nv (hp h11 o0 11 (h11 o1 11)) fun h12 => if bb (h12 o1 12) then (nv (hp h12 o0 12 (h12 o1 12)) fun h14 => nv (hp h14 o0 13 (h14 o1 13)) fun h15 => some h15) else none
set_option maxRecDepth 4000 in
theorem s_X0_copyFrom {p : Program} {l : Launch} {e : Env} {s : State} {m : MethodId} {args : Array Value} {below : List Frame} {meth : Method} {c : Code} {G : GT} (cx : CX p s m args c cX0_copyFrom 2 RX0 G) (hr : meth.sig.returnType = none) (hlk : meth.locks = false) (h : Hp) (o0 : Nat) (o1 : Nat) (hk_o0 : kd o0 = 0) (hk_o1 : kd o1 = 0) : PF p l e (rmc 0 0) s m args below meth c 2 G 0 0 (QV below G args s) 0 [some (.ref (gad G o0)), some (.ref (gad G o1))] [] h (p_X0_copyFrom h o0 o1) := by
  unfold p_X0_copyFrom
  refine f_aload_n (pc := 0) cx dX0_copyFrom_0 rfl rfl ?_
  refine f_aload_n (pc := 1) cx dX0_copyFrom_1 rfl rfl ?_
  refine g_X0_9 (pc := 2) cx hk_o1 dX0_copyFrom_2 ?_
  refine u_X0_9 (pc := 5) cx hk_o0 dX0_copyFrom_5 ?_
  refine f_nvh (fun h1 => ?_)
  refine f_aload_n (pc := 8) cx dX0_copyFrom_8 rfl rfl ?_
  refine f_aload_n (pc := 9) cx dX0_copyFrom_9 rfl rfl ?_
  refine g_X0_15 (pc := 10) cx hk_o1 dX0_copyFrom_10 ?_
  refine u_X0_15 (pc := 13) cx hk_o0 dX0_copyFrom_13 ?_
  refine f_nvh (fun h2 => ?_)
  refine f_aload_n (pc := 16) cx dX0_copyFrom_16 rfl rfl ?_
  refine f_aload_n (pc := 17) cx dX0_copyFrom_17 rfl rfl ?_
  refine g_X0_18 (pc := 18) cx hk_o1 dX0_copyFrom_18 ?_
  refine u_X0_18 (pc := 21) cx hk_o0 dX0_copyFrom_21 ?_
  refine f_nvh (fun h3 => ?_)
  refine f_aload_n (pc := 24) cx dX0_copyFrom_24 rfl rfl ?_
  refine f_aload_n (pc := 25) cx dX0_copyFrom_25 rfl rfl ?_
  refine g_X0_21 (pc := 26) cx hk_o1 dX0_copyFrom_26 ?_
  refine u_X0_21 (pc := 29) cx hk_o0 dX0_copyFrom_29 ?_
  refine f_nvh (fun h4 => ?_)
  refine f_aload_n (pc := 32) cx dX0_copyFrom_32 rfl rfl ?_
  refine f_aload_n (pc := 33) cx dX0_copyFrom_33 rfl rfl ?_
  refine g_X0_24 (pc := 34) cx hk_o1 dX0_copyFrom_34 ?_
  refine u_X0_24 (pc := 37) cx hk_o0 dX0_copyFrom_37 ?_
  refine f_nvh (fun h5 => ?_)
  refine f_aload_n (pc := 40) cx dX0_copyFrom_40 rfl rfl ?_
  refine f_aload_n (pc := 41) cx dX0_copyFrom_41 rfl rfl ?_
  refine g_X0_27 (pc := 42) cx hk_o1 dX0_copyFrom_42 ?_
  refine u_X0_27 (pc := 45) cx hk_o0 dX0_copyFrom_45 ?_
  refine f_nvh (fun h6 => ?_)
  refine f_aload_n (pc := 48) cx dX0_copyFrom_48 rfl rfl ?_
  refine f_aload_n (pc := 49) cx dX0_copyFrom_49 rfl rfl ?_
  refine g_X0_30 (pc := 50) cx hk_o1 dX0_copyFrom_50 ?_
  refine u_X0_30 (pc := 53) cx hk_o0 dX0_copyFrom_53 ?_
  refine f_nvh (fun h7 => ?_)
  refine f_aload_n (pc := 56) cx dX0_copyFrom_56 rfl rfl ?_
  refine f_aload_n (pc := 57) cx dX0_copyFrom_57 rfl rfl ?_
  refine g_X0_33 (pc := 58) cx hk_o1 dX0_copyFrom_58 ?_
  refine u_X0_33 (pc := 61) cx hk_o0 dX0_copyFrom_61 ?_
  refine f_nvh (fun h8 => ?_)
  refine f_aload_n (pc := 64) cx dX0_copyFrom_64 rfl rfl ?_
  refine f_aload_n (pc := 65) cx dX0_copyFrom_65 rfl rfl ?_
  refine g_X0_36 (pc := 66) cx hk_o1 dX0_copyFrom_66 ?_
  refine u_X0_36 (pc := 69) cx hk_o0 dX0_copyFrom_69 ?_
  refine f_nvh (fun h9 => ?_)
  refine f_aload_n (pc := 72) cx dX0_copyFrom_72 rfl rfl ?_
  refine f_aload_n (pc := 73) cx dX0_copyFrom_73 rfl rfl ?_
  refine g_X0_39 (pc := 74) cx hk_o1 dX0_copyFrom_74 ?_
  refine u_X0_39 (pc := 77) cx hk_o0 dX0_copyFrom_77 ?_
  refine f_nvh (fun h10 => ?_)
  refine f_aload_n (pc := 80) cx dX0_copyFrom_80 rfl rfl ?_
  refine f_aload_n (pc := 81) cx dX0_copyFrom_81 rfl rfl ?_
  refine g_X0_42 (pc := 82) cx hk_o1 dX0_copyFrom_82 ?_
  refine u_X0_42 (pc := 85) cx hk_o0 dX0_copyFrom_85 ?_
  refine f_nvh (fun h11 => ?_)
  refine f_aload_n (pc := 88) cx dX0_copyFrom_88 rfl rfl ?_
  refine f_aload_n (pc := 89) cx dX0_copyFrom_89 rfl rfl ?_
  refine g_X0_48 (pc := 90) cx hk_o1 dX0_copyFrom_90 ?_
  refine u_X0_48 (pc := 93) cx hk_o0 dX0_copyFrom_93 ?_
  refine f_nvh (fun h12 => ?_)
  refine f_aload_n (pc := 96) cx dX0_copyFrom_96 rfl rfl ?_
  refine f_aload_n (pc := 97) cx dX0_copyFrom_97 rfl rfl ?_
  refine g_X0_51 (pc := 98) cx hk_o1 dX0_copyFrom_98 ?_
  refine f_need (fun c13 => ?_)
  refine u_X0_51 (pc := 101) cx hk_o0 c13 dX0_copyFrom_101 ?_
  refine f_nvh (fun h14 => ?_)
  refine f_aload_n (pc := 104) cx dX0_copyFrom_104 rfl rfl ?_
  refine f_aload_n (pc := 105) cx dX0_copyFrom_105 rfl rfl ?_
  refine g_X0_55 (pc := 106) cx hk_o1 dX0_copyFrom_106 ?_
  refine u_X0_55 (pc := 109) cx hk_o0 dX0_copyFrom_109 ?_
  refine f_nvh (fun h15 => ?_)
  exact f_vret cx hr hlk dX0_copyFrom_112
set_option maxRecDepth 4000 in
theorem c_X0_copyFrom (l : Launch) (G : GT) (h : Hp) (o0 : Nat) (o1 : Nat) (hk_o0 : kd o0 = 0) (hk_o1 : kd o1 = 0) : CtV l G yX0_copyFrom cX0_copyFrom 2 none 0 0 [.ref (gad G o0), .ref (gad G o1)] h (p_X0_copyFrom h o0 o1) := fun a ha => Ct.of (lv := [some (.ref (gad G o0)), some (.ref (gad G o1))]) (by decide) rfl (Nat.le_of_ble_eq_true rfl) rfl (fun p e s m args below meth c cx hr hlk => s_X0_copyFrom cx hr hlk h o0 o1 hk_o0 hk_o1 a ha)
def p_X0_tell (h : Hp) (o0 : Nat) (x1 : Int32) : Option (Int32 × Hp) :=
  if x1 = 0 then (some (h o0 0, h)) else if x1 = 1 then (some (h o0 3, h)) else if x1 = 2 then (some (h o0 4, h)) else if x1 = 3 then (some (h o0 5, h)) else if x1 = 4 then (some (h o0 6, h)) else if x1 = 5 then (some (h o0 7, h)) else if x1 = 6 then (some (h o0 8, h)) else if x1 = 7 then (if (h o0 12) = 0 then (some (0, h)) else (some (1, h))) else if x1 = 8 then (some (h o0 9, h)) else if x1 = 9 then (some (h o0 10, h)) else (some (h o0 11, h))
set_option maxRecDepth 4000 in
theorem s_X0_tell {p : Program} {l : Launch} {e : Env} {s : State} {m : MethodId} {args : Array Value} {below : List Frame} {meth : Method} {c : Code} {G : GT} (cx : CX p s m args c cX0_tell 2 RX0 G) (hr : meth.sig.returnType = (some .int)) (hlk : meth.locks = false) (h : Hp) (o0 : Nat) (x1 : Int32) (hk_o0 : kd o0 = 0) : PF p l e (rmc 0 0) s m args below meth c 2 G 0 0 (QI below G args s) 0 [some (.ref (gad G o0)), some (.int x1)] [] h (p_X0_tell h o0 x1) := by
  unfold p_X0_tell
  refine f_iload_n (pc := 0) cx dX0_tell_0 rfl rfl ?_
  refine f_case (?_) (fun n1 => ?_)
  · refine f_tin (pc := 1) (tgt := 56) cx dX0_tell_1 (by decide) (by decide) rfl (by decide) ?_
    refine f_aload_n (pc := 56) cx dX0_tell_56 rfl rfl ?_
    refine g_X0_9 (pc := 57) cx hk_o0 dX0_tell_57 ?_
    exact f_iret cx hr hlk rfl dX0_tell_60
  refine f_case (?_) (fun n2 => ?_)
  · refine f_tin (pc := 1) (tgt := 61) cx dX0_tell_1 (by decide) (by decide) rfl (by decide) ?_
    refine f_aload_n (pc := 61) cx dX0_tell_61 rfl rfl ?_
    refine g_X0_21 (pc := 62) cx hk_o0 dX0_tell_62 ?_
    exact f_iret cx hr hlk rfl dX0_tell_65
  refine f_case (?_) (fun n3 => ?_)
  · refine f_tin (pc := 1) (tgt := 66) cx dX0_tell_1 (by decide) (by decide) rfl (by decide) ?_
    refine f_aload_n (pc := 66) cx dX0_tell_66 rfl rfl ?_
    refine g_X0_24 (pc := 67) cx hk_o0 dX0_tell_67 ?_
    exact f_iret cx hr hlk rfl dX0_tell_70
  refine f_case (?_) (fun n4 => ?_)
  · refine f_tin (pc := 1) (tgt := 71) cx dX0_tell_1 (by decide) (by decide) rfl (by decide) ?_
    refine f_aload_n (pc := 71) cx dX0_tell_71 rfl rfl ?_
    refine g_X0_27 (pc := 72) cx hk_o0 dX0_tell_72 ?_
    exact f_iret cx hr hlk rfl dX0_tell_75
  refine f_case (?_) (fun n5 => ?_)
  · refine f_tin (pc := 1) (tgt := 76) cx dX0_tell_1 (by decide) (by decide) rfl (by decide) ?_
    refine f_aload_n (pc := 76) cx dX0_tell_76 rfl rfl ?_
    refine g_X0_30 (pc := 77) cx hk_o0 dX0_tell_77 ?_
    exact f_iret cx hr hlk rfl dX0_tell_80
  refine f_case (?_) (fun n6 => ?_)
  · refine f_tin (pc := 1) (tgt := 81) cx dX0_tell_1 (by decide) (by decide) rfl (by decide) ?_
    refine f_aload_n (pc := 81) cx dX0_tell_81 rfl rfl ?_
    refine g_X0_33 (pc := 82) cx hk_o0 dX0_tell_82 ?_
    exact f_iret cx hr hlk rfl dX0_tell_85
  refine f_case (?_) (fun n7 => ?_)
  · refine f_tin (pc := 1) (tgt := 86) cx dX0_tell_1 (by decide) (by decide) rfl (by decide) ?_
    refine f_aload_n (pc := 86) cx dX0_tell_86 rfl rfl ?_
    refine g_X0_36 (pc := 87) cx hk_o0 dX0_tell_87 ?_
    exact f_iret cx hr hlk rfl dX0_tell_90
  refine f_case (?_) (fun n8 => ?_)
  · refine f_tin (pc := 1) (tgt := 91) cx dX0_tell_1 (by decide) (by decide) rfl (by decide) ?_
    refine f_aload_n (pc := 91) cx dX0_tell_91 rfl rfl ?_
    refine g_X0_51 (pc := 92) cx hk_o0 dX0_tell_92 ?_
    refine f_if_eq (pc := 95) (tgt := 102) cx dX0_tell_95 (by decide) (fun _ => ?_) (fun _ => ?_)
    · refine f_iconst (pc := 102) cx dX0_tell_102 kc_iconst_0 ?_
      exact f_iret cx hr hlk rfl dX0_tell_103
    · refine f_iconst (pc := 98) cx dX0_tell_98 kc_iconst_1 ?_
      refine f_goto (pc := 99) (tgt := 103) cx dX0_tell_99 (by decide) ?_
      exact f_iret cx hr hlk rfl dX0_tell_103
  refine f_case (?_) (fun n9 => ?_)
  · refine f_tin (pc := 1) (tgt := 104) cx dX0_tell_1 (by decide) (by decide) rfl (by decide) ?_
    refine f_aload_n (pc := 104) cx dX0_tell_104 rfl rfl ?_
    refine g_X0_39 (pc := 105) cx hk_o0 dX0_tell_105 ?_
    exact f_iret cx hr hlk rfl dX0_tell_108
  refine f_case (?_) (fun n10 => ?_)
  · refine f_tin (pc := 1) (tgt := 109) cx dX0_tell_1 (by decide) (by decide) rfl (by decide) ?_
    refine f_aload_n (pc := 109) cx dX0_tell_109 rfl rfl ?_
    refine g_X0_42 (pc := 110) cx hk_o0 dX0_tell_110 ?_
    exact f_iret cx hr hlk rfl dX0_tell_113
  refine f_tout (pc := 1) (tgt := 114) (N := 10) cx dX0_tell_1 (by decide) (by decide) (lt_s (lt_s (lt_s (lt_s (lt_s (lt_s (lt_s (lt_s (lt_s (lt_s lt_0 n1) n2) n3) n4) n5) n6) n7) n8) n9) n10) (by decide) ?_
  refine f_aload_n (pc := 114) cx dX0_tell_114 rfl rfl ?_
  refine g_X0_48 (pc := 115) cx hk_o0 dX0_tell_115 ?_
  exact f_iret cx hr hlk rfl dX0_tell_118
set_option maxRecDepth 4000 in
theorem c_X0_tell (l : Launch) (G : GT) (h : Hp) (o0 : Nat) (x1 : Int32) (hk_o0 : kd o0 = 0) : CtI l G yX0_tell cX0_tell 2 (some .int) 0 0 [.ref (gad G o0), .int x1] h (p_X0_tell h o0 x1) := fun a ha => Ct.of (lv := [some (.ref (gad G o0)), some (.int x1)]) (by decide) rfl (Nat.le_of_ble_eq_true rfl) rfl (fun p e s m args below meth c cx hr hlk => s_X0_tell cx hr hlk h o0 x1 hk_o0 a ha)
def p_X0_law (h : Hp) (o0 : Nat) (x1 : Int32) (x2 : Int32) : Option (Int32 × Hp) :=
  some (x1 + ((x2 * (h o0 11)) >>> (16 &&& 31)), h)
set_option maxRecDepth 4000 in
theorem s_X0_law {p : Program} {l : Launch} {e : Env} {s : State} {m : MethodId} {args : Array Value} {below : List Frame} {meth : Method} {c : Code} {G : GT} (cx : CX p s m args c cX0_law 3 RX0 G) (hr : meth.sig.returnType = (some .int)) (hlk : meth.locks = false) (h : Hp) (o0 : Nat) (x1 : Int32) (x2 : Int32) (hk_o0 : kd o0 = 0) : PF p l e (rmc 0 0) s m args below meth c 3 G 0 0 (QI below G args s) 0 [some (.ref (gad G o0)), some (.int x1), some (.int x2)] [] h (p_X0_law h o0 x1 x2) := by
  unfold p_X0_law
  refine f_iload_n (pc := 0) cx dX0_law_0 rfl rfl ?_
  refine f_iload_n (pc := 1) cx dX0_law_1 rfl rfl ?_
  refine f_aload_n (pc := 2) cx dX0_law_2 rfl rfl ?_
  refine g_X0_48 (pc := 3) cx hk_o0 dX0_law_3 ?_
  refine f_imul (pc := 6) cx dX0_law_6 ?_
  refine f_bipush (pc := 7) cx dX0_law_7 kc_bipush_16 ?_
  refine f_ishr (pc := 9) cx dX0_law_9 ?_
  refine f_iadd (pc := 10) cx dX0_law_10 ?_
  exact f_iret cx hr hlk rfl dX0_law_11
set_option maxRecDepth 4000 in
theorem c_X0_law (l : Launch) (G : GT) (h : Hp) (o0 : Nat) (x1 : Int32) (x2 : Int32) (hk_o0 : kd o0 = 0) : CtI l G yX0_law cX0_law 3 (some .int) 0 0 [.ref (gad G o0), .int x1, .int x2] h (p_X0_law h o0 x1 x2) := fun a ha => Ct.of (lv := [some (.ref (gad G o0)), some (.int x1), some (.int x2)]) (by decide) rfl (Nat.le_of_ble_eq_true rfl) rfl (fun p e s m args below meth c cx hr hlk => s_X0_law cx hr hlk h o0 x1 x2 hk_o0 a ha)
def p_X0_clear (h : Hp) (o0 : Nat) : Option Hp :=
  Option.bind (p_X0_begin h o0 (-2) 0 0) fun r1 => nv (hp r1 o0 1 (-2)) fun h2 => nv (hp h2 o0 2 (-2)) fun h3 => nv (hp h3 o0 3 0) fun h4 => nv (hp h4 o0 4 0) fun h5 => nv (hp h5 o0 6 0) fun h6 => some h6
set_option maxRecDepth 4000 in
theorem s_X0_clear {p : Program} {l : Launch} {e : Env} {s : State} {m : MethodId} {args : Array Value} {below : List Frame} {meth : Method} {c : Code} {G : GT} (cx : CX p s m args c cX0_clear 1 RX0 G) (hr : meth.sig.returnType = none) (hlk : meth.locks = false) (h : Hp) (o0 : Nat) (hk_o0 : kd o0 = 0) : PF p l e (rmc 1 23) s m args below meth c 1 G 0 0 (QV below G args s) 0 [some (.ref (gad G o0))] [] h (p_X0_clear h o0) := by
  unfold p_X0_clear
  refine f_aload_n (pc := 0) cx dX0_clear_0 rfl rfl ?_
  refine f_bipush (pc := 1) cx dX0_clear_1 kc_bipush_m2 ?_
  refine f_iconst (pc := 3) cx dX0_clear_3 kc_iconst_0 ?_
  refine f_iconst (pc := 4) cx dX0_clear_4 kc_iconst_0 ?_
  refine f_bind (fun r1 hr1 => ?_)
  refine k_X0_58 (pc := 5) cx (c_X0_begin l G _ o0 (-2) 0 0 hk_o0 r1 hr1) hk_o0 ⟨by decide, by decide⟩ ⟨Nat.zero_le _, Nat.zero_le _⟩ (Nat.le_of_ble_eq_true rfl) dX0_clear_5 ?_
  refine f_aload_n (pc := 8) cx dX0_clear_8 rfl rfl ?_
  refine f_bipush (pc := 9) cx dX0_clear_9 kc_bipush_m2 ?_
  refine u_X0_15 (pc := 11) cx hk_o0 dX0_clear_11 ?_
  refine f_nvh (fun h2 => ?_)
  refine f_aload_n (pc := 14) cx dX0_clear_14 rfl rfl ?_
  refine f_bipush (pc := 15) cx dX0_clear_15 kc_bipush_m2 ?_
  refine u_X0_18 (pc := 17) cx hk_o0 dX0_clear_17 ?_
  refine f_nvh (fun h3 => ?_)
  refine f_aload_n (pc := 20) cx dX0_clear_20 rfl rfl ?_
  refine f_iconst (pc := 21) cx dX0_clear_21 kc_iconst_0 ?_
  refine u_X0_21 (pc := 22) cx hk_o0 dX0_clear_22 ?_
  refine f_nvh (fun h4 => ?_)
  refine f_aload_n (pc := 25) cx dX0_clear_25 rfl rfl ?_
  refine f_iconst (pc := 26) cx dX0_clear_26 kc_iconst_0 ?_
  refine u_X0_24 (pc := 27) cx hk_o0 dX0_clear_27 ?_
  refine f_nvh (fun h5 => ?_)
  refine f_aload_n (pc := 30) cx dX0_clear_30 rfl rfl ?_
  refine f_iconst (pc := 31) cx dX0_clear_31 kc_iconst_0 ?_
  refine u_X0_30 (pc := 32) cx hk_o0 dX0_clear_32 ?_
  refine f_nvh (fun h6 => ?_)
  exact f_vret cx hr hlk dX0_clear_35
set_option maxRecDepth 4000 in
theorem c_X0_clear (l : Launch) (G : GT) (h : Hp) (o0 : Nat) (hk_o0 : kd o0 = 0) : CtV l G yX0_clear cX0_clear 1 none 1 23 [.ref (gad G o0)] h (p_X0_clear h o0) := fun a ha => Ct.of (lv := [some (.ref (gad G o0))]) (by decide) rfl (Nat.le_of_ble_eq_true rfl) rfl (fun p e s m args below meth c cx hr hlk => s_X0_clear cx hr hlk h o0 hk_o0 a ha)
