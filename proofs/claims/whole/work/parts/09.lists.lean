theorem kc_iconst_m1 : Int32.ofInt (-1) = (-1) := by decide
theorem dX2_clear_0 : decode cX2_clear 0 = .ok (.aload_n 0, 1) := by decide +kernel
theorem dX2_clear_1 : decode cX2_clear 1 = .ok (.iconst 0, 1) := by decide +kernel
theorem dX2_clear_2 : decode cX2_clear 2 = .ok (.putfield 15, 3) := by decide +kernel
theorem dX2_clear_5 : decode cX2_clear 5 = .ok (.aload_n 0, 1) := by decide +kernel
theorem dX2_clear_6 : decode cX2_clear 6 = .ok (.iconst 0, 1) := by decide +kernel
theorem dX2_clear_7 : decode cX2_clear 7 = .ok (.putfield 19, 3) := by decide +kernel
theorem dX2_clear_10 : decode cX2_clear 10 = .ok (.return_, 1) := by decide +kernel
theorem dX2_copyFrom_0 : decode cX2_copyFrom 0 = .ok (.aload_n 0, 1) := by decide +kernel
theorem dX2_copyFrom_1 : decode cX2_copyFrom 1 = .ok (.aload_n 1, 1) := by decide +kernel
theorem dX2_copyFrom_2 : decode cX2_copyFrom 2 = .ok (.getfield 15, 3) := by decide +kernel
theorem dX2_copyFrom_5 : decode cX2_copyFrom 5 = .ok (.putfield 15, 3) := by decide +kernel
theorem dX2_copyFrom_8 : decode cX2_copyFrom 8 = .ok (.aload_n 0, 1) := by decide +kernel
theorem dX2_copyFrom_9 : decode cX2_copyFrom 9 = .ok (.aload_n 1, 1) := by decide +kernel
theorem dX2_copyFrom_10 : decode cX2_copyFrom 10 = .ok (.getfield 19, 3) := by decide +kernel
theorem dX2_copyFrom_13 : decode cX2_copyFrom 13 = .ok (.putfield 19, 3) := by decide +kernel
theorem dX2_copyFrom_16 : decode cX2_copyFrom 16 = .ok (.aload_n 1, 1) := by decide +kernel
theorem dX2_copyFrom_17 : decode cX2_copyFrom 17 = .ok (.getfield 9, 3) := by decide +kernel
theorem dX2_copyFrom_20 : decode cX2_copyFrom 20 = .ok (.iconst 0, 1) := by decide +kernel
theorem dX2_copyFrom_21 : decode cX2_copyFrom 21 = .ok (.aload_n 0, 1) := by decide +kernel
theorem dX2_copyFrom_22 : decode cX2_copyFrom 22 = .ok (.getfield 9, 3) := by decide +kernel
theorem dX2_copyFrom_25 : decode cX2_copyFrom 25 = .ok (.iconst 0, 1) := by decide +kernel
theorem dX2_copyFrom_26 : decode cX2_copyFrom 26 = .ok (.bipush 16, 2) := by decide +kernel
theorem dX2_copyFrom_28 : decode cX2_copyFrom 28 = .ok (.invokestatic 22, 3) := by decide +kernel
theorem dX2_copyFrom_31 : decode cX2_copyFrom 31 = .ok (.return_, 1) := by decide +kernel
theorem dX2_at_0 : decode cX2_at 0 = .ok (.iload_n 1, 1) := by decide +kernel
theorem dX2_at_1 : decode cX2_at 1 = .ok (.ifCond .lt 26, 3) := by decide +kernel
theorem dX2_at_4 : decode cX2_at 4 = .ok (.iload_n 1, 1) := by decide +kernel
theorem dX2_at_5 : decode cX2_at 5 = .ok (.aload_n 0, 1) := by decide +kernel
theorem dX2_at_6 : decode cX2_at 6 = .ok (.getfield 19, 3) := by decide +kernel
theorem dX2_at_9 : decode cX2_at 9 = .ok (.if_icmp .ge 18, 3) := by decide +kernel
theorem dX2_at_12 : decode cX2_at 12 = .ok (.iload_n 1, 1) := by decide +kernel
theorem dX2_at_13 : decode cX2_at 13 = .ok (.bipush 16, 2) := by decide +kernel
theorem dX2_at_15 : decode cX2_at 15 = .ok (.if_icmp .ge 12, 3) := by decide +kernel
theorem dX2_at_18 : decode cX2_at 18 = .ok (.aload_n 0, 1) := by decide +kernel
theorem dX2_at_19 : decode cX2_at 19 = .ok (.getfield 9, 3) := by decide +kernel
theorem dX2_at_22 : decode cX2_at 22 = .ok (.iload_n 1, 1) := by decide +kernel
theorem dX2_at_23 : decode cX2_at 23 = .ok (.iaload, 1) := by decide +kernel
theorem dX2_at_24 : decode cX2_at 24 = .ok (.goto 5, 3) := by decide +kernel
theorem dX2_at_27 : decode cX2_at 27 = .ok (.bipush (-2), 2) := by decide +kernel
theorem dX2_at_29 : decode cX2_at 29 = .ok (.ireturn, 1) := by decide +kernel
theorem dX2_hasOld_0 : decode cX2_hasOld 0 = .ok (.aload_n 0, 1) := by decide +kernel
theorem dX2_hasOld_1 : decode cX2_hasOld 1 = .ok (.getfield 19, 3) := by decide +kernel
theorem dX2_hasOld_4 : decode cX2_hasOld 4 = .ok (.aload_n 0, 1) := by decide +kernel
theorem dX2_hasOld_5 : decode cX2_hasOld 5 = .ok (.getfield 15, 3) := by decide +kernel
theorem dX2_hasOld_8 : decode cX2_hasOld 8 = .ok (.if_icmp .le 7, 3) := by decide +kernel
theorem dX2_hasOld_11 : decode cX2_hasOld 11 = .ok (.iconst 1, 1) := by decide +kernel
theorem dX2_hasOld_12 : decode cX2_hasOld 12 = .ok (.goto 4, 3) := by decide +kernel
theorem dX2_hasOld_15 : decode cX2_hasOld 15 = .ok (.iconst 0, 1) := by decide +kernel
theorem dX2_hasOld_16 : decode cX2_hasOld 16 = .ok (.ireturn, 1) := by decide +kernel
theorem dX2_addNew_0 : decode cX2_addNew 0 = .ok (.aload_n 0, 1) := by decide +kernel
theorem dX2_addNew_1 : decode cX2_addNew 1 = .ok (.getfield 19, 3) := by decide +kernel
theorem dX2_addNew_4 : decode cX2_addNew 4 = .ok (.bipush 16, 2) := by decide +kernel
theorem dX2_addNew_6 : decode cX2_addNew 6 = .ok (.if_icmp .lt 4, 3) := by decide +kernel
theorem dX2_addNew_9 : decode cX2_addNew 9 = .ok (.return_, 1) := by decide +kernel
theorem dX2_addNew_10 : decode cX2_addNew 10 = .ok (.aload_n 0, 1) := by decide +kernel
theorem dX2_addNew_11 : decode cX2_addNew 11 = .ok (.getfield 19, 3) := by decide +kernel
theorem dX2_addNew_14 : decode cX2_addNew 14 = .ok (.istore_n 2, 1) := by decide +kernel
theorem dX2_addNew_15 : decode cX2_addNew 15 = .ok (.iload_n 2, 1) := by decide +kernel
theorem dX2_addNew_16 : decode cX2_addNew 16 = .ok (.aload_n 0, 1) := by decide +kernel
theorem dX2_addNew_17 : decode cX2_addNew 17 = .ok (.getfield 15, 3) := by decide +kernel
theorem dX2_addNew_20 : decode cX2_addNew 20 = .ok (.if_icmp .le 23, 3) := by decide +kernel
theorem dX2_addNew_23 : decode cX2_addNew 23 = .ok (.aload_n 0, 1) := by decide +kernel
theorem dX2_addNew_24 : decode cX2_addNew 24 = .ok (.getfield 9, 3) := by decide +kernel
theorem dX2_addNew_27 : decode cX2_addNew 27 = .ok (.iload_n 2, 1) := by decide +kernel
theorem dX2_addNew_28 : decode cX2_addNew 28 = .ok (.aload_n 0, 1) := by decide +kernel
theorem dX2_addNew_29 : decode cX2_addNew 29 = .ok (.getfield 9, 3) := by decide +kernel
theorem dX2_addNew_32 : decode cX2_addNew 32 = .ok (.iload_n 2, 1) := by decide +kernel
theorem dX2_addNew_33 : decode cX2_addNew 33 = .ok (.iconst 1, 1) := by decide +kernel
theorem dX2_addNew_34 : decode cX2_addNew 34 = .ok (.isub, 1) := by decide +kernel
theorem dX2_addNew_35 : decode cX2_addNew 35 = .ok (.iaload, 1) := by decide +kernel
theorem dX2_addNew_36 : decode cX2_addNew 36 = .ok (.iastore, 1) := by decide +kernel
theorem dX2_addNew_37 : decode cX2_addNew 37 = .ok (.iinc 2 (-1), 3) := by decide +kernel
theorem dX2_addNew_40 : decode cX2_addNew 40 = .ok (.goto (-25), 3) := by decide +kernel
theorem dX2_addNew_43 : decode cX2_addNew 43 = .ok (.aload_n 0, 1) := by decide +kernel
theorem dX2_addNew_44 : decode cX2_addNew 44 = .ok (.getfield 9, 3) := by decide +kernel
theorem dX2_addNew_47 : decode cX2_addNew 47 = .ok (.aload_n 0, 1) := by decide +kernel
theorem dX2_addNew_48 : decode cX2_addNew 48 = .ok (.getfield 15, 3) := by decide +kernel
theorem dX2_addNew_51 : decode cX2_addNew 51 = .ok (.iload_n 1, 1) := by decide +kernel
theorem dX2_addNew_52 : decode cX2_addNew 52 = .ok (.iastore, 1) := by decide +kernel
theorem dX2_addNew_53 : decode cX2_addNew 53 = .ok (.aload_n 0, 1) := by decide +kernel
theorem dX2_addNew_54 : decode cX2_addNew 54 = .ok (.dup, 1) := by decide +kernel
theorem dX2_addNew_55 : decode cX2_addNew 55 = .ok (.getfield 15, 3) := by decide +kernel
theorem dX2_addNew_58 : decode cX2_addNew 58 = .ok (.iconst 1, 1) := by decide +kernel
theorem dX2_addNew_59 : decode cX2_addNew 59 = .ok (.iadd, 1) := by decide +kernel
theorem dX2_addNew_60 : decode cX2_addNew 60 = .ok (.putfield 15, 3) := by decide +kernel
theorem dX2_addNew_63 : decode cX2_addNew 63 = .ok (.aload_n 0, 1) := by decide +kernel
theorem dX2_addNew_64 : decode cX2_addNew 64 = .ok (.dup, 1) := by decide +kernel
theorem dX2_addNew_65 : decode cX2_addNew 65 = .ok (.getfield 19, 3) := by decide +kernel
theorem dX2_addNew_68 : decode cX2_addNew 68 = .ok (.iconst 1, 1) := by decide +kernel
theorem dX2_addNew_69 : decode cX2_addNew 69 = .ok (.iadd, 1) := by decide +kernel
theorem dX2_addNew_70 : decode cX2_addNew 70 = .ok (.putfield 19, 3) := by decide +kernel
theorem dX2_addNew_73 : decode cX2_addNew 73 = .ok (.return_, 1) := by decide +kernel
theorem dX2_removeHead_0 : decode cX2_removeHead 0 = .ok (.aload_n 0, 1) := by decide +kernel
theorem dX2_removeHead_1 : decode cX2_removeHead 1 = .ok (.getfield 19, 3) := by decide +kernel
theorem dX2_removeHead_4 : decode cX2_removeHead 4 = .ok (.ifCond .gt 4, 3) := by decide +kernel
theorem dX2_removeHead_7 : decode cX2_removeHead 7 = .ok (.return_, 1) := by decide +kernel
theorem dX2_removeHead_8 : decode cX2_removeHead 8 = .ok (.iconst 1, 1) := by decide +kernel
theorem dX2_removeHead_9 : decode cX2_removeHead 9 = .ok (.istore_n 1, 1) := by decide +kernel
theorem dX2_removeHead_10 : decode cX2_removeHead 10 = .ok (.iload_n 1, 1) := by decide +kernel
theorem dX2_removeHead_11 : decode cX2_removeHead 11 = .ok (.aload_n 0, 1) := by decide +kernel
theorem dX2_removeHead_12 : decode cX2_removeHead 12 = .ok (.getfield 19, 3) := by decide +kernel
theorem dX2_removeHead_15 : decode cX2_removeHead 15 = .ok (.if_icmp .ge 23, 3) := by decide +kernel
theorem dX2_removeHead_18 : decode cX2_removeHead 18 = .ok (.aload_n 0, 1) := by decide +kernel
theorem dX2_removeHead_19 : decode cX2_removeHead 19 = .ok (.getfield 9, 3) := by decide +kernel
theorem dX2_removeHead_22 : decode cX2_removeHead 22 = .ok (.iload_n 1, 1) := by decide +kernel
theorem dX2_removeHead_23 : decode cX2_removeHead 23 = .ok (.iconst 1, 1) := by decide +kernel
theorem dX2_removeHead_24 : decode cX2_removeHead 24 = .ok (.isub, 1) := by decide +kernel
theorem dX2_removeHead_25 : decode cX2_removeHead 25 = .ok (.aload_n 0, 1) := by decide +kernel
theorem dX2_removeHead_26 : decode cX2_removeHead 26 = .ok (.getfield 9, 3) := by decide +kernel
theorem dX2_removeHead_29 : decode cX2_removeHead 29 = .ok (.iload_n 1, 1) := by decide +kernel
theorem dX2_removeHead_30 : decode cX2_removeHead 30 = .ok (.iaload, 1) := by decide +kernel
theorem dX2_removeHead_31 : decode cX2_removeHead 31 = .ok (.iastore, 1) := by decide +kernel
theorem dX2_removeHead_32 : decode cX2_removeHead 32 = .ok (.iinc 1 1, 3) := by decide +kernel
theorem dX2_removeHead_35 : decode cX2_removeHead 35 = .ok (.goto (-25), 3) := by decide +kernel
theorem dX2_removeHead_38 : decode cX2_removeHead 38 = .ok (.aload_n 0, 1) := by decide +kernel
theorem dX2_removeHead_39 : decode cX2_removeHead 39 = .ok (.dup, 1) := by decide +kernel
theorem dX2_removeHead_40 : decode cX2_removeHead 40 = .ok (.getfield 19, 3) := by decide +kernel
theorem dX2_removeHead_43 : decode cX2_removeHead 43 = .ok (.iconst 1, 1) := by decide +kernel
theorem dX2_removeHead_44 : decode cX2_removeHead 44 = .ok (.isub, 1) := by decide +kernel
theorem dX2_removeHead_45 : decode cX2_removeHead 45 = .ok (.putfield 19, 3) := by decide +kernel
theorem dX2_removeHead_48 : decode cX2_removeHead 48 = .ok (.aload_n 0, 1) := by decide +kernel
theorem dX2_removeHead_49 : decode cX2_removeHead 49 = .ok (.aload_n 0, 1) := by decide +kernel
theorem dX2_removeHead_50 : decode cX2_removeHead 50 = .ok (.getfield 15, 3) := by decide +kernel
theorem dX2_removeHead_53 : decode cX2_removeHead 53 = .ok (.iconst 1, 1) := by decide +kernel
theorem dX2_removeHead_54 : decode cX2_removeHead 54 = .ok (.isub, 1) := by decide +kernel
theorem dX2_removeHead_55 : decode cX2_removeHead 55 = .ok (.iconst 0, 1) := by decide +kernel
theorem dX2_removeHead_56 : decode cX2_removeHead 56 = .ok (.invokestatic 28, 3) := by decide +kernel
theorem dX2_removeHead_59 : decode cX2_removeHead 59 = .ok (.putfield 15, 3) := by decide +kernel
theorem dX2_removeHead_62 : decode cX2_removeHead 62 = .ok (.return_, 1) := by decide +kernel
theorem dX2_headToOld_0 : decode cX2_headToOld 0 = .ok (.aload_n 0, 1) := by decide +kernel
theorem dX2_headToOld_1 : decode cX2_headToOld 1 = .ok (.iconst 0, 1) := by decide +kernel
theorem dX2_headToOld_2 : decode cX2_headToOld 2 = .ok (.invokevirtual 34, 3) := by decide +kernel
theorem dX2_headToOld_5 : decode cX2_headToOld 5 = .ok (.istore_n 1, 1) := by decide +kernel
theorem dX2_headToOld_6 : decode cX2_headToOld 6 = .ok (.aload_n 0, 1) := by decide +kernel
theorem dX2_headToOld_7 : decode cX2_headToOld 7 = .ok (.invokevirtual 38, 3) := by decide +kernel
theorem dX2_headToOld_10 : decode cX2_headToOld 10 = .ok (.iload_n 1, 1) := by decide +kernel
theorem dX2_headToOld_11 : decode cX2_headToOld 11 = .ok (.ifCond .lt 32, 3) := by decide +kernel
theorem dX2_headToOld_14 : decode cX2_headToOld 14 = .ok (.aload_n 0, 1) := by decide +kernel
theorem dX2_headToOld_15 : decode cX2_headToOld 15 = .ok (.getfield 19, 3) := by decide +kernel
theorem dX2_headToOld_18 : decode cX2_headToOld 18 = .ok (.bipush 16, 2) := by decide +kernel
theorem dX2_headToOld_20 : decode cX2_headToOld 20 = .ok (.if_icmp .ge 23, 3) := by decide +kernel
theorem dX2_headToOld_23 : decode cX2_headToOld 23 = .ok (.aload_n 0, 1) := by decide +kernel
theorem dX2_headToOld_24 : decode cX2_headToOld 24 = .ok (.getfield 9, 3) := by decide +kernel
theorem dX2_headToOld_27 : decode cX2_headToOld 27 = .ok (.aload_n 0, 1) := by decide +kernel
theorem dX2_headToOld_28 : decode cX2_headToOld 28 = .ok (.getfield 19, 3) := by decide +kernel
theorem dX2_headToOld_31 : decode cX2_headToOld 31 = .ok (.iload_n 1, 1) := by decide +kernel
theorem dX2_headToOld_32 : decode cX2_headToOld 32 = .ok (.iastore, 1) := by decide +kernel
theorem dX2_headToOld_33 : decode cX2_headToOld 33 = .ok (.aload_n 0, 1) := by decide +kernel
theorem dX2_headToOld_34 : decode cX2_headToOld 34 = .ok (.dup, 1) := by decide +kernel
theorem dX2_headToOld_35 : decode cX2_headToOld 35 = .ok (.getfield 19, 3) := by decide +kernel
theorem dX2_headToOld_38 : decode cX2_headToOld 38 = .ok (.iconst 1, 1) := by decide +kernel
theorem dX2_headToOld_39 : decode cX2_headToOld 39 = .ok (.iadd, 1) := by decide +kernel
theorem dX2_headToOld_40 : decode cX2_headToOld 40 = .ok (.putfield 19, 3) := by decide +kernel
theorem dX2_headToOld_43 : decode cX2_headToOld 43 = .ok (.return_, 1) := by decide +kernel
def p_X2_clear (h : Hp) (o0 : Nat) : Option Hp :=
  nv (hp h o0 1 0) fun h1 => nv (hp h1 o0 2 0) fun h2 => some h2
set_option maxRecDepth 4000 in
theorem s_X2_clear {p : Program} {l : Launch} {e : Env} {s : State} {m : MethodId} {args : Array Value} {below : List Frame} {meth : Method} {c : Code} {G : GT} (cx : CX p s m args c cX2_clear 1 RX2 G) (hr : meth.sig.returnType = none) (hlk : meth.locks = false) (h : Hp) (o0 : Nat) (hk_o0 : kd o0 = 2) : PF p l e (rmc 0 0) s m args below meth c 1 G 0 0 (QV below G args s) 0 [some (.ref (gad G o0))] [] h (p_X2_clear h o0) := by
  unfold p_X2_clear
  refine f_aload_n (pc := 0) cx dX2_clear_0 rfl rfl ?_
  refine f_iconst (pc := 1) cx dX2_clear_1 kc_iconst_0 ?_
  refine u_X2_15 (pc := 2) cx hk_o0 dX2_clear_2 ?_
  refine f_nvh (fun h1 => ?_)
  refine f_aload_n (pc := 5) cx dX2_clear_5 rfl rfl ?_
  refine f_iconst (pc := 6) cx dX2_clear_6 kc_iconst_0 ?_
  refine u_X2_19 (pc := 7) cx hk_o0 dX2_clear_7 ?_
  refine f_nvh (fun h2 => ?_)
  exact f_vret cx hr hlk dX2_clear_10
set_option maxRecDepth 4000 in
theorem c_X2_clear (l : Launch) (G : GT) (h : Hp) (o0 : Nat) (hk_o0 : kd o0 = 2) : CtV l G yX2_clear cX2_clear 1 none 0 0 [.ref (gad G o0)] h (p_X2_clear h o0) := fun a ha => Ct.of (lv := [some (.ref (gad G o0))]) (by decide) rfl (Nat.le_of_ble_eq_true rfl) rfl (fun p e s m args below meth c cx hr hlk => s_X2_clear cx hr hlk h o0 hk_o0 a ha)
def p_X2_copyFrom (h : Hp) (o0 : Nat) (o1 : Nat) : Option Hp :=
  nv (hp h o0 1 (h o1 1)) fun h1 => nv (hp h1 o0 2 (h1 o1 2)) fun h2 => nv (va_up h2 (o0 + 1) (va_cpy (h2 (o1 + 1)) (h2 (o0 + 1)) 0 0 (Int32.toNatClampNeg 16))) fun h3 => some h3
set_option maxRecDepth 4000 in
theorem s_X2_copyFrom {p : Program} {l : Launch} {e : Env} {s : State} {m : MethodId} {args : Array Value} {below : List Frame} {meth : Method} {c : Code} {G : GT} (cx : CX p s m args c cX2_copyFrom 2 RX2 G) (hr : meth.sig.returnType = none) (hlk : meth.locks = false) (h : Hp) (o0 : Nat) (o1 : Nat) (hk_o0 : kd o0 = 2) (hk_o1 : kd o1 = 2) : PF p l e (rmc 1 27) s m args below meth c 2 G 0 0 (QV below G args s) 0 [some (.ref (gad G o0)), some (.ref (gad G o1))] [] h (p_X2_copyFrom h o0 o1) := by
  unfold p_X2_copyFrom
  refine f_aload_n (pc := 0) cx dX2_copyFrom_0 rfl rfl ?_
  refine f_aload_n (pc := 1) cx dX2_copyFrom_1 rfl rfl ?_
  refine g_X2_15 (pc := 2) cx hk_o1 dX2_copyFrom_2 ?_
  refine u_X2_15 (pc := 5) cx hk_o0 dX2_copyFrom_5 ?_
  refine f_nvh (fun h1 => ?_)
  refine f_aload_n (pc := 8) cx dX2_copyFrom_8 rfl rfl ?_
  refine f_aload_n (pc := 9) cx dX2_copyFrom_9 rfl rfl ?_
  refine g_X2_19 (pc := 10) cx hk_o1 dX2_copyFrom_10 ?_
  refine u_X2_19 (pc := 13) cx hk_o0 dX2_copyFrom_13 ?_
  refine f_nvh (fun h2 => ?_)
  refine f_aload_n (pc := 16) cx dX2_copyFrom_16 rfl rfl ?_
  refine g_X2_9 (pc := 17) cx hk_o1 dX2_copyFrom_17 ?_
  refine f_iconst (pc := 20) cx dX2_copyFrom_20 kc_iconst_0 ?_
  refine f_aload_n (pc := 21) cx dX2_copyFrom_21 rfl rfl ?_
  refine g_X2_9 (pc := 22) cx hk_o0 dX2_copyFrom_22 ?_
  refine f_iconst (pc := 25) cx dX2_copyFrom_25 kc_iconst_0 ?_
  refine f_bipush (pc := 26) cx dX2_copyFrom_26 kc_bipush_16 ?_
  refine f_ac (pc := 28) (n0 := 16) (n1 := 16) cx (kf_2_0 hk_o1) (kf_2_0 hk_o0) (by decide) (by decide) (by decide) w_919 w_419 w_418 w_102 ⟨by decide, by decide⟩ (Nat.le_of_ble_eq_true rfl) dX2_copyFrom_28 ?_
  refine f_nvh (fun h3 => ?_)
  exact f_vret cx hr hlk dX2_copyFrom_31
set_option maxRecDepth 4000 in
theorem c_X2_copyFrom (l : Launch) (G : GT) (h : Hp) (o0 : Nat) (o1 : Nat) (hk_o0 : kd o0 = 2) (hk_o1 : kd o1 = 2) : CtV l G yX2_copyFrom cX2_copyFrom 2 none 1 27 [.ref (gad G o0), .ref (gad G o1)] h (p_X2_copyFrom h o0 o1) := fun a ha => Ct.of (lv := [some (.ref (gad G o0)), some (.ref (gad G o1))]) (by decide) rfl (Nat.le_of_ble_eq_true rfl) rfl (fun p e s m args below meth c cx hr hlk => s_X2_copyFrom cx hr hlk h o0 o1 hk_o0 hk_o1 a ha)
def p_X2_at (h : Hp) (o0 : Nat) (x1 : Int32) : Option (Int32 × Hp) :=
  if x1 < 0 then (some ((-2), h)) else (if (h o0 2) ≤ x1 then (some ((-2), h)) else (if 16 ≤ x1 then (some ((-2), h)) else (if ib x1 16 then (some (h (o0 + 1) (Int32.toNatClampNeg x1), h)) else none)))
set_option maxRecDepth 4000 in
theorem s_X2_at {p : Program} {l : Launch} {e : Env} {s : State} {m : MethodId} {args : Array Value} {below : List Frame} {meth : Method} {c : Code} {G : GT} (cx : CX p s m args c cX2_at 2 RX2 G) (hr : meth.sig.returnType = (some .int)) (hlk : meth.locks = false) (h : Hp) (o0 : Nat) (x1 : Int32) (hk_o0 : kd o0 = 2) : PF p l e (rmc 0 0) s m args below meth c 2 G 0 0 (QI below G args s) 0 [some (.ref (gad G o0)), some (.int x1)] [] h (p_X2_at h o0 x1) := by
  unfold p_X2_at
  refine f_iload_n (pc := 0) cx dX2_at_0 rfl rfl ?_
  refine f_if_lt (pc := 1) (tgt := 27) cx dX2_at_1 (by decide) (fun _ => ?_) (fun _ => ?_)
  · refine f_bipush (pc := 27) cx dX2_at_27 kc_bipush_m2 ?_
    exact f_iret cx hr hlk rfl dX2_at_29
  · refine f_iload_n (pc := 4) cx dX2_at_4 rfl rfl ?_
    refine f_aload_n (pc := 5) cx dX2_at_5 rfl rfl ?_
    refine g_X2_19 (pc := 6) cx hk_o0 dX2_at_6 ?_
    refine f_icmp_ge (pc := 9) (tgt := 27) cx dX2_at_9 (by decide) (fun _ => ?_) (fun _ => ?_)
    · refine f_bipush (pc := 27) cx dX2_at_27 kc_bipush_m2 ?_
      exact f_iret cx hr hlk rfl dX2_at_29
    · refine f_iload_n (pc := 12) cx dX2_at_12 rfl rfl ?_
      refine f_bipush (pc := 13) cx dX2_at_13 kc_bipush_16 ?_
      refine f_icmp_ge (pc := 15) (tgt := 27) cx dX2_at_15 (by decide) (fun _ => ?_) (fun _ => ?_)
      · refine f_bipush (pc := 27) cx dX2_at_27 kc_bipush_m2 ?_
        exact f_iret cx hr hlk rfl dX2_at_29
      · refine f_aload_n (pc := 18) cx dX2_at_18 rfl rfl ?_
        refine g_X2_9 (pc := 19) cx hk_o0 dX2_at_19 ?_
        refine f_iload_n (pc := 22) cx dX2_at_22 rfl rfl ?_
        refine f_need (fun c1 => ?_)
        refine f_iald (pc := 23) (n := 16) cx (kf_2_0 hk_o0) (by decide) c1 dX2_at_23 ?_
        refine f_goto (pc := 24) (tgt := 29) cx dX2_at_24 (by decide) ?_
        exact f_iret cx hr hlk rfl dX2_at_29
set_option maxRecDepth 4000 in
theorem c_X2_at (l : Launch) (G : GT) (h : Hp) (o0 : Nat) (x1 : Int32) (hk_o0 : kd o0 = 2) : CtI l G yX2_at cX2_at 2 (some .int) 0 0 [.ref (gad G o0), .int x1] h (p_X2_at h o0 x1) := fun a ha => Ct.of (lv := [some (.ref (gad G o0)), some (.int x1)]) (by decide) rfl (Nat.le_of_ble_eq_true rfl) rfl (fun p e s m args below meth c cx hr hlk => s_X2_at cx hr hlk h o0 x1 hk_o0 a ha)
def p_X2_hasOld (h : Hp) (o0 : Nat) : Option (Int32 × Hp) :=
  if (h o0 2) ≤ (h o0 1) then (some (0, h)) else (some (1, h))
set_option maxRecDepth 4000 in
theorem s_X2_hasOld {p : Program} {l : Launch} {e : Env} {s : State} {m : MethodId} {args : Array Value} {below : List Frame} {meth : Method} {c : Code} {G : GT} (cx : CX p s m args c cX2_hasOld 1 RX2 G) (hr : meth.sig.returnType = (some .boolean)) (hlk : meth.locks = false) (h : Hp) (o0 : Nat) (hk_o0 : kd o0 = 2) : PF p l e (rmc 0 0) s m args below meth c 1 G 0 0 (QI below G args s) 0 [some (.ref (gad G o0))] [] h (p_X2_hasOld h o0) := by
  unfold p_X2_hasOld
  refine f_aload_n (pc := 0) cx dX2_hasOld_0 rfl rfl ?_
  refine g_X2_19 (pc := 1) cx hk_o0 dX2_hasOld_1 ?_
  refine f_aload_n (pc := 4) cx dX2_hasOld_4 rfl rfl ?_
  refine g_X2_15 (pc := 5) cx hk_o0 dX2_hasOld_5 ?_
  refine f_icmp_le (pc := 8) (tgt := 15) cx dX2_hasOld_8 (by decide) (fun _ => ?_) (fun _ => ?_)
  · refine f_iconst (pc := 15) cx dX2_hasOld_15 kc_iconst_0 ?_
    exact f_iret cx hr hlk (bb_n bb_0).1 dX2_hasOld_16
  · refine f_iconst (pc := 11) cx dX2_hasOld_11 kc_iconst_1 ?_
    refine f_goto (pc := 12) (tgt := 16) cx dX2_hasOld_12 (by decide) ?_
    exact f_iret cx hr hlk (bb_n bb_1).1 dX2_hasOld_16
set_option maxRecDepth 4000 in
theorem c_X2_hasOld (l : Launch) (G : GT) (h : Hp) (o0 : Nat) (hk_o0 : kd o0 = 2) : CtI l G yX2_hasOld cX2_hasOld 1 (some .boolean) 0 0 [.ref (gad G o0)] h (p_X2_hasOld h o0) := fun a ha => Ct.of (lv := [some (.ref (gad G o0))]) (by decide) rfl (Nat.le_of_ble_eq_true rfl) rfl (fun p e s m args below meth c cx hr hlk => s_X2_hasOld cx hr hlk h o0 hk_o0 a ha)
def b_X2_addNew_15 (o0 : Nat) (x1 : Int32) (k15 : Hp × Int32 → Option Hp) (q : Hp × Int32) : Option Hp :=
  if q.2 ≤ (q.1 o0 1) then (if ib (q.1 o0 1) 16 then (nv (hp q.1 (o0 + 1) (Int32.toNatClampNeg (q.1 o0 1)) x1) fun h2 => nv (hp h2 o0 1 ((h2 o0 1) + 1)) fun h3 => nv (hp h3 o0 2 ((h3 o0 2) + 1)) fun h4 => some h4) else none) else (if ib (q.2 - 1) 16 then (if ib q.2 16 then (nv (hp q.1 (o0 + 1) (Int32.toNatClampNeg q.2) (q.1 (o0 + 1) (Int32.toNatClampNeg (q.2 - 1)))) fun h7 => k15 (h7, q.2 + (-1))) else none) else none)
def p_X2_addNew (h : Hp) (o0 : Nat) (x1 : Int32) : Option Hp :=
  if (h o0 2) < 16 then (nv (h o0 2) fun v8 => lp (b_X2_addNew_15 o0 x1) FU (h, v8)) else (some h)
set_option maxRecDepth 4000 in
theorem s_X2_addNew_15 {p : Program} {l : Launch} {e : Env} {s : State} {m : MethodId} {args : Array Value} {below : List Frame} {meth : Method} {c : Code} {G : GT} (cx : CX p s m args c cX2_addNew 3 RX2 G) (hr : meth.sig.returnType = none) (hlk : meth.locks = false) (o0 : Nat) (x1 : Int32) (hk_o0 : kd o0 = 2) : ∀ (n : Nat) (q : Hp × Int32), PF p l e (rmc 0 0) s m args below meth c 3 G 0 0 (QV below G args s) 15 [some (.ref (gad G o0)), some (.int x1), some (.int q.2)] [] q.1 (lp (b_X2_addNew_15 o0 x1) n q) := by
  refine f_lp (lvf := fun (q : Hp × Int32) => [some (.ref (gad G o0)), some (.int x1), some (.int q.2)]) (hf := fun (q : Hp × Int32) => q.1) (fun k15 hk15 q => ?_)
  show PF p l e (rmc 0 0) s m args below meth c 3 G 0 0 (QV below G args s) 15 [some (.ref (gad G o0)), some (.int x1), some (.int q.2)] [] q.1 (b_X2_addNew_15 o0 x1 k15 q)
  unfold b_X2_addNew_15
  refine f_iload_n (pc := 15) cx dX2_addNew_15 rfl rfl ?_
  refine f_aload_n (pc := 16) cx dX2_addNew_16 rfl rfl ?_
  refine g_X2_15 (pc := 17) cx hk_o0 dX2_addNew_17 ?_
  refine f_icmp_le (pc := 20) (tgt := 43) cx dX2_addNew_20 (by decide) (fun _ => ?_) (fun _ => ?_)
  · refine f_aload_n (pc := 43) cx dX2_addNew_43 rfl rfl ?_
    refine g_X2_9 (pc := 44) cx hk_o0 dX2_addNew_44 ?_
    refine f_aload_n (pc := 47) cx dX2_addNew_47 rfl rfl ?_
    refine g_X2_15 (pc := 48) cx hk_o0 dX2_addNew_48 ?_
    refine f_iload_n (pc := 51) cx dX2_addNew_51 rfl rfl ?_
    refine f_need (fun c1 => ?_)
    refine f_iast (pc := 52) (n := 16) cx (kf_2_0 hk_o0) (by decide) c1 dX2_addNew_52 ?_
    refine f_nvh (fun h2 => ?_)
    refine f_aload_n (pc := 53) cx dX2_addNew_53 rfl rfl ?_
    refine f_dup (pc := 54) cx dX2_addNew_54 rfl ?_
    refine g_X2_15 (pc := 55) cx hk_o0 dX2_addNew_55 ?_
    refine f_iconst (pc := 58) cx dX2_addNew_58 kc_iconst_1 ?_
    refine f_iadd (pc := 59) cx dX2_addNew_59 ?_
    refine u_X2_15 (pc := 60) cx hk_o0 dX2_addNew_60 ?_
    refine f_nvh (fun h3 => ?_)
    refine f_aload_n (pc := 63) cx dX2_addNew_63 rfl rfl ?_
    refine f_dup (pc := 64) cx dX2_addNew_64 rfl ?_
    refine g_X2_19 (pc := 65) cx hk_o0 dX2_addNew_65 ?_
    refine f_iconst (pc := 68) cx dX2_addNew_68 kc_iconst_1 ?_
    refine f_iadd (pc := 69) cx dX2_addNew_69 ?_
    refine u_X2_19 (pc := 70) cx hk_o0 dX2_addNew_70 ?_
    refine f_nvh (fun h4 => ?_)
    exact f_vret cx hr hlk dX2_addNew_73
  · refine f_aload_n (pc := 23) cx dX2_addNew_23 rfl rfl ?_
    refine g_X2_9 (pc := 24) cx hk_o0 dX2_addNew_24 ?_
    refine f_iload_n (pc := 27) cx dX2_addNew_27 rfl rfl ?_
    refine f_aload_n (pc := 28) cx dX2_addNew_28 rfl rfl ?_
    refine g_X2_9 (pc := 29) cx hk_o0 dX2_addNew_29 ?_
    refine f_iload_n (pc := 32) cx dX2_addNew_32 rfl rfl ?_
    refine f_iconst (pc := 33) cx dX2_addNew_33 kc_iconst_1 ?_
    refine f_isub (pc := 34) cx dX2_addNew_34 ?_
    refine f_need (fun c5 => ?_)
    refine f_iald (pc := 35) (n := 16) cx (kf_2_0 hk_o0) (by decide) c5 dX2_addNew_35 ?_
    refine f_need (fun c6 => ?_)
    refine f_iast (pc := 36) (n := 16) cx (kf_2_0 hk_o0) (by decide) c6 dX2_addNew_36 ?_
    refine f_nvh (fun h7 => ?_)
    refine f_iinc2 (pc := 37) cx dX2_addNew_37 kc_iconst_m1 (by decide) rfl ?_
    refine f_goto (pc := 40) (tgt := 15) cx dX2_addNew_40 (by decide) ?_
    exact f_weak (LSb.s (LSb.s (LSb.s LSb.e))) (hk15 (h7, q.2 + (-1)))
set_option maxRecDepth 4000 in
theorem s_X2_addNew {p : Program} {l : Launch} {e : Env} {s : State} {m : MethodId} {args : Array Value} {below : List Frame} {meth : Method} {c : Code} {G : GT} (cx : CX p s m args c cX2_addNew 3 RX2 G) (hr : meth.sig.returnType = none) (hlk : meth.locks = false) (h : Hp) (o0 : Nat) (x1 : Int32) (hk_o0 : kd o0 = 2) : PF p l e (rmc 0 0) s m args below meth c 3 G 0 0 (QV below G args s) 0 [some (.ref (gad G o0)), some (.int x1), none] [] h (p_X2_addNew h o0 x1) := by
  unfold p_X2_addNew
  refine f_aload_n (pc := 0) cx dX2_addNew_0 rfl rfl ?_
  refine g_X2_19 (pc := 1) cx hk_o0 dX2_addNew_1 ?_
  refine f_bipush (pc := 4) cx dX2_addNew_4 kc_bipush_16 ?_
  refine f_icmp_lt (pc := 6) (tgt := 10) cx dX2_addNew_6 (by decide) (fun _ => ?_) (fun _ => ?_)
  · refine f_aload_n (pc := 10) cx dX2_addNew_10 rfl rfl ?_
    refine g_X2_19 (pc := 11) cx hk_o0 dX2_addNew_11 ?_
    refine f_nvi (fun v8 => ?_)
    refine f_istore2 (pc := 14) cx dX2_addNew_14 (by decide) rfl ?_
    exact f_weak (LSb.s (LSb.s (LSb.s LSb.e))) (s_X2_addNew_15 cx hr hlk o0 x1 hk_o0 FU (h, v8))
  · exact f_vret cx hr hlk dX2_addNew_9
set_option maxRecDepth 4000 in
theorem c_X2_addNew (l : Launch) (G : GT) (h : Hp) (o0 : Nat) (x1 : Int32) (hk_o0 : kd o0 = 2) : CtV l G yX2_addNew cX2_addNew 3 none 0 0 [.ref (gad G o0), .int x1] h (p_X2_addNew h o0 x1) := fun a ha => Ct.of (lv := [some (.ref (gad G o0)), some (.int x1), none]) (by decide) rfl (Nat.le_of_ble_eq_true rfl) rfl (fun p e s m args below meth c cx hr hlk => s_X2_addNew cx hr hlk h o0 x1 hk_o0 a ha)
def b_X2_removeHead_10 (o0 : Nat) (k10 : Hp × Int32 → Option Hp) (q : Hp × Int32) : Option Hp :=
  if (q.1 o0 2) ≤ q.2 then (nv (hp q.1 o0 2 ((q.1 o0 2) - 1)) fun h1 => nv (hp h1 o0 1 (if ((h1 o0 1) - 1) < 0 then 0 else ((h1 o0 1) - 1))) fun h2 => some h2) else (if ib q.2 16 then (if ib (q.2 - 1) 16 then (nv (hp q.1 (o0 + 1) (Int32.toNatClampNeg (q.2 - 1)) (q.1 (o0 + 1) (Int32.toNatClampNeg q.2))) fun h5 => k10 (h5, q.2 + 1)) else none) else none)
def p_X2_removeHead (h : Hp) (o0 : Nat) : Option Hp :=
  if 0 < (h o0 2) then (lp (b_X2_removeHead_10 o0) FU (h, 1)) else (some h)
set_option maxRecDepth 4000 in
theorem s_X2_removeHead_10 {p : Program} {l : Launch} {e : Env} {s : State} {m : MethodId} {args : Array Value} {below : List Frame} {meth : Method} {c : Code} {G : GT} (cx : CX p s m args c cX2_removeHead 2 RX2 G) (hr : meth.sig.returnType = none) (hlk : meth.locks = false) (o0 : Nat) (hk_o0 : kd o0 = 2) : ∀ (n : Nat) (q : Hp × Int32), PF p l e (rmc 1 27) s m args below meth c 2 G 0 0 (QV below G args s) 10 [some (.ref (gad G o0)), some (.int q.2)] [] q.1 (lp (b_X2_removeHead_10 o0) n q) := by
  refine f_lp (lvf := fun (q : Hp × Int32) => [some (.ref (gad G o0)), some (.int q.2)]) (hf := fun (q : Hp × Int32) => q.1) (fun k10 hk10 q => ?_)
  show PF p l e (rmc 1 27) s m args below meth c 2 G 0 0 (QV below G args s) 10 [some (.ref (gad G o0)), some (.int q.2)] [] q.1 (b_X2_removeHead_10 o0 k10 q)
  unfold b_X2_removeHead_10
  refine f_iload_n (pc := 10) cx dX2_removeHead_10 rfl rfl ?_
  refine f_aload_n (pc := 11) cx dX2_removeHead_11 rfl rfl ?_
  refine g_X2_19 (pc := 12) cx hk_o0 dX2_removeHead_12 ?_
  refine f_icmp_ge (pc := 15) (tgt := 38) cx dX2_removeHead_15 (by decide) (fun _ => ?_) (fun _ => ?_)
  · refine f_aload_n (pc := 38) cx dX2_removeHead_38 rfl rfl ?_
    refine f_dup (pc := 39) cx dX2_removeHead_39 rfl ?_
    refine g_X2_19 (pc := 40) cx hk_o0 dX2_removeHead_40 ?_
    refine f_iconst (pc := 43) cx dX2_removeHead_43 kc_iconst_1 ?_
    refine f_isub (pc := 44) cx dX2_removeHead_44 ?_
    refine u_X2_19 (pc := 45) cx hk_o0 dX2_removeHead_45 ?_
    refine f_nvh (fun h1 => ?_)
    refine f_aload_n (pc := 48) cx dX2_removeHead_48 rfl rfl ?_
    refine f_aload_n (pc := 49) cx dX2_removeHead_49 rfl rfl ?_
    refine g_X2_15 (pc := 50) cx hk_o0 dX2_removeHead_50 ?_
    refine f_iconst (pc := 53) cx dX2_removeHead_53 kc_iconst_1 ?_
    refine f_isub (pc := 54) cx dX2_removeHead_54 ?_
    refine f_iconst (pc := 55) cx dX2_removeHead_55 kc_iconst_0 ?_
    refine k_X2_28 (pc := 56) cx ⟨by decide, by decide⟩ ⟨Nat.zero_le _, Nat.zero_le _⟩ (Nat.le_of_ble_eq_true rfl) dX2_removeHead_56 ?_
    refine u_X2_15 (pc := 59) cx hk_o0 dX2_removeHead_59 ?_
    refine f_nvh (fun h2 => ?_)
    exact f_vret cx hr hlk dX2_removeHead_62
  · refine f_aload_n (pc := 18) cx dX2_removeHead_18 rfl rfl ?_
    refine g_X2_9 (pc := 19) cx hk_o0 dX2_removeHead_19 ?_
    refine f_iload_n (pc := 22) cx dX2_removeHead_22 rfl rfl ?_
    refine f_iconst (pc := 23) cx dX2_removeHead_23 kc_iconst_1 ?_
    refine f_isub (pc := 24) cx dX2_removeHead_24 ?_
    refine f_aload_n (pc := 25) cx dX2_removeHead_25 rfl rfl ?_
    refine g_X2_9 (pc := 26) cx hk_o0 dX2_removeHead_26 ?_
    refine f_iload_n (pc := 29) cx dX2_removeHead_29 rfl rfl ?_
    refine f_need (fun c3 => ?_)
    refine f_iald (pc := 30) (n := 16) cx (kf_2_0 hk_o0) (by decide) c3 dX2_removeHead_30 ?_
    refine f_need (fun c4 => ?_)
    refine f_iast (pc := 31) (n := 16) cx (kf_2_0 hk_o0) (by decide) c4 dX2_removeHead_31 ?_
    refine f_nvh (fun h5 => ?_)
    refine f_iinc1 (pc := 32) cx dX2_removeHead_32 kc_iconst_1 (by decide) rfl ?_
    refine f_goto (pc := 35) (tgt := 10) cx dX2_removeHead_35 (by decide) ?_
    exact f_weak (LSb.s (LSb.s LSb.e)) (hk10 (h5, q.2 + 1))
set_option maxRecDepth 4000 in
theorem s_X2_removeHead {p : Program} {l : Launch} {e : Env} {s : State} {m : MethodId} {args : Array Value} {below : List Frame} {meth : Method} {c : Code} {G : GT} (cx : CX p s m args c cX2_removeHead 2 RX2 G) (hr : meth.sig.returnType = none) (hlk : meth.locks = false) (h : Hp) (o0 : Nat) (hk_o0 : kd o0 = 2) : PF p l e (rmc 1 27) s m args below meth c 2 G 0 0 (QV below G args s) 0 [some (.ref (gad G o0)), none] [] h (p_X2_removeHead h o0) := by
  unfold p_X2_removeHead
  refine f_aload_n (pc := 0) cx dX2_removeHead_0 rfl rfl ?_
  refine g_X2_19 (pc := 1) cx hk_o0 dX2_removeHead_1 ?_
  refine f_if_gt (pc := 4) (tgt := 8) cx dX2_removeHead_4 (by decide) (fun _ => ?_) (fun _ => ?_)
  · refine f_iconst (pc := 8) cx dX2_removeHead_8 kc_iconst_1 ?_
    refine f_istore1 (pc := 9) cx dX2_removeHead_9 (by decide) rfl ?_
    exact f_weak (LSb.s (LSb.s LSb.e)) (s_X2_removeHead_10 cx hr hlk o0 hk_o0 FU (h, 1))
  · exact f_vret cx hr hlk dX2_removeHead_7
set_option maxRecDepth 4000 in
theorem c_X2_removeHead (l : Launch) (G : GT) (h : Hp) (o0 : Nat) (hk_o0 : kd o0 = 2) : CtV l G yX2_removeHead cX2_removeHead 2 none 1 27 [.ref (gad G o0)] h (p_X2_removeHead h o0) := fun a ha => Ct.of (lv := [some (.ref (gad G o0)), none]) (by decide) rfl (Nat.le_of_ble_eq_true rfl) rfl (fun p e s m args below meth c cx hr hlk => s_X2_removeHead cx hr hlk h o0 hk_o0 a ha)
def p_X2_headToOld (h : Hp) (o0 : Nat) : Option Hp :=
  Option.bind (p_X2_at h o0 0) fun r1 => Option.bind (p_X2_removeHead r1.2 o0) fun r2 => if r1.1 < 0 then (some r2) else (if 16 ≤ (r2 o0 2) then (some r2) else (if ib (r2 o0 2) 16 then (nv (hp r2 (o0 + 1) (Int32.toNatClampNeg (r2 o0 2)) r1.1) fun h4 => nv (hp h4 o0 2 ((h4 o0 2) + 1)) fun h5 => some h5) else none))
set_option maxRecDepth 4000 in
theorem s_X2_headToOld {p : Program} {l : Launch} {e : Env} {s : State} {m : MethodId} {args : Array Value} {below : List Frame} {meth : Method} {c : Code} {G : GT} (cx : CX p s m args c cX2_headToOld 2 RX2 G) (hr : meth.sig.returnType = none) (hlk : meth.locks = false) (h : Hp) (o0 : Nat) (hk_o0 : kd o0 = 2) : PF p l e (rmc 2 48) s m args below meth c 2 G 0 0 (QV below G args s) 0 [some (.ref (gad G o0)), none] [] h (p_X2_headToOld h o0) := by
  unfold p_X2_headToOld
  refine f_aload_n (pc := 0) cx dX2_headToOld_0 rfl rfl ?_
  refine f_iconst (pc := 1) cx dX2_headToOld_1 kc_iconst_0 ?_
  refine f_bind (fun r1 hr1 => ?_)
  refine k_X2_34 (pc := 2) cx (c_X2_at l G _ o0 0 hk_o0 r1 hr1) hk_o0 ⟨by decide, by decide⟩ ⟨Nat.zero_le _, Nat.zero_le _⟩ (Nat.le_of_ble_eq_true rfl) dX2_headToOld_2 ?_
  refine f_istore1 (pc := 5) cx dX2_headToOld_5 (by decide) rfl ?_
  refine f_aload_n (pc := 6) cx dX2_headToOld_6 rfl rfl ?_
  refine f_bind (fun r2 hr2 => ?_)
  refine k_X2_38 (pc := 7) cx (c_X2_removeHead l G _ o0 hk_o0 r2 hr2) hk_o0 ⟨by decide, by decide⟩ ⟨Nat.zero_le _, Nat.zero_le _⟩ (Nat.le_of_ble_eq_true rfl) dX2_headToOld_7 ?_
  refine f_iload_n (pc := 10) cx dX2_headToOld_10 rfl rfl ?_
  refine f_if_lt (pc := 11) (tgt := 43) cx dX2_headToOld_11 (by decide) (fun _ => ?_) (fun _ => ?_)
  · exact f_vret cx hr hlk dX2_headToOld_43
  · refine f_aload_n (pc := 14) cx dX2_headToOld_14 rfl rfl ?_
    refine g_X2_19 (pc := 15) cx hk_o0 dX2_headToOld_15 ?_
    refine f_bipush (pc := 18) cx dX2_headToOld_18 kc_bipush_16 ?_
    refine f_icmp_ge (pc := 20) (tgt := 43) cx dX2_headToOld_20 (by decide) (fun _ => ?_) (fun _ => ?_)
    · exact f_vret cx hr hlk dX2_headToOld_43
    · refine f_aload_n (pc := 23) cx dX2_headToOld_23 rfl rfl ?_
      refine g_X2_9 (pc := 24) cx hk_o0 dX2_headToOld_24 ?_
      refine f_aload_n (pc := 27) cx dX2_headToOld_27 rfl rfl ?_
      refine g_X2_19 (pc := 28) cx hk_o0 dX2_headToOld_28 ?_
      refine f_iload_n (pc := 31) cx dX2_headToOld_31 rfl rfl ?_
      refine f_need (fun c3 => ?_)
      refine f_iast (pc := 32) (n := 16) cx (kf_2_0 hk_o0) (by decide) c3 dX2_headToOld_32 ?_
      refine f_nvh (fun h4 => ?_)
      refine f_aload_n (pc := 33) cx dX2_headToOld_33 rfl rfl ?_
      refine f_dup (pc := 34) cx dX2_headToOld_34 rfl ?_
      refine g_X2_19 (pc := 35) cx hk_o0 dX2_headToOld_35 ?_
      refine f_iconst (pc := 38) cx dX2_headToOld_38 kc_iconst_1 ?_
      refine f_iadd (pc := 39) cx dX2_headToOld_39 ?_
      refine u_X2_19 (pc := 40) cx hk_o0 dX2_headToOld_40 ?_
      refine f_nvh (fun h5 => ?_)
      exact f_vret cx hr hlk dX2_headToOld_43
set_option maxRecDepth 4000 in
theorem c_X2_headToOld (l : Launch) (G : GT) (h : Hp) (o0 : Nat) (hk_o0 : kd o0 = 2) : CtV l G yX2_headToOld cX2_headToOld 2 none 2 48 [.ref (gad G o0)] h (p_X2_headToOld h o0) := fun a ha => Ct.of (lv := [some (.ref (gad G o0)), none]) (by decide) rfl (Nat.le_of_ble_eq_true rfl) rfl (fun p e s m args below meth c cx hr hlk => s_X2_headToOld cx hr hlk h o0 hk_o0 a ha)
