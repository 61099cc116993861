theorem kc_bipush_16 : (Int8.ofInt (16)).toInt32 = 16 := by decide
theorem kc_bipush_17 : (Int8.ofInt (17)).toInt32 = 17 := by decide
theorem kc_bipush_20 : (Int8.ofInt (20)).toInt32 = 20 := by decide
theorem kc_iconst_0 : Int32.ofInt (0) = 0 := by decide
theorem kc_iconst_1 : Int32.ofInt (1) = 1 := by decide
theorem kc_iconst_2 : Int32.ofInt (2) = 2 := by decide
theorem kc_lconst_1 : Int64.ofNat ((1 : Fin 2) : Nat) = 1 := by decide
theorem dX4_step_0 : decode cX4_step 0 = .ok (.iload_n 0, 1) := by decide +kernel
theorem dX4_step_1 : decode cX4_step 1 = .ok (.i2l, 1) := by decide +kernel
theorem dX4_step_2 : decode cX4_step 2 = .ok (.iload_n 0, 1) := by decide +kernel
theorem dX4_step_3 : decode cX4_step 3 = .ok (.i2l, 1) := by decide +kernel
theorem dX4_step_4 : decode cX4_step 4 = .ok (.lmul, 1) := by decide +kernel
theorem dX4_step_5 : decode cX4_step 5 = .ok (.bipush 16, 2) := by decide +kernel
theorem dX4_step_7 : decode cX4_step 7 = .ok (.lshr, 1) := by decide +kernel
theorem dX4_step_8 : decode cX4_step 8 = .ok (.lstore_n 2, 1) := by decide +kernel
theorem dX4_step_9 : decode cX4_step 9 = .ok (.iload_n 0, 1) := by decide +kernel
theorem dX4_step_10 : decode cX4_step 10 = .ok (.i2l, 1) := by decide +kernel
theorem dX4_step_11 : decode cX4_step 11 = .ok (.ldc2_w 7, 3) := by decide +kernel
theorem dX4_step_14 : decode cX4_step 14 = .ok (.iload_n 1, 1) := by decide +kernel
theorem dX4_step_15 : decode cX4_step 15 = .ok (.i2l, 1) := by decide +kernel
theorem dX4_step_16 : decode cX4_step 16 = .ok (.lload_n 2, 1) := by decide +kernel
theorem dX4_step_17 : decode cX4_step 17 = .ok (.lmul, 1) := by decide +kernel
theorem dX4_step_18 : decode cX4_step 18 = .ok (.lsub, 1) := by decide +kernel
theorem dX4_step_19 : decode cX4_step 19 = .ok (.lmul, 1) := by decide +kernel
theorem dX4_step_20 : decode cX4_step 20 = .ok (.bipush 17, 2) := by decide +kernel
theorem dX4_step_22 : decode cX4_step 22 = .ok (.lshr, 1) := by decide +kernel
theorem dX4_step_23 : decode cX4_step 23 = .ok (.lstore 4, 2) := by decide +kernel
theorem dX4_step_25 : decode cX4_step 25 = .ok (.lload 4, 2) := by decide +kernel
theorem dX4_step_27 : decode cX4_step 27 = .ok (.lconst 1, 1) := by decide +kernel
theorem dX4_step_28 : decode cX4_step 28 = .ok (.lcmp, 1) := by decide +kernel
theorem dX4_step_29 : decode cX4_step 29 = .ok (.ifCond .ge 5, 3) := by decide +kernel
theorem dX4_step_32 : decode cX4_step 32 = .ok (.iconst 1, 1) := by decide +kernel
theorem dX4_step_33 : decode cX4_step 33 = .ok (.ireturn, 1) := by decide +kernel
theorem dX4_step_34 : decode cX4_step 34 = .ok (.lload 4, 2) := by decide +kernel
theorem dX4_step_36 : decode cX4_step 36 = .ok (.ldc2_w 11, 3) := by decide +kernel
theorem dX4_step_39 : decode cX4_step 39 = .ok (.lcmp, 1) := by decide +kernel
theorem dX4_step_40 : decode cX4_step 40 = .ok (.ifCond .le 8, 3) := by decide +kernel
theorem dX4_step_43 : decode cX4_step 43 = .ok (.ldc 13, 2) := by decide +kernel
theorem dX4_step_45 : decode cX4_step 45 = .ok (.goto 6, 3) := by decide +kernel
theorem dX4_step_48 : decode cX4_step 48 = .ok (.lload 4, 2) := by decide +kernel
theorem dX4_step_50 : decode cX4_step 50 = .ok (.l2i, 1) := by decide +kernel
theorem dX4_step_51 : decode cX4_step 51 = .ok (.ireturn, 1) := by decide +kernel
theorem dX4_trueRoot_0 : decode cX4_trueRoot 0 = .ok (.iconst 0, 1) := by decide +kernel
theorem dX4_trueRoot_1 : decode cX4_trueRoot 1 = .ok (.istore_n 1, 1) := by decide +kernel
theorem dX4_trueRoot_2 : decode cX4_trueRoot 2 = .ok (.ldc 13, 2) := by decide +kernel
theorem dX4_trueRoot_4 : decode cX4_trueRoot 4 = .ok (.istore_n 2, 1) := by decide +kernel
theorem dX4_trueRoot_5 : decode cX4_trueRoot 5 = .ok (.iconst 0, 1) := by decide +kernel
theorem dX4_trueRoot_6 : decode cX4_trueRoot 6 = .ok (.istore_n 3, 1) := by decide +kernel
theorem dX4_trueRoot_7 : decode cX4_trueRoot 7 = .ok (.iload_n 3, 1) := by decide +kernel
theorem dX4_trueRoot_8 : decode cX4_trueRoot 8 = .ok (.bipush 20, 2) := by decide +kernel
theorem dX4_trueRoot_10 : decode cX4_trueRoot 10 = .ok (.if_icmp .ge 51, 3) := by decide +kernel
theorem dX4_trueRoot_13 : decode cX4_trueRoot 13 = .ok (.iload_n 1, 1) := by decide +kernel
theorem dX4_trueRoot_14 : decode cX4_trueRoot 14 = .ok (.iload_n 2, 1) := by decide +kernel
theorem dX4_trueRoot_15 : decode cX4_trueRoot 15 = .ok (.if_icmp .ge 46, 3) := by decide +kernel
theorem dX4_trueRoot_18 : decode cX4_trueRoot 18 = .ok (.iload_n 1, 1) := by decide +kernel
theorem dX4_trueRoot_19 : decode cX4_trueRoot 19 = .ok (.iload_n 2, 1) := by decide +kernel
theorem dX4_trueRoot_20 : decode cX4_trueRoot 20 = .ok (.iadd, 1) := by decide +kernel
theorem dX4_trueRoot_21 : decode cX4_trueRoot 21 = .ok (.iconst 1, 1) := by decide +kernel
theorem dX4_trueRoot_22 : decode cX4_trueRoot 22 = .ok (.iadd, 1) := by decide +kernel
theorem dX4_trueRoot_23 : decode cX4_trueRoot 23 = .ok (.iconst 1, 1) := by decide +kernel
theorem dX4_trueRoot_24 : decode cX4_trueRoot 24 = .ok (.ishr, 1) := by decide +kernel
theorem dX4_trueRoot_25 : decode cX4_trueRoot 25 = .ok (.istore 4, 2) := by decide +kernel
theorem dX4_trueRoot_27 : decode cX4_trueRoot 27 = .ok (.iload 4, 2) := by decide +kernel
theorem dX4_trueRoot_29 : decode cX4_trueRoot 29 = .ok (.i2l, 1) := by decide +kernel
theorem dX4_trueRoot_30 : decode cX4_trueRoot 30 = .ok (.iload 4, 2) := by decide +kernel
theorem dX4_trueRoot_32 : decode cX4_trueRoot 32 = .ok (.i2l, 1) := by decide +kernel
theorem dX4_trueRoot_33 : decode cX4_trueRoot 33 = .ok (.lmul, 1) := by decide +kernel
theorem dX4_trueRoot_34 : decode cX4_trueRoot 34 = .ok (.iload_n 0, 1) := by decide +kernel
theorem dX4_trueRoot_35 : decode cX4_trueRoot 35 = .ok (.i2l, 1) := by decide +kernel
theorem dX4_trueRoot_36 : decode cX4_trueRoot 36 = .ok (.lmul, 1) := by decide +kernel
theorem dX4_trueRoot_37 : decode cX4_trueRoot 37 = .ok (.ldc2_w 18, 3) := by decide +kernel
theorem dX4_trueRoot_40 : decode cX4_trueRoot 40 = .ok (.lcmp, 1) := by decide +kernel
theorem dX4_trueRoot_41 : decode cX4_trueRoot 41 = .ok (.ifCond .gt 9, 3) := by decide +kernel
theorem dX4_trueRoot_44 : decode cX4_trueRoot 44 = .ok (.iload 4, 2) := by decide +kernel
theorem dX4_trueRoot_46 : decode cX4_trueRoot 46 = .ok (.istore_n 1, 1) := by decide +kernel
theorem dX4_trueRoot_47 : decode cX4_trueRoot 47 = .ok (.goto 8, 3) := by decide +kernel
theorem dX4_trueRoot_50 : decode cX4_trueRoot 50 = .ok (.iload 4, 2) := by decide +kernel
theorem dX4_trueRoot_52 : decode cX4_trueRoot 52 = .ok (.iconst 1, 1) := by decide +kernel
theorem dX4_trueRoot_53 : decode cX4_trueRoot 53 = .ok (.isub, 1) := by decide +kernel
theorem dX4_trueRoot_54 : decode cX4_trueRoot 54 = .ok (.istore_n 2, 1) := by decide +kernel
theorem dX4_trueRoot_55 : decode cX4_trueRoot 55 = .ok (.iinc 3 1, 3) := by decide +kernel
theorem dX4_trueRoot_58 : decode cX4_trueRoot 58 = .ok (.goto (-51), 3) := by decide +kernel
theorem dX4_trueRoot_61 : decode cX4_trueRoot 61 = .ok (.iload_n 1, 1) := by decide +kernel
theorem dX4_trueRoot_62 : decode cX4_trueRoot 62 = .ok (.ireturn, 1) := by decide +kernel
theorem dX4_stepped_0 : decode cX4_stepped 0 = .ok (.ldc 13, 2) := by decide +kernel
theorem dX4_stepped_2 : decode cX4_stepped 2 = .ok (.istore_n 1, 1) := by decide +kernel
theorem dX4_stepped_3 : decode cX4_stepped 3 = .ok (.iconst 2, 1) := by decide +kernel
theorem dX4_stepped_4 : decode cX4_stepped 4 = .ok (.istore_n 2, 1) := by decide +kernel
theorem dX4_stepped_5 : decode cX4_stepped 5 = .ok (.iload_n 2, 1) := by decide +kernel
theorem dX4_stepped_6 : decode cX4_stepped 6 = .ok (.iload_n 0, 1) := by decide +kernel
theorem dX4_stepped_7 : decode cX4_stepped 7 = .ok (.if_icmp .gt 15, 3) := by decide +kernel
theorem dX4_stepped_10 : decode cX4_stepped 10 = .ok (.iload_n 1, 1) := by decide +kernel
theorem dX4_stepped_11 : decode cX4_stepped 11 = .ok (.iload_n 2, 1) := by decide +kernel
theorem dX4_stepped_12 : decode cX4_stepped 12 = .ok (.invokestatic 14, 3) := by decide +kernel
theorem dX4_stepped_15 : decode cX4_stepped 15 = .ok (.istore_n 1, 1) := by decide +kernel
theorem dX4_stepped_16 : decode cX4_stepped 16 = .ok (.iinc 2 1, 3) := by decide +kernel
theorem dX4_stepped_19 : decode cX4_stepped 19 = .ok (.goto (-14), 3) := by decide +kernel
theorem dX4_stepped_22 : decode cX4_stepped 22 = .ok (.iload_n 1, 1) := by decide +kernel
theorem dX4_stepped_23 : decode cX4_stepped 23 = .ok (.ireturn, 1) := by decide +kernel
theorem dX4_worst_0 : decode cX4_worst 0 = .ok (.ldc 13, 2) := by decide +kernel
theorem dX4_worst_2 : decode cX4_worst 2 = .ok (.istore_n 2, 1) := by decide +kernel
theorem dX4_worst_3 : decode cX4_worst 3 = .ok (.iconst 1, 1) := by decide +kernel
theorem dX4_worst_4 : decode cX4_worst 4 = .ok (.istore_n 3, 1) := by decide +kernel
theorem dX4_worst_5 : decode cX4_worst 5 = .ok (.iconst 0, 1) := by decide +kernel
theorem dX4_worst_6 : decode cX4_worst 6 = .ok (.istore 4, 2) := by decide +kernel
theorem dX4_worst_8 : decode cX4_worst 8 = .ok (.iconst 1, 1) := by decide +kernel
theorem dX4_worst_9 : decode cX4_worst 9 = .ok (.istore 5, 2) := by decide +kernel
theorem dX4_worst_11 : decode cX4_worst 11 = .ok (.iload 5, 2) := by decide +kernel
theorem dX4_worst_13 : decode cX4_worst 13 = .ok (.iload_n 0, 1) := by decide +kernel
theorem dX4_worst_14 : decode cX4_worst 14 = .ok (.if_icmp .gt 48, 3) := by decide +kernel
theorem dX4_worst_17 : decode cX4_worst 17 = .ok (.iload 5, 2) := by decide +kernel
theorem dX4_worst_19 : decode cX4_worst 19 = .ok (.iconst 1, 1) := by decide +kernel
theorem dX4_worst_20 : decode cX4_worst 20 = .ok (.if_icmp .le 10, 3) := by decide +kernel
theorem dX4_worst_23 : decode cX4_worst 23 = .ok (.iload_n 2, 1) := by decide +kernel
theorem dX4_worst_24 : decode cX4_worst 24 = .ok (.iload 5, 2) := by decide +kernel
theorem dX4_worst_26 : decode cX4_worst 26 = .ok (.invokestatic 14, 3) := by decide +kernel
theorem dX4_worst_29 : decode cX4_worst 29 = .ok (.istore_n 2, 1) := by decide +kernel
theorem dX4_worst_30 : decode cX4_worst 30 = .ok (.iload_n 2, 1) := by decide +kernel
theorem dX4_worst_31 : decode cX4_worst 31 = .ok (.iload 5, 2) := by decide +kernel
theorem dX4_worst_33 : decode cX4_worst 33 = .ok (.invokestatic 20, 3) := by decide +kernel
theorem dX4_worst_36 : decode cX4_worst 36 = .ok (.isub, 1) := by decide +kernel
theorem dX4_worst_37 : decode cX4_worst 37 = .ok (.invokestatic 24, 3) := by decide +kernel
theorem dX4_worst_40 : decode cX4_worst 40 = .ok (.istore 6, 2) := by decide +kernel
theorem dX4_worst_42 : decode cX4_worst 42 = .ok (.iload 6, 2) := by decide +kernel
theorem dX4_worst_44 : decode cX4_worst 44 = .ok (.iload 4, 2) := by decide +kernel
theorem dX4_worst_46 : decode cX4_worst 46 = .ok (.if_icmp .le 10, 3) := by decide +kernel
theorem dX4_worst_49 : decode cX4_worst 49 = .ok (.iload 6, 2) := by decide +kernel
theorem dX4_worst_51 : decode cX4_worst 51 = .ok (.istore 4, 2) := by decide +kernel
theorem dX4_worst_53 : decode cX4_worst 53 = .ok (.iload 5, 2) := by decide +kernel
theorem dX4_worst_55 : decode cX4_worst 55 = .ok (.istore_n 3, 1) := by decide +kernel
theorem dX4_worst_56 : decode cX4_worst 56 = .ok (.iinc 5 1, 3) := by decide +kernel
theorem dX4_worst_59 : decode cX4_worst 59 = .ok (.goto (-48), 3) := by decide +kernel
theorem dX4_worst_62 : decode cX4_worst 62 = .ok (.iload_n 1, 1) := by decide +kernel
theorem dX4_worst_63 : decode cX4_worst 63 = .ok (.ifCond .ne 7, 3) := by decide +kernel
theorem dX4_worst_66 : decode cX4_worst 66 = .ok (.iload_n 3, 1) := by decide +kernel
theorem dX4_worst_67 : decode cX4_worst 67 = .ok (.goto 5, 3) := by decide +kernel
theorem dX4_worst_70 : decode cX4_worst 70 = .ok (.iload 4, 2) := by decide +kernel
theorem dX4_worst_72 : decode cX4_worst 72 = .ok (.ireturn, 1) := by decide +kernel
def p_X4_step (h : Hp) (x0 : Int32) (x1 : Int32) : Option (Int32 × Hp) :=
  nv (((Int32.toInt64 x0) * (Int32.toInt64 x0)) >>> ((16 : Int32).toInt64 &&& 63)) fun v1 => nv (((Int32.toInt64 x0) * (196608 - ((Int32.toInt64 x1) * v1))) >>> ((17 : Int32).toInt64 &&& 63)) fun v2 => if 0 ≤ (lg_cmp v2 1) then (if (lg_cmp v2 65535) ≤ 0 then (some (Int64.toInt32 v2, h)) else (some (65535, h))) else (some (1, h))
set_option maxRecDepth 4000 in
theorem s_X4_step {p : Program} {l : Launch} {e : Env} {s : State} {m : MethodId} {args : Array Value} {below : List Frame} {meth : Method} {c : Code} {G : GT} (cx : CX p s m args c cX4_step 6 RX4 G) (hr : meth.sig.returnType = (some .int)) (hlk : meth.locks = false) (h : Hp) (x0 : Int32) (x1 : Int32) : PF p l e (rmc 0 0) s m args below meth c 6 G 0 0 (QI below G args s) 0 [some (.int x0), some (.int x1), none, none, none, none] [] h (p_X4_step h x0 x1) := by
  unfold p_X4_step
  refine f_iload_n (pc := 0) cx dX4_step_0 rfl rfl ?_
  refine f_i2l (pc := 1) cx dX4_step_1 ?_
  refine f_iload_n (pc := 2) cx dX4_step_2 rfl rfl ?_
  refine f_i2l (pc := 3) cx dX4_step_3 ?_
  refine f_lmul (pc := 4) cx dX4_step_4 ?_
  refine f_bipush (pc := 5) cx dX4_step_5 kc_bipush_16 ?_
  refine f_lshr (pc := 7) cx dX4_step_7 ?_
  refine f_nvl (fun v1 => ?_)
  refine f_lstore2 (pc := 8) cx dX4_step_8 (by decide) rfl ?_
  refine f_iload_n (pc := 9) cx dX4_step_9 rfl rfl ?_
  refine f_i2l (pc := 10) cx dX4_step_10 ?_
  refine f_ldc2 (pc := 11) cx w_783 dX4_step_11 ?_
  refine f_iload_n (pc := 14) cx dX4_step_14 rfl rfl ?_
  refine f_i2l (pc := 15) cx dX4_step_15 ?_
  refine f_lload_n (pc := 16) cx dX4_step_16 rfl rfl ?_
  refine f_lmul (pc := 17) cx dX4_step_17 ?_
  refine f_lsub (pc := 18) cx dX4_step_18 ?_
  refine f_lmul (pc := 19) cx dX4_step_19 ?_
  refine f_bipush (pc := 20) cx dX4_step_20 kc_bipush_17 ?_
  refine f_lshr (pc := 22) cx dX4_step_22 ?_
  refine f_nvl (fun v2 => ?_)
  refine f_lstore4 (pc := 23) cx dX4_step_23 (by decide) rfl ?_
  refine f_lload (pc := 25) cx dX4_step_25 rfl ?_
  refine f_lconst (pc := 27) cx dX4_step_27 kc_lconst_1 ?_
  refine f_lcmp (pc := 28) cx dX4_step_28 ?_
  refine f_if_ge (pc := 29) (tgt := 34) cx dX4_step_29 (by decide) (fun _ => ?_) (fun _ => ?_)
  · refine f_lload (pc := 34) cx dX4_step_34 rfl ?_
    refine f_ldc2 (pc := 36) cx w_784 dX4_step_36 ?_
    refine f_lcmp (pc := 39) cx dX4_step_39 ?_
    refine f_if_le (pc := 40) (tgt := 48) cx dX4_step_40 (by decide) (fun _ => ?_) (fun _ => ?_)
    · refine f_lload (pc := 48) cx dX4_step_48 rfl ?_
      refine f_l2i (pc := 50) cx dX4_step_50 ?_
      exact f_iret cx hr hlk rfl dX4_step_51
    · refine f_ldc (pc := 43) cx w_785 dX4_step_43 ?_
      refine f_goto (pc := 45) (tgt := 51) cx dX4_step_45 (by decide) ?_
      exact f_iret cx hr hlk rfl dX4_step_51
  · refine f_iconst (pc := 32) cx dX4_step_32 kc_iconst_1 ?_
    exact f_iret cx hr hlk rfl dX4_step_33
set_option maxRecDepth 4000 in
theorem c_X4_step (l : Launch) (G : GT) (h : Hp) (x0 : Int32) (x1 : Int32) : CtI l G yX4_step cX4_step 6 (some .int) 0 0 [.int x0, .int x1] h (p_X4_step h x0 x1) := fun a ha => Ct.of (lv := [some (.int x0), some (.int x1), none, none, none, none]) (by decide) rfl (Nat.le_of_ble_eq_true rfl) rfl (fun p e s m args below meth c cx hr hlk => s_X4_step cx hr hlk h x0 x1 a ha)
def b_X4_trueRoot_7 (x0 : Int32) (k7 : Hp × Int32 × Int32 × Int32 → Option (Int32 × Hp)) (q : Hp × Int32 × Int32 × Int32) : Option (Int32 × Hp) :=
  if 20 ≤ q.2.2.2 then (some (q.2.1, q.1)) else (if q.2.2.1 ≤ q.2.1 then (some (q.2.1, q.1)) else (nv (((q.2.1 + q.2.2.1) + 1) >>> (1 &&& 31)) fun v1 => if 0 < (lg_cmp (((Int32.toInt64 v1) * (Int32.toInt64 v1)) * (Int32.toInt64 x0)) 4294967296) then (nv (v1 - 1) fun v2 => k7 (q.1, q.2.1, v2, q.2.2.2 + 1)) else (k7 (q.1, v1, q.2.2.1, q.2.2.2 + 1))))
def p_X4_trueRoot (h : Hp) (x0 : Int32) : Option (Int32 × Hp) :=
  lp (b_X4_trueRoot_7 x0) FU (h, 0, 65535, 0)
set_option maxRecDepth 4000 in
theorem s_X4_trueRoot_7 {p : Program} {l : Launch} {e : Env} {s : State} {m : MethodId} {args : Array Value} {below : List Frame} {meth : Method} {c : Code} {G : GT} (cx : CX p s m args c cX4_trueRoot 5 RX4 G) (hr : meth.sig.returnType = (some .int)) (hlk : meth.locks = false) (x0 : Int32) : ∀ (n : Nat) (q : Hp × Int32 × Int32 × Int32), PF p l e (rmc 0 0) s m args below meth c 5 G 0 0 (QI below G args s) 7 [some (.int x0), some (.int q.2.1), some (.int q.2.2.1), some (.int q.2.2.2), none] [] q.1 (lp (b_X4_trueRoot_7 x0) n q) := by
  refine f_lp (lvf := fun (q : Hp × Int32 × Int32 × Int32) => [some (.int x0), some (.int q.2.1), some (.int q.2.2.1), some (.int q.2.2.2), none]) (hf := fun (q : Hp × Int32 × Int32 × Int32) => q.1) (fun k7 hk7 q => ?_)
  show PF p l e (rmc 0 0) s m args below meth c 5 G 0 0 (QI below G args s) 7 [some (.int x0), some (.int q.2.1), some (.int q.2.2.1), some (.int q.2.2.2), none] [] q.1 (b_X4_trueRoot_7 x0 k7 q)
  unfold b_X4_trueRoot_7
  refine f_iload_n (pc := 7) cx dX4_trueRoot_7 rfl rfl ?_
  refine f_bipush (pc := 8) cx dX4_trueRoot_8 kc_bipush_20 ?_
  refine f_icmp_ge (pc := 10) (tgt := 61) cx dX4_trueRoot_10 (by decide) (fun _ => ?_) (fun _ => ?_)
  · refine f_iload_n (pc := 61) cx dX4_trueRoot_61 rfl rfl ?_
    exact f_iret cx hr hlk rfl dX4_trueRoot_62
  · refine f_iload_n (pc := 13) cx dX4_trueRoot_13 rfl rfl ?_
    refine f_iload_n (pc := 14) cx dX4_trueRoot_14 rfl rfl ?_
    refine f_icmp_ge (pc := 15) (tgt := 61) cx dX4_trueRoot_15 (by decide) (fun _ => ?_) (fun _ => ?_)
    · refine f_iload_n (pc := 61) cx dX4_trueRoot_61 rfl rfl ?_
      exact f_iret cx hr hlk rfl dX4_trueRoot_62
    · refine f_iload_n (pc := 18) cx dX4_trueRoot_18 rfl rfl ?_
      refine f_iload_n (pc := 19) cx dX4_trueRoot_19 rfl rfl ?_
      refine f_iadd (pc := 20) cx dX4_trueRoot_20 ?_
      refine f_iconst (pc := 21) cx dX4_trueRoot_21 kc_iconst_1 ?_
      refine f_iadd (pc := 22) cx dX4_trueRoot_22 ?_
      refine f_iconst (pc := 23) cx dX4_trueRoot_23 kc_iconst_1 ?_
      refine f_ishr (pc := 24) cx dX4_trueRoot_24 ?_
      refine f_nvi (fun v1 => ?_)
      refine f_istore4 (pc := 25) cx dX4_trueRoot_25 (by decide) rfl ?_
      refine f_iload (pc := 27) cx dX4_trueRoot_27 rfl ?_
      refine f_i2l (pc := 29) cx dX4_trueRoot_29 ?_
      refine f_iload (pc := 30) cx dX4_trueRoot_30 rfl ?_
      refine f_i2l (pc := 32) cx dX4_trueRoot_32 ?_
      refine f_lmul (pc := 33) cx dX4_trueRoot_33 ?_
      refine f_iload_n (pc := 34) cx dX4_trueRoot_34 rfl rfl ?_
      refine f_i2l (pc := 35) cx dX4_trueRoot_35 ?_
      refine f_lmul (pc := 36) cx dX4_trueRoot_36 ?_
      refine f_ldc2 (pc := 37) cx w_1069 dX4_trueRoot_37 ?_
      refine f_lcmp (pc := 40) cx dX4_trueRoot_40 ?_
      refine f_if_gt (pc := 41) (tgt := 50) cx dX4_trueRoot_41 (by decide) (fun _ => ?_) (fun _ => ?_)
      · refine f_iload (pc := 50) cx dX4_trueRoot_50 rfl ?_
        refine f_iconst (pc := 52) cx dX4_trueRoot_52 kc_iconst_1 ?_
        refine f_isub (pc := 53) cx dX4_trueRoot_53 ?_
        refine f_nvi (fun v2 => ?_)
        refine f_istore2 (pc := 54) cx dX4_trueRoot_54 (by decide) rfl ?_
        refine f_iinc3 (pc := 55) cx dX4_trueRoot_55 kc_iconst_1 (by decide) rfl ?_
        refine f_goto (pc := 58) (tgt := 7) cx dX4_trueRoot_58 (by decide) ?_
        exact f_weak (LSb.s (LSb.s (LSb.s (LSb.s (LSb.n LSb.e))))) (hk7 (q.1, q.2.1, v2, q.2.2.2 + 1))
      · refine f_iload (pc := 44) cx dX4_trueRoot_44 rfl ?_
        refine f_istore1 (pc := 46) cx dX4_trueRoot_46 (by decide) rfl ?_
        refine f_goto (pc := 47) (tgt := 55) cx dX4_trueRoot_47 (by decide) ?_
        refine f_iinc3 (pc := 55) cx dX4_trueRoot_55 kc_iconst_1 (by decide) rfl ?_
        refine f_goto (pc := 58) (tgt := 7) cx dX4_trueRoot_58 (by decide) ?_
        exact f_weak (LSb.s (LSb.s (LSb.s (LSb.s (LSb.n LSb.e))))) (hk7 (q.1, v1, q.2.2.1, q.2.2.2 + 1))
set_option maxRecDepth 4000 in
theorem s_X4_trueRoot {p : Program} {l : Launch} {e : Env} {s : State} {m : MethodId} {args : Array Value} {below : List Frame} {meth : Method} {c : Code} {G : GT} (cx : CX p s m args c cX4_trueRoot 5 RX4 G) (hr : meth.sig.returnType = (some .int)) (hlk : meth.locks = false) (h : Hp) (x0 : Int32) : PF p l e (rmc 0 0) s m args below meth c 5 G 0 0 (QI below G args s) 0 [some (.int x0), none, none, none, none] [] h (p_X4_trueRoot h x0) := by
  unfold p_X4_trueRoot
  refine f_iconst (pc := 0) cx dX4_trueRoot_0 kc_iconst_0 ?_
  refine f_istore1 (pc := 1) cx dX4_trueRoot_1 (by decide) rfl ?_
  refine f_ldc (pc := 2) cx w_785 dX4_trueRoot_2 ?_
  refine f_istore2 (pc := 4) cx dX4_trueRoot_4 (by decide) rfl ?_
  refine f_iconst (pc := 5) cx dX4_trueRoot_5 kc_iconst_0 ?_
  refine f_istore3 (pc := 6) cx dX4_trueRoot_6 (by decide) rfl ?_
  exact f_weak (LSb.s (LSb.s (LSb.s (LSb.s (LSb.n LSb.e))))) (s_X4_trueRoot_7 cx hr hlk x0 FU (h, 0, 65535, 0))
set_option maxRecDepth 4000 in
theorem c_X4_trueRoot (l : Launch) (G : GT) (h : Hp) (x0 : Int32) : CtI l G yX4_trueRoot cX4_trueRoot 5 (some .int) 0 0 [.int x0] h (p_X4_trueRoot h x0) := fun a ha => Ct.of (lv := [some (.int x0), none, none, none, none]) (by decide) rfl (Nat.le_of_ble_eq_true rfl) rfl (fun p e s m args below meth c cx hr hlk => s_X4_trueRoot cx hr hlk h x0 a ha)
def b_X4_stepped_5 (x0 : Int32) (k5 : Hp × Int32 × Int32 → Option (Int32 × Hp)) (q : Hp × Int32 × Int32) : Option (Int32 × Hp) :=
  if x0 < q.2.2 then (some (q.2.1, q.1)) else (Option.bind (p_X4_step q.1 q.2.1 q.2.2) fun r1 => k5 (r1.2, r1.1, q.2.2 + 1))
def p_X4_stepped (h : Hp) (x0 : Int32) : Option (Int32 × Hp) :=
  lp (b_X4_stepped_5 x0) FU (h, 65535, 2)
set_option maxRecDepth 4000 in
theorem s_X4_stepped_5 {p : Program} {l : Launch} {e : Env} {s : State} {m : MethodId} {args : Array Value} {below : List Frame} {meth : Method} {c : Code} {G : GT} (cx : CX p s m args c cX4_stepped 3 RX4 G) (hr : meth.sig.returnType = (some .int)) (hlk : meth.locks = false) (x0 : Int32) : ∀ (n : Nat) (q : Hp × Int32 × Int32), PF p l e (rmc 1 25) s m args below meth c 3 G 0 0 (QI below G args s) 5 [some (.int x0), some (.int q.2.1), some (.int q.2.2)] [] q.1 (lp (b_X4_stepped_5 x0) n q) := by
  refine f_lp (lvf := fun (q : Hp × Int32 × Int32) => [some (.int x0), some (.int q.2.1), some (.int q.2.2)]) (hf := fun (q : Hp × Int32 × Int32) => q.1) (fun k5 hk5 q => ?_)
  show PF p l e (rmc 1 25) s m args below meth c 3 G 0 0 (QI below G args s) 5 [some (.int x0), some (.int q.2.1), some (.int q.2.2)] [] q.1 (b_X4_stepped_5 x0 k5 q)
  unfold b_X4_stepped_5
  refine f_iload_n (pc := 5) cx dX4_stepped_5 rfl rfl ?_
  refine f_iload_n (pc := 6) cx dX4_stepped_6 rfl rfl ?_
  refine f_icmp_gt (pc := 7) (tgt := 22) cx dX4_stepped_7 (by decide) (fun _ => ?_) (fun _ => ?_)
  · refine f_iload_n (pc := 22) cx dX4_stepped_22 rfl rfl ?_
    exact f_iret cx hr hlk rfl dX4_stepped_23
  · refine f_iload_n (pc := 10) cx dX4_stepped_10 rfl rfl ?_
    refine f_iload_n (pc := 11) cx dX4_stepped_11 rfl rfl ?_
    refine f_bind (fun r1 hr1 => ?_)
    refine k_X4_14 (pc := 12) cx (c_X4_step l G _ q.2.1 q.2.2 r1 hr1) ⟨by decide, by decide⟩ ⟨Nat.zero_le _, Nat.zero_le _⟩ (Nat.le_of_ble_eq_true rfl) dX4_stepped_12 ?_
    refine f_istore1 (pc := 15) cx dX4_stepped_15 (by decide) rfl ?_
    refine f_iinc2 (pc := 16) cx dX4_stepped_16 kc_iconst_1 (by decide) rfl ?_
    refine f_goto (pc := 19) (tgt := 5) cx dX4_stepped_19 (by decide) ?_
    exact f_weak (LSb.s (LSb.s (LSb.s LSb.e))) (hk5 (r1.2, r1.1, q.2.2 + 1))
set_option maxRecDepth 4000 in
theorem s_X4_stepped {p : Program} {l : Launch} {e : Env} {s : State} {m : MethodId} {args : Array Value} {below : List Frame} {meth : Method} {c : Code} {G : GT} (cx : CX p s m args c cX4_stepped 3 RX4 G) (hr : meth.sig.returnType = (some .int)) (hlk : meth.locks = false) (h : Hp) (x0 : Int32) : PF p l e (rmc 1 25) s m args below meth c 3 G 0 0 (QI below G args s) 0 [some (.int x0), none, none] [] h (p_X4_stepped h x0) := by
  unfold p_X4_stepped
  refine f_ldc (pc := 0) cx w_785 dX4_stepped_0 ?_
  refine f_istore1 (pc := 2) cx dX4_stepped_2 (by decide) rfl ?_
  refine f_iconst (pc := 3) cx dX4_stepped_3 kc_iconst_2 ?_
  refine f_istore2 (pc := 4) cx dX4_stepped_4 (by decide) rfl ?_
  exact f_weak (LSb.s (LSb.s (LSb.s LSb.e))) (s_X4_stepped_5 cx hr hlk x0 FU (h, 65535, 2))
set_option maxRecDepth 4000 in
theorem c_X4_stepped (l : Launch) (G : GT) (h : Hp) (x0 : Int32) : CtI l G yX4_stepped cX4_stepped 3 (some .int) 1 25 [.int x0] h (p_X4_stepped h x0) := fun a ha => Ct.of (lv := [some (.int x0), none, none]) (by decide) rfl (Nat.le_of_ble_eq_true rfl) rfl (fun p e s m args below meth c cx hr hlk => s_X4_stepped cx hr hlk h x0 a ha)
def q_X4_worst_30 (k11 : Hp × Int32 × Int32 × Int32 × Int32 → Option (Int32 × Hp)) (h : Hp) (x0 : Int32) (x1 : Int32) (x2 : Int32) (x3 : Int32) (x4 : Int32) (x5 : Int32) : Option (Int32 × Hp) :=
  Option.bind (p_X4_trueRoot h x5) fun r1 => nv (if 0 ≤ (x2 - r1.1) then (x2 - r1.1) else 0 - (x2 - r1.1)) fun v2 => if v2 ≤ x4 then (k11 (r1.2, x2, x3, x4, x5 + 1)) else (k11 (r1.2, x2, x5, v2, x5 + 1))
def b_X4_worst_11 (x0 : Int32) (x1 : Int32) (k11 : Hp × Int32 × Int32 × Int32 × Int32 → Option (Int32 × Hp)) (q : Hp × Int32 × Int32 × Int32 × Int32) : Option (Int32 × Hp) :=
  if x0 < q.2.2.2.2 then (if x1 = 0 then (some (q.2.2.1, q.1)) else (some (q.2.2.2.1, q.1))) else (if q.2.2.2.2 ≤ 1 then (q_X4_worst_30 k11 q.1 x0 x1 q.2.1 q.2.2.1 q.2.2.2.1 q.2.2.2.2) else (Option.bind (p_X4_step q.1 q.2.1 q.2.2.2.2) fun r3 => q_X4_worst_30 k11 r3.2 x0 x1 r3.1 q.2.2.1 q.2.2.2.1 q.2.2.2.2))
def p_X4_worst (h : Hp) (x0 : Int32) (x1 : Int32) : Option (Int32 × Hp) :=
  lp (b_X4_worst_11 x0 x1) FU (h, 65535, 1, 0, 1)
set_option maxRecDepth 4000 in
theorem s_X4_worst_30 {p : Program} {l : Launch} {e : Env} {s : State} {m : MethodId} {args : Array Value} {below : List Frame} {meth : Method} {c : Code} {G : GT} (cx : CX p s m args c cX4_worst 7 RX4 G) (hr : meth.sig.returnType = (some .int)) (hlk : meth.locks = false) (h : Hp) (x0 : Int32) (x1 : Int32) (x2 : Int32) (x3 : Int32) (x4 : Int32) (x5 : Int32) (k11 : Hp × Int32 × Int32 × Int32 × Int32 → Option (Int32 × Hp)) (hk11 : ∀ (q : Hp × Int32 × Int32 × Int32 × Int32), PF p l e (rmc 1 27) s m args below meth c 7 G 0 0 (QI below G args s) 11 [some (.int x0), some (.int x1), some (.int q.2.1), some (.int q.2.2.1), some (.int q.2.2.2.1), some (.int q.2.2.2.2), none] [] q.1 (k11 q)) : PF p l e (rmc 1 27) s m args below meth c 7 G 0 0 (QI below G args s) 30 [some (.int x0), some (.int x1), some (.int x2), some (.int x3), some (.int x4), some (.int x5), none] [] h (q_X4_worst_30 k11 h x0 x1 x2 x3 x4 x5) := by
  unfold q_X4_worst_30
  refine f_iload_n (pc := 30) cx dX4_worst_30 rfl rfl ?_
  refine f_iload (pc := 31) cx dX4_worst_31 rfl ?_
  refine f_bind (fun r1 hr1 => ?_)
  refine k_X4_20 (pc := 33) cx (c_X4_trueRoot l G _ x5 r1 hr1) ⟨by decide, by decide⟩ ⟨Nat.zero_le _, Nat.zero_le _⟩ (Nat.le_of_ble_eq_true rfl) dX4_worst_33 ?_
  refine f_isub (pc := 36) cx dX4_worst_36 ?_
  refine k_X4_24 (pc := 37) cx ⟨by decide, by decide⟩ ⟨Nat.zero_le _, Nat.zero_le _⟩ (Nat.le_of_ble_eq_true rfl) dX4_worst_37 ?_
  refine f_nvi (fun v2 => ?_)
  refine f_istore6 (pc := 40) cx dX4_worst_40 (by decide) rfl ?_
  refine f_iload (pc := 42) cx dX4_worst_42 rfl ?_
  refine f_iload (pc := 44) cx dX4_worst_44 rfl ?_
  refine f_icmp_le (pc := 46) (tgt := 56) cx dX4_worst_46 (by decide) (fun _ => ?_) (fun _ => ?_)
  · refine f_iinc5 (pc := 56) cx dX4_worst_56 kc_iconst_1 (by decide) rfl ?_
    refine f_goto (pc := 59) (tgt := 11) cx dX4_worst_59 (by decide) ?_
    exact f_weak (LSb.s (LSb.s (LSb.s (LSb.s (LSb.s (LSb.s (LSb.n LSb.e))))))) (hk11 (r1.2, x2, x3, x4, x5 + 1))
  · refine f_iload (pc := 49) cx dX4_worst_49 rfl ?_
    refine f_istore4 (pc := 51) cx dX4_worst_51 (by decide) rfl ?_
    refine f_iload (pc := 53) cx dX4_worst_53 rfl ?_
    refine f_istore3 (pc := 55) cx dX4_worst_55 (by decide) rfl ?_
    refine f_iinc5 (pc := 56) cx dX4_worst_56 kc_iconst_1 (by decide) rfl ?_
    refine f_goto (pc := 59) (tgt := 11) cx dX4_worst_59 (by decide) ?_
    exact f_weak (LSb.s (LSb.s (LSb.s (LSb.s (LSb.s (LSb.s (LSb.n LSb.e))))))) (hk11 (r1.2, x2, x5, v2, x5 + 1))
set_option maxRecDepth 4000 in
theorem s_X4_worst_11 {p : Program} {l : Launch} {e : Env} {s : State} {m : MethodId} {args : Array Value} {below : List Frame} {meth : Method} {c : Code} {G : GT} (cx : CX p s m args c cX4_worst 7 RX4 G) (hr : meth.sig.returnType = (some .int)) (hlk : meth.locks = false) (x0 : Int32) (x1 : Int32) : ∀ (n : Nat) (q : Hp × Int32 × Int32 × Int32 × Int32), PF p l e (rmc 1 27) s m args below meth c 7 G 0 0 (QI below G args s) 11 [some (.int x0), some (.int x1), some (.int q.2.1), some (.int q.2.2.1), some (.int q.2.2.2.1), some (.int q.2.2.2.2), none] [] q.1 (lp (b_X4_worst_11 x0 x1) n q) := by
  refine f_lp (lvf := fun (q : Hp × Int32 × Int32 × Int32 × Int32) => [some (.int x0), some (.int x1), some (.int q.2.1), some (.int q.2.2.1), some (.int q.2.2.2.1), some (.int q.2.2.2.2), none]) (hf := fun (q : Hp × Int32 × Int32 × Int32 × Int32) => q.1) (fun k11 hk11 q => ?_)
  show PF p l e (rmc 1 27) s m args below meth c 7 G 0 0 (QI below G args s) 11 [some (.int x0), some (.int x1), some (.int q.2.1), some (.int q.2.2.1), some (.int q.2.2.2.1), some (.int q.2.2.2.2), none] [] q.1 (b_X4_worst_11 x0 x1 k11 q)
  unfold b_X4_worst_11
  refine f_iload (pc := 11) cx dX4_worst_11 rfl ?_
  refine f_iload_n (pc := 13) cx dX4_worst_13 rfl rfl ?_
  refine f_icmp_gt (pc := 14) (tgt := 62) cx dX4_worst_14 (by decide) (fun _ => ?_) (fun _ => ?_)
  · refine f_iload_n (pc := 62) cx dX4_worst_62 rfl rfl ?_
    refine f_if_ne (pc := 63) (tgt := 70) cx dX4_worst_63 (by decide) (fun _ => ?_) (fun _ => ?_)
    · refine f_iload_n (pc := 66) cx dX4_worst_66 rfl rfl ?_
      refine f_goto (pc := 67) (tgt := 72) cx dX4_worst_67 (by decide) ?_
      exact f_iret cx hr hlk rfl dX4_worst_72
    · refine f_iload (pc := 70) cx dX4_worst_70 rfl ?_
      exact f_iret cx hr hlk rfl dX4_worst_72
  · refine f_iload (pc := 17) cx dX4_worst_17 rfl ?_
    refine f_iconst (pc := 19) cx dX4_worst_19 kc_iconst_1 ?_
    refine f_icmp_le (pc := 20) (tgt := 30) cx dX4_worst_20 (by decide) (fun _ => ?_) (fun _ => ?_)
    · exact f_weak (LSb.s (LSb.s (LSb.s (LSb.s (LSb.s (LSb.s (LSb.n LSb.e))))))) (s_X4_worst_30 cx hr hlk _ x0 x1 q.2.1 q.2.2.1 q.2.2.2.1 q.2.2.2.2 k11 hk11)
    · refine f_iload_n (pc := 23) cx dX4_worst_23 rfl rfl ?_
      refine f_iload (pc := 24) cx dX4_worst_24 rfl ?_
      refine f_bind (fun r3 hr3 => ?_)
      refine k_X4_14 (pc := 26) cx (c_X4_step l G _ q.2.1 q.2.2.2.2 r3 hr3) ⟨by decide, by decide⟩ ⟨Nat.zero_le _, Nat.zero_le _⟩ (Nat.le_of_ble_eq_true rfl) dX4_worst_26 ?_
      refine f_istore2 (pc := 29) cx dX4_worst_29 (by decide) rfl ?_
      exact f_weak (LSb.s (LSb.s (LSb.s (LSb.s (LSb.s (LSb.s (LSb.n LSb.e))))))) (s_X4_worst_30 cx hr hlk _ x0 x1 r3.1 q.2.2.1 q.2.2.2.1 q.2.2.2.2 k11 hk11)
set_option maxRecDepth 4000 in
theorem s_X4_worst {p : Program} {l : Launch} {e : Env} {s : State} {m : MethodId} {args : Array Value} {below : List Frame} {meth : Method} {c : Code} {G : GT} (cx : CX p s m args c cX4_worst 7 RX4 G) (hr : meth.sig.returnType = (some .int)) (hlk : meth.locks = false) (h : Hp) (x0 : Int32) (x1 : Int32) : PF p l e (rmc 1 27) s m args below meth c 7 G 0 0 (QI below G args s) 0 [some (.int x0), some (.int x1), none, none, none, none, none] [] h (p_X4_worst h x0 x1) := by
  unfold p_X4_worst
  refine f_ldc (pc := 0) cx w_785 dX4_worst_0 ?_
  refine f_istore2 (pc := 2) cx dX4_worst_2 (by decide) rfl ?_
  refine f_iconst (pc := 3) cx dX4_worst_3 kc_iconst_1 ?_
  refine f_istore3 (pc := 4) cx dX4_worst_4 (by decide) rfl ?_
  refine f_iconst (pc := 5) cx dX4_worst_5 kc_iconst_0 ?_
  refine f_istore4 (pc := 6) cx dX4_worst_6 (by decide) rfl ?_
  refine f_iconst (pc := 8) cx dX4_worst_8 kc_iconst_1 ?_
  refine f_istore5 (pc := 9) cx dX4_worst_9 (by decide) rfl ?_
  exact f_weak (LSb.s (LSb.s (LSb.s (LSb.s (LSb.s (LSb.s (LSb.n LSb.e))))))) (s_X4_worst_11 cx hr hlk x0 x1 FU (h, 65535, 1, 0, 1))
set_option maxRecDepth 4000 in
theorem c_X4_worst (l : Launch) (G : GT) (h : Hp) (x0 : Int32) (x1 : Int32) : CtI l G yX4_worst cX4_worst 7 (some .int) 1 27 [.int x0, .int x1] h (p_X4_worst h x0 x1) := fun a ha => Ct.of (lv := [some (.int x0), some (.int x1), none, none, none, none, none]) (by decide) rfl (Nat.le_of_ble_eq_true rfl) rfl (fun p e s m args below meth c cx hr hlk => s_X4_worst cx hr hlk h x0 x1 a ha)
