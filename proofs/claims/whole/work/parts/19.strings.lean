theorem w_106 : Cond.initialized RJ0 ∈ lw_tbl := wi 106 (by decide +kernel)
theorem w_107 : Cond.initialized RJ1 ∈ lw_tbl := wi 107 (by decide +kernel)
theorem w_108 : Cond.initialized RJ3 ∈ lw_tbl := wi 108 (by decide +kernel)
theorem w_561 : Cond.methodLink RX3 127 yJ0_length_8abf5 ∈ lw_tbl := wi 561 (by decide +kernel)
theorem w_562 : Cond.instanceMethod yJ0_length_8abf5 ∈ lw_tbl := wi 562 (by decide +kernel)
theorem w_563 : Cond.selects RJ0 yJ0_length_8abf5 yJ0_length_8abf5 ∈ lw_tbl := wi 563 (by decide +kernel)
theorem w_564 : Cond.code yJ0_length_8abf5 cJ0_length_8abf5 1 (some .int) ∈ lw_tbl := wi 564 (by decide +kernel)
theorem w_565 : Cond.methodLink RJ0 335 yJ0_coder_7d493 ∈ lw_tbl := wi 565 (by decide +kernel)
theorem w_566 : Cond.instanceMethod yJ0_coder_7d493 ∈ lw_tbl := wi 566 (by decide +kernel)
theorem w_567 : Cond.selects RJ0 yJ0_coder_7d493 yJ0_coder_7d493 ∈ lw_tbl := wi 567 (by decide +kernel)
theorem w_568 : Cond.code yJ0_coder_7d493 cJ0_coder_7d493 1 (some .byte) ∈ lw_tbl := wi 568 (by decide +kernel)
theorem w_569 : Cond.fieldLink RJ0 38 RJ0 "COMPACT_STRINGS" "Z" ∈ lw_tbl := wi 569 (by decide +kernel)
theorem w_571 : Cond.methodLink RX3 132 yJ0_charAt_5068e ∈ lw_tbl := wi 571 (by decide +kernel)
theorem w_572 : Cond.instanceMethod yJ0_charAt_5068e ∈ lw_tbl := wi 572 (by decide +kernel)
theorem w_573 : Cond.selects RJ0 yJ0_charAt_5068e yJ0_charAt_5068e ∈ lw_tbl := wi 573 (by decide +kernel)
theorem w_574 : Cond.code yJ0_charAt_5068e cJ0_charAt_5068e 2 (some .char) ∈ lw_tbl := wi 574 (by decide +kernel)
theorem w_575 : Cond.methodLink RJ0 492 yJ0_isLatin1_aae02 ∈ lw_tbl := wi 575 (by decide +kernel)
theorem w_576 : Cond.instanceMethod yJ0_isLatin1_aae02 ∈ lw_tbl := wi 576 (by decide +kernel)
theorem w_577 : Cond.selects RJ0 yJ0_isLatin1_aae02 yJ0_isLatin1_aae02 ∈ lw_tbl := wi 577 (by decide +kernel)
theorem w_578 : Cond.code yJ0_isLatin1_aae02 cJ0_isLatin1_aae02 1 (some .boolean) ∈ lw_tbl := wi 578 (by decide +kernel)
theorem w_579 : Cond.methodLink RJ0 495 yJ1_charAt_3b067 ∈ lw_tbl := wi 579 (by decide +kernel)
theorem w_580 : Cond.static yJ1_charAt_3b067 ∈ lw_tbl := wi 580 (by decide +kernel)
theorem w_581 : Cond.code yJ1_charAt_3b067 cJ1_charAt_3b067 2 (some .char) ∈ lw_tbl := wi 581 (by decide +kernel)
theorem w_582 : Cond.methodLink RJ1 9 yJ0_checkIndex_df160 ∈ lw_tbl := wi 582 (by decide +kernel)
theorem w_583 : Cond.static yJ0_checkIndex_df160 ∈ lw_tbl := wi 583 (by decide +kernel)
theorem w_584 : Cond.code yJ0_checkIndex_df160 cJ0_checkIndex_df160 2 none ∈ lw_tbl := wi 584 (by decide +kernel)
theorem w_585 : Cond.fieldLink RJ0 1053 RJ3 "SIOOBE_FORMATTER" "Ljava/util/function/BiFunction;" ∈ lw_tbl := wi 585 (by decide +kernel)
theorem w_587 : Cond.methodLink RJ0 1059 yJ3_checkIndex_8e157 ∈ lw_tbl := wi 587 (by decide +kernel)
theorem w_588 : Cond.static yJ3_checkIndex_8e157 ∈ lw_tbl := wi 588 (by decide +kernel)
theorem w_589 : Cond.code yJ3_checkIndex_8e157 cJ3_checkIndex_8e157 3 (some .int) ∈ lw_tbl := wi 589 (by decide +kernel)
theorem w_1418 : Cond.methodLink RX10 83 yJ0_length_8abf5 ∈ lw_tbl := wi 1418 (by decide +kernel)
theorem w_1419 : Cond.methodLink RX10 88 yJ0_charAt_5068e ∈ lw_tbl := wi 1419 (by decide +kernel)
theorem w_1846 : Cond.fieldLink RJ0 9 RJ0 "value" "[B" ∈ lw_tbl := wi 1846 (by decide +kernel)
theorem w_1847 : Cond.fieldLink RJ0 15 RJ0 "coder" "B" ∈ lw_tbl := wi 1847 (by decide +kernel)
theorem dJ0_length_8abf5_0 : decode cJ0_length_8abf5 0 = .ok (.aload_n 0, 1) := by decide +kernel
theorem dJ0_length_8abf5_1 : decode cJ0_length_8abf5 1 = .ok (.getfield 9, 3) := by decide +kernel
theorem dJ0_length_8abf5_4 : decode cJ0_length_8abf5 4 = .ok (.arraylength, 1) := by decide +kernel
theorem dJ0_length_8abf5_5 : decode cJ0_length_8abf5 5 = .ok (.aload_n 0, 1) := by decide +kernel
theorem dJ0_length_8abf5_6 : decode cJ0_length_8abf5 6 = .ok (.invokevirtual 335, 3) := by decide +kernel
theorem dJ0_length_8abf5_9 : decode cJ0_length_8abf5 9 = .ok (.ishr, 1) := by decide +kernel
theorem dJ0_length_8abf5_10 : decode cJ0_length_8abf5 10 = .ok (.ireturn, 1) := by decide +kernel
theorem dJ0_charAt_5068e_0 : decode cJ0_charAt_5068e 0 = .ok (.aload_n 0, 1) := by decide +kernel
theorem dJ0_charAt_5068e_1 : decode cJ0_charAt_5068e 1 = .ok (.invokevirtual 492, 3) := by decide +kernel
theorem dJ0_charAt_5068e_4 : decode cJ0_charAt_5068e 4 = .ok (.ifCond .eq 12, 3) := by decide +kernel
theorem dJ0_charAt_5068e_7 : decode cJ0_charAt_5068e 7 = .ok (.aload_n 0, 1) := by decide +kernel
theorem dJ0_charAt_5068e_8 : decode cJ0_charAt_5068e 8 = .ok (.getfield 9, 3) := by decide +kernel
theorem dJ0_charAt_5068e_11 : decode cJ0_charAt_5068e 11 = .ok (.iload_n 1, 1) := by decide +kernel
theorem dJ0_charAt_5068e_12 : decode cJ0_charAt_5068e 12 = .ok (.invokestatic 495, 3) := by decide +kernel
theorem dJ0_charAt_5068e_15 : decode cJ0_charAt_5068e 15 = .ok (.ireturn, 1) := by decide +kernel
theorem dJ0_charAt_5068e_16 : decode cJ0_charAt_5068e 16 = .ok (.aload_n 0, 1) := by decide +kernel
theorem dJ0_charAt_5068e_17 : decode cJ0_charAt_5068e 17 = .ok (.getfield 9, 3) := by decide +kernel
theorem dJ0_charAt_5068e_20 : decode cJ0_charAt_5068e 20 = .ok (.iload_n 1, 1) := by decide +kernel
theorem dJ0_charAt_5068e_21 : decode cJ0_charAt_5068e 21 = .ok (.invokestatic 498, 3) := by decide +kernel
theorem dJ0_charAt_5068e_24 : decode cJ0_charAt_5068e 24 = .ok (.ireturn, 1) := by decide +kernel
theorem dJ0_coder_7d493_0 : decode cJ0_coder_7d493 0 = .ok (.getstatic 38, 3) := by decide +kernel
theorem dJ0_coder_7d493_3 : decode cJ0_coder_7d493 3 = .ok (.ifCond .eq 10, 3) := by decide +kernel
theorem dJ0_coder_7d493_6 : decode cJ0_coder_7d493 6 = .ok (.aload_n 0, 1) := by decide +kernel
theorem dJ0_coder_7d493_7 : decode cJ0_coder_7d493 7 = .ok (.getfield 15, 3) := by decide +kernel
theorem dJ0_coder_7d493_10 : decode cJ0_coder_7d493 10 = .ok (.goto 4, 3) := by decide +kernel
theorem dJ0_coder_7d493_13 : decode cJ0_coder_7d493 13 = .ok (.iconst 1, 1) := by decide +kernel
theorem dJ0_coder_7d493_14 : decode cJ0_coder_7d493 14 = .ok (.ireturn, 1) := by decide +kernel
theorem dJ0_isLatin1_aae02_0 : decode cJ0_isLatin1_aae02 0 = .ok (.getstatic 38, 3) := by decide +kernel
theorem dJ0_isLatin1_aae02_3 : decode cJ0_isLatin1_aae02 3 = .ok (.ifCond .eq 14, 3) := by decide +kernel
theorem dJ0_isLatin1_aae02_6 : decode cJ0_isLatin1_aae02 6 = .ok (.aload_n 0, 1) := by decide +kernel
theorem dJ0_isLatin1_aae02_7 : decode cJ0_isLatin1_aae02 7 = .ok (.getfield 15, 3) := by decide +kernel
theorem dJ0_isLatin1_aae02_10 : decode cJ0_isLatin1_aae02 10 = .ok (.ifCond .ne 7, 3) := by decide +kernel
theorem dJ0_isLatin1_aae02_13 : decode cJ0_isLatin1_aae02 13 = .ok (.iconst 1, 1) := by decide +kernel
theorem dJ0_isLatin1_aae02_14 : decode cJ0_isLatin1_aae02 14 = .ok (.goto 4, 3) := by decide +kernel
theorem dJ0_isLatin1_aae02_17 : decode cJ0_isLatin1_aae02 17 = .ok (.iconst 0, 1) := by decide +kernel
theorem dJ0_isLatin1_aae02_18 : decode cJ0_isLatin1_aae02 18 = .ok (.ireturn, 1) := by decide +kernel
theorem dJ0_checkIndex_df160_0 : decode cJ0_checkIndex_df160 0 = .ok (.iload_n 0, 1) := by decide +kernel
theorem dJ0_checkIndex_df160_1 : decode cJ0_checkIndex_df160 1 = .ok (.iload_n 1, 1) := by decide +kernel
theorem dJ0_checkIndex_df160_2 : decode cJ0_checkIndex_df160 2 = .ok (.getstatic 1053, 3) := by decide +kernel
theorem dJ0_checkIndex_df160_5 : decode cJ0_checkIndex_df160 5 = .ok (.invokestatic 1059, 3) := by decide +kernel
theorem dJ0_checkIndex_df160_8 : decode cJ0_checkIndex_df160 8 = .ok (.pop, 1) := by decide +kernel
theorem dJ0_checkIndex_df160_9 : decode cJ0_checkIndex_df160 9 = .ok (.return_, 1) := by decide +kernel
theorem dJ1_charAt_3b067_0 : decode cJ1_charAt_3b067 0 = .ok (.iload_n 1, 1) := by decide +kernel
theorem dJ1_charAt_3b067_1 : decode cJ1_charAt_3b067 1 = .ok (.aload_n 0, 1) := by decide +kernel
theorem dJ1_charAt_3b067_2 : decode cJ1_charAt_3b067 2 = .ok (.arraylength, 1) := by decide +kernel
theorem dJ1_charAt_3b067_3 : decode cJ1_charAt_3b067 3 = .ok (.invokestatic 9, 3) := by decide +kernel
theorem dJ1_charAt_3b067_6 : decode cJ1_charAt_3b067 6 = .ok (.aload_n 0, 1) := by decide +kernel
theorem dJ1_charAt_3b067_7 : decode cJ1_charAt_3b067 7 = .ok (.iload_n 1, 1) := by decide +kernel
theorem dJ1_charAt_3b067_8 : decode cJ1_charAt_3b067 8 = .ok (.baload, 1) := by decide +kernel
theorem dJ1_charAt_3b067_9 : decode cJ1_charAt_3b067 9 = .ok (.sipush 255, 3) := by decide +kernel
theorem dJ1_charAt_3b067_12 : decode cJ1_charAt_3b067 12 = .ok (.iand, 1) := by decide +kernel
theorem dJ1_charAt_3b067_13 : decode cJ1_charAt_3b067 13 = .ok (.i2c, 1) := by decide +kernel
theorem dJ1_charAt_3b067_14 : decode cJ1_charAt_3b067 14 = .ok (.ireturn, 1) := by decide +kernel
theorem dJ3_checkIndex_8e157_0 : decode cJ3_checkIndex_8e157 0 = .ok (.iload_n 0, 1) := by decide +kernel
theorem dJ3_checkIndex_8e157_1 : decode cJ3_checkIndex_8e157 1 = .ok (.ifCond .lt 8, 3) := by decide +kernel
theorem dJ3_checkIndex_8e157_4 : decode cJ3_checkIndex_8e157 4 = .ok (.iload_n 0, 1) := by decide +kernel
theorem dJ3_checkIndex_8e157_5 : decode cJ3_checkIndex_8e157 5 = .ok (.iload_n 1, 1) := by decide +kernel
theorem dJ3_checkIndex_8e157_6 : decode cJ3_checkIndex_8e157 6 = .ok (.if_icmp .lt 10, 3) := by decide +kernel
theorem dJ3_checkIndex_8e157_9 : decode cJ3_checkIndex_8e157 9 = .ok (.aload_n 2, 1) := by decide +kernel
theorem dJ3_checkIndex_8e157_10 : decode cJ3_checkIndex_8e157 10 = .ok (.iload_n 0, 1) := by decide +kernel
theorem dJ3_checkIndex_8e157_11 : decode cJ3_checkIndex_8e157 11 = .ok (.iload_n 1, 1) := by decide +kernel
theorem dJ3_checkIndex_8e157_12 : decode cJ3_checkIndex_8e157 12 = .ok (.invokestatic 95, 3) := by decide +kernel
theorem dJ3_checkIndex_8e157_15 : decode cJ3_checkIndex_8e157 15 = .ok (.athrow, 1) := by decide +kernel
theorem dJ3_checkIndex_8e157_16 : decode cJ3_checkIndex_8e157 16 = .ok (.iload_n 0, 1) := by decide +kernel
theorem dJ3_checkIndex_8e157_17 : decode cJ3_checkIndex_8e157 17 = .ok (.ireturn, 1) := by decide +kernel
/-! texts that are constants -/
def sle (j : Nat) : Nat := stL.getD j 0
def sch (j : Nat) (i : Int32) : Int32 := (stB.getD j []).getD i.toNatClampNeg 0
def slen (j : Nat) : Int32 := Int32.ofNat (sle j)
section Str
variable {p : Program} {l : Launch} {e : Env} {R : Room} {s : State} {m : MethodId} {args : Array Value} {below : List Frame} {meth : Method} {c : Code} {cc : ByteArray} {nL : Nat} {own : String} {G : GT} {cells slots : Nat} {α : Type} {Qf : α → State → Prop} {pc : Nat} {lv : List (Option Value)} {st : List Value} {h : Hp} {o : Option α}
theorem f_ldcS (cx : CX p s m args c cc nL own G) {j i : Nat} (hj : j < 17) (ho : (stO j).1 = own) (hi : (stO j).2.1 = i) (hd : decode cc pc = .ok (.ldc i, 2)) (k : PF p l e R s m args below meth c nL G cells slots Qf (pc + 2) lv (.ref (gsa G (100 + j)) :: st) h o) : PF p l e R s m args below meth c nL G cells slots Qf pc lv st h o := by
  subst ho; subst hi
  exact fun a ha H locs ls hl hI => va_ldcS cx.1 cx.2.1 cx.2.2.2.1 (cx.2.2.2.2.2.2.2.2.1 j hj) hd (k a ha H locs ls hl hI)
theorem f_strV (cx : CX p s m args c cc nL RJ0 G) {j : Nat} (hj : j < 17) (hd : decode cc pc = .ok (.getfield 9, 3)) (k : PF p l e R s m args below meth c nL G cells slots Qf (pc + 3) lv (.ref (gsa G (200 + j)) :: st) h o) : PF p l e R s m args below meth c nL G cells slots Qf pc lv (.ref (gsa G (100 + j)) :: st) h o :=
  fun a ha H locs ls hl hI => vk_getf cx.1 cx.2.1 (cx.2.2.2.2.2.2.2.1.1 j hj).2.2.1 hI.2.2 cx.2.2.2.1 (cx.2.2.2.2.1.use w_1846 rfl _) (fun _ z => z) hd (k a ha H locs ls hl hI)
theorem f_strC (cx : CX p s m args c cc nL RJ0 G) {j : Nat} (hj : j < 17) (hd : decode cc pc = .ok (.getfield 15, 3)) (k : PF p l e R s m args below meth c nL G cells slots Qf (pc + 3) lv (.int 0 :: st) h o) : PF p l e R s m args below meth c nL G cells slots Qf pc lv (.ref (gsa G (100 + j)) :: st) h o :=
  fun a ha H locs ls hl hI => vk_getf cx.1 cx.2.1 (cx.2.2.2.2.2.2.2.1.1 j hj).2.1 hI.2.2 cx.2.2.2.1 (cx.2.2.2.2.1.use w_1847 rfl _) (fun _ z => z) hd (k a ha H locs ls hl hI)
theorem f_strP (cx : CX p s m args c cc nL RJ0 G) (hd : decode cc pc = .ok (.getstatic 38, 3)) (k : PF p l e R s m args below meth c nL G cells slots Qf (pc + 3) lv (.int 1 :: st) h o) : PF p l e R s m args below meth c nL G cells slots Qf pc lv st h o :=
  fun a ha H locs ls hl hI => va_gets cx.1 cx.2.1 cx.2.2.2.2.2.2.2.2.2.1 hI.2.2 cx.2.2.2.1 (cx.2.2.2.2.1.use w_569 rfl _) (fun _ z => z) hd (k a ha H locs ls hl hI)
theorem f_strF (cx : CX p s m args c cc nL RJ0 G) (hd : decode cc pc = .ok (.getstatic 1053, 3)) (k : ∀ v : Value, (v = .null ∨ ∃ t, v = .ref t) → PF p l e R s m args below meth c nL G cells slots Qf (pc + 3) lv (v :: st) h o) : PF p l e R s m args below meth c nL G cells slots Qf pc lv st h o := by
  intro a ha H locs ls hl hI
  rcases cx.2.2.2.2.2.2.2.2.2.2.1 with hz | ⟨t, hz⟩
  · exact va_gets cx.1 cx.2.1 hz hI.2.2 cx.2.2.2.1 (cx.2.2.2.2.1.use w_585 rfl _) (fun _ z => z) hd (k .null (Or.inl rfl) a ha H locs ls hl hI)
  · exact va_gets cx.1 cx.2.1 hz hI.2.2 cx.2.2.2.1 (cx.2.2.2.2.1.use w_585 rfl _) (fun _ z => z) hd (k (.ref t) (Or.inr ⟨t, rfl⟩) a ha H locs ls hl hI)
theorem f_strL (cx : CX p s m args c cc nL own G) {j : Nat} (hj : j < 17) (hd : decode cc pc = .ok (.arraylength, 1)) (k : PF p l e R s m args below meth c nL G cells slots Qf (pc + 1) lv (.int (slen j) :: st) h o) : PF p l e R s m args below meth c nL G cells slots Qf pc lv (.ref (gsa G (200 + j)) :: st) h o :=
  fun a ha H locs ls hl hI => va_tlen cx.1 cx.2.1 (cx.2.2.2.2.2.2.2.1.1 j hj).2.2.2 hI.2.2 rfl hd (k a ha H locs ls hl hI)
theorem f_strB (cx : CX p s m args c cc nL own G) {j : Nat} {i : Int32} (hj : j < 17) (hi : ib i (sle j)) (hd : decode cc pc = .ok (.baload, 1)) (k : PF p l e R s m args below meth c nL G cells slots Qf (pc + 1) lv (.int (sch j i) :: st) h o) : PF p l e R s m args below meth c nL G cells slots Qf pc lv (.int i :: .ref (gsa G (200 + j)) :: st) h o :=
  fun a ha H locs ls hl hI => va_tb cx.1 cx.2.1 (cx.2.2.2.2.2.2.2.1.1 j hj).2.2.2 hI.2.2 hi rfl hd (k a ha H locs ls hl hI)
theorem f_i2c (cx : CX p s m args c cc nL own G) {x v : Int32} (hv : (x.toUInt32 % 65536).toInt32 = v) (hd : decode cc pc = .ok (.i2c, 1)) (k : PF p l e R s m args below meth c nL G cells slots Qf (pc + 1) lv (.int v :: st) h o) : PF p l e R s m args below meth c nL G cells slots Qf pc lv (.int x :: st) h o :=
  fun a ha H locs ls hl hI => lv_i2c cx.1 cx.2.1 hd hv (k a ha H locs ls hl hI)
/-- a call on a text -/
theorem f_cvS (cx : CX p s m args c cc nL own G) {y : MethodName} {bytes : ByteArray} {maxL f n i j : Nat} {ret : Option FieldType} (As : List Value) {r : Option Value} {h1 : Hp} (hM : Ct l G y bytes maxL ret f n (.ref (gsa G (100 + j)) :: As) h r h1) (hj : j < 17) (w1 : Cond.methodLink own i y ∈ lw_tbl) (w2 : Cond.instanceMethod y ∈ lw_tbl) (w3 : Cond.selects "java/lang/String" y y ∈ lw_tbl) (w4 : Cond.initialized y.cls ∈ lw_tbl) (w5 : Cond.code y bytes maxL ret ∈ lw_tbl) (hy : y.cls ≠ "java/lang/invoke/MethodHandle" ∧ y.cls ≠ "java/lang/invoke/VarHandle") (hn : (parseMethodDescriptor y.desc).map (fun d => d.parameters.length) = some As.length) (hR : f + 1 ≤ R.frames ∧ 8 + (maxL + 11) + n ≤ R.locals) (hcs : cells ≤ R.cells ∧ slots ≤ R.slots) (hW : (st.map fun v => v.category).sum ≤ 8) (hd : decode cc pc = .ok (.invokevirtual i, 3)) (k : PF p l e R s m args below meth c nL G cells slots Qf (pc + 3) lv (r.toList ++ st) h1 o) : PF p l e R s m args below meth c nL G cells slots Qf pc lv (As.reverse ++ .ref (gsa G (100 + j)) :: st) h o := by
  intro a ha H locs ls hl hI
  have g := cx.2.2.2.2.1
  refine f_back hI hl (va_runV (Ts := []) (C := "java/lang/String") (As := As) (rest := st) (bytes := bytes) (maxL := maxL) (ret := ret) ⟨cx.1, cx.2.1, cx.2.2.1, cx.2.2.2.1, fun w hw => by cases hw⟩ (hM H.size) ⟨⟨rfl, rfl, hR.1, hR.2, fun w hw a1 U hU => ?_, List.mem_cons_self, g.use w5 rfl _, g.use w4 rfl _, hy, fun sig hs => ?_, g.use w1 rfl _⟩, g.use w2 rfl _, g.use w3 rfl _⟩ ⟨Pre.blind, vk_recv cx.2.2.2.2.2.2.2.1 hj hI.2.2, fun U hU hW => ⟨rfl, Pre.of cx hI hU hW⟩⟩ rfl rfl hl.1 rfl (lv_room hW) hd hcs) ha k
  · rw [List.mem_singleton.mp hw]
    exact okw_at rfl hU (g.use w5 rfl #[])
  · rw [hs] at hn
    exact (Option.some.inj hn).symm
theorem f_iretX (cx : CX p s m args c cc nL own G) {ty : FieldType} (hr : meth.sig.returnType = some ty) (hlk : meth.locks = false) {v : Int32} (hn : narrow ty (.int v) = .int v) (hd : decode cc pc = .ok (.ireturn, 1)) {x : Int32 × Hp} (hx : x = (v, h)) : PF p l e R s m args below meth c nL G 0 0 (QI below G args s) pc lv [.int v] h (some x) := by
  subst hx
  exact f_iret cx hr hlk hn hd
end Str
theorem s_coder (l : Launch) (G : GT) (h : Hp) (j : Nat) (hj : j < 17) : CtI l G yJ0_coder_7d493 cJ0_coder_7d493 1 (some .byte) 0 0 [.ref (gsa G (100 + j))] h (some (0, h)) := fun a ha => Ct.of (lv := [some (.ref (gsa G (100 + j)))]) (by decide) rfl (Nat.le_of_ble_eq_true rfl) rfl (fun p e s m args below meth c cx hr hlk =>
  (f_strP (pc := 0) cx dJ0_coder_7d493_0 (f_if_eq_f (pc := 3) (tgt := 13) cx dJ0_coder_7d493_3 (by decide) (by decide) (f_aload_n (pc := 6) cx dJ0_coder_7d493_6 rfl rfl (f_strC (pc := 7) cx hj dJ0_coder_7d493_7 (f_goto (pc := 10) (tgt := 14) cx dJ0_coder_7d493_10 (by decide) (f_iret cx hr hlk (by decide) dJ0_coder_7d493_14))))) : PF p l e (rmc 0 0) s m args below meth c 1 G 0 0 (QI below G args s) 0 [some (.ref (gsa G (100 + j)))] [] h (some (0, h))) a ha)
theorem s_isLatin1 (l : Launch) (G : GT) (h : Hp) (j : Nat) (hj : j < 17) : CtI l G yJ0_isLatin1_aae02 cJ0_isLatin1_aae02 1 (some .boolean) 0 0 [.ref (gsa G (100 + j))] h (some (1, h)) := fun a ha => Ct.of (lv := [some (.ref (gsa G (100 + j)))]) (by decide) rfl (Nat.le_of_ble_eq_true rfl) rfl (fun p e s m args below meth c cx hr hlk =>
  (f_strP (pc := 0) cx dJ0_isLatin1_aae02_0 (f_if_eq_f (pc := 3) (tgt := 17) cx dJ0_isLatin1_aae02_3 (by decide) (by decide) (f_aload_n (pc := 6) cx dJ0_isLatin1_aae02_6 rfl rfl (f_strC (pc := 7) cx hj dJ0_isLatin1_aae02_7 (f_if_ne_f (pc := 10) (tgt := 17) cx dJ0_isLatin1_aae02_10 (by decide) (by decide) (f_iconst (pc := 13) cx dJ0_isLatin1_aae02_13 kc_iconst_1 (f_goto (pc := 14) (tgt := 18) cx dJ0_isLatin1_aae02_14 (by decide) (f_iret cx hr hlk (by decide) dJ0_isLatin1_aae02_18))))))) : PF p l e (rmc 0 0) s m args below meth c 1 G 0 0 (QI below G args s) 0 [some (.ref (gsa G (100 + j)))] [] h (some (1, h))) a ha)
theorem s_length (l : Launch) (G : GT) (h : Hp) (j : Nat) (hj : j < 17) : CtI l G yJ0_length_8abf5 cJ0_length_8abf5 1 (some .int) 1 20 [.ref (gsa G (100 + j))] h (some (slen j, h)) := fun a ha => Ct.of (lv := [some (.ref (gsa G (100 + j)))]) (by decide) rfl (Nat.le_of_ble_eq_true rfl) rfl (fun p e s m args below meth c cx hr hlk =>
  (f_aload_n (pc := 0) cx dJ0_length_8abf5_0 rfl rfl (f_strV (pc := 1) cx hj dJ0_length_8abf5_1 (f_strL (pc := 4) cx hj dJ0_length_8abf5_4 (f_aload_n (pc := 5) cx dJ0_length_8abf5_5 rfl rfl (f_cvS (pc := 6) (st := [.int (slen j)]) cx [] (s_coder l G h j hj (0, h) rfl) hj w_565 w_566 w_567 w_106 w_568 (by decide +kernel) (by decide +kernel) ⟨by decide, by decide⟩ ⟨Nat.zero_le _, Nat.zero_le _⟩ (Nat.le_of_ble_eq_true rfl) dJ0_length_8abf5_6 (f_ishr (pc := 9) cx dJ0_length_8abf5_9 (f_iretX cx hr hlk rfl dJ0_length_8abf5_10 (by rw [sb_shr0]))))))) : PF p l e (rmc 1 20) s m args below meth c 1 G 0 0 (QI below G args s) 0 [some (.ref (gsa G (100 + j)))] [] h (some (slen j, h))) a ha)
theorem s_preIdx (l : Launch) (G : GT) (h : Hp) (i n : Int32) (v : Value) (hv : v = .null ∨ ∃ t, v = .ref t) (h0 : ¬ i < 0) (h1 : i < n) : CtI l G yJ3_checkIndex_8e157 cJ3_checkIndex_8e157 3 (some .int) 0 0 [.int i, .int n, v] h (some (i, h)) := fun a ha => Ct.of (lv := [some (.int i), some (.int n), some v]) (by decide) (by rcases hv with rfl | ⟨t, rfl⟩ <;> rfl) (by rcases hv with rfl | ⟨t, rfl⟩ <;> exact Nat.le_of_ble_eq_true rfl) rfl (fun p e s m args below meth c cx hr hlk =>
  (f_iload_n (pc := 0) cx dJ3_checkIndex_8e157_0 rfl rfl (f_if_lt_f (pc := 1) (tgt := 9) cx dJ3_checkIndex_8e157_1 (by decide) h0 (f_iload_n (pc := 4) cx dJ3_checkIndex_8e157_4 rfl rfl (f_iload_n (pc := 5) cx dJ3_checkIndex_8e157_5 rfl rfl (f_icmp_lt_t (pc := 6) (tgt := 16) cx dJ3_checkIndex_8e157_6 (by decide) h1 (f_iload_n (pc := 16) cx dJ3_checkIndex_8e157_16 rfl rfl (f_iret cx hr hlk rfl dJ3_checkIndex_8e157_17)))))) : PF p l e (rmc 0 0) s m args below meth c 3 G 0 0 (QI below G args s) 0 [some (.int i), some (.int n), some v] [] h (some (i, h))) a ha)
theorem s_chkIdx (l : Launch) (G : GT) (h : Hp) (i n : Int32) (h0 : ¬ i < 0) (h1 : i < n) : CtV l G yJ0_checkIndex_df160 cJ0_checkIndex_df160 2 none 1 22 [.int i, .int n] h (some h) := fun a ha => Ct.of (lv := [some (.int i), some (.int n)]) (by decide) rfl (Nat.le_of_ble_eq_true rfl) rfl (fun p e s m args below meth c cx hr hlk =>
  (f_iload_n (pc := 0) cx dJ0_checkIndex_df160_0 rfl rfl (f_iload_n (pc := 1) cx dJ0_checkIndex_df160_1 rfl rfl (f_strF (pc := 2) cx dJ0_checkIndex_df160_2 (fun v hv => f_cs (pc := 5) (st := []) cx [.int i, .int n, v] (s_preIdx l G h i n v hv h0 h1 (i, h) rfl) w_587 w_588 w_108 w_589 (by decide +kernel) (show _ = some 3 from by decide +kernel) ⟨by decide, by decide⟩ ⟨Nat.zero_le _, Nat.zero_le _⟩ (Nat.le_of_ble_eq_true rfl) dJ0_checkIndex_df160_5 (f_pop (pc := 8) cx dJ0_checkIndex_df160_8 rfl (f_vret cx hr hlk dJ0_checkIndex_df160_9))))) : PF p l e (rmc 1 22) s m args below meth c 2 G 0 0 (QV below G args s) 0 [some (.int i), some (.int n)] [] h (some h)) a ha)
theorem sch_c : ∀ j, j < 17 → ∀ i, i < sle j → (((stB.getD j []).getD i 0 &&& 255).toUInt32 % 65536).toInt32 = (stB.getD j []).getD i 0 ∧ narrow .char (.int ((stB.getD j []).getD i 0)) = .int ((stB.getD j []).getD i 0) := by decide +kernel
theorem sle_small : ∀ j, j < 17 → sle j < 2 ^ 31 := by decide +kernel
theorem ib_lt {i : Int32} {j : Nat} (hj : j < 17) (hi : ib i (sle j)) : ¬ i < 0 ∧ i < slen j := by
  have h0 : ¬ i < 0 := fun q => hi (Or.inl q)
  obtain ⟨k, hk, rfl⟩ := nI_of h0
  have h1 : k < sle j := by
    rcases Nat.lt_or_ge k (sle j) with q | q
    · exact q
    · exact absurd (Or.inr (by rw [nI_clamp hk]; exact q)) hi
  exact ⟨h0, nI_lt h1 (sle_small j hj)⟩
theorem s_l1char (l : Launch) (G : GT) (h : Hp) (j : Nat) (i : Int32) (hj : j < 17) (hi : ib i (sle j)) : CtI l G yJ1_charAt_3b067 cJ1_charAt_3b067 2 (some .char) 2 43 [.ref (gsa G (200 + j)), .int i] h (some (sch j i, h)) := fun a ha => Ct.of (lv := [some (.ref (gsa G (200 + j))), some (.int i)]) (by decide) rfl (Nat.le_of_ble_eq_true rfl) rfl (fun p e s m args below meth c cx hr hlk =>
  (f_iload_n (pc := 0) cx dJ1_charAt_3b067_0 rfl rfl (f_aload_n (pc := 1) cx dJ1_charAt_3b067_1 rfl rfl (f_strL (pc := 2) cx hj dJ1_charAt_3b067_2 (f_cs (pc := 3) (st := []) cx [.int i, .int (slen j)] (s_chkIdx l G h i (slen j) (ib_lt hj hi).1 (ib_lt hj hi).2 h rfl) w_582 w_583 w_106 w_584 (by decide +kernel) (show _ = some 2 from by decide +kernel) ⟨by decide, by decide⟩ ⟨Nat.zero_le _, Nat.zero_le _⟩ (Nat.le_of_ble_eq_true rfl) dJ1_charAt_3b067_3 (f_aload_n (pc := 6) cx dJ1_charAt_3b067_6 rfl rfl (f_iload_n (pc := 7) cx dJ1_charAt_3b067_7 rfl rfl (f_strB (pc := 8) cx hj hi dJ1_charAt_3b067_8 (f_sipush (pc := 9) (v := 255) cx dJ1_charAt_3b067_9 (by decide) (f_iand (pc := 12) cx dJ1_charAt_3b067_12 (f_i2c (pc := 13) (v := sch j i) cx (sch_c j hj _ (Nat.not_le.mp fun q => hi (Or.inr q))).1 dJ1_charAt_3b067_13 (f_iret cx hr hlk (sch_c j hj _ (Nat.not_le.mp fun q => hi (Or.inr q))).2 dJ1_charAt_3b067_14)))))))))) : PF p l e (rmc 2 43) s m args below meth c 2 G 0 0 (QI below G args s) 0 [some (.ref (gsa G (200 + j))), some (.int i)] [] h (some (sch j i, h))) a ha)
theorem s_charAt (l : Launch) (G : GT) (h : Hp) (j : Nat) (i : Int32) (hj : j < 17) (hi : ib i (sle j)) : CtI l G yJ0_charAt_5068e cJ0_charAt_5068e 2 (some .char) 3 64 [.ref (gsa G (100 + j)), .int i] h (some (sch j i, h)) := fun a ha => Ct.of (lv := [some (.ref (gsa G (100 + j))), some (.int i)]) (by decide) rfl (Nat.le_of_ble_eq_true rfl) rfl (fun p e s m args below meth c cx hr hlk =>
  (f_aload_n (pc := 0) cx dJ0_charAt_5068e_0 rfl rfl (f_cvS (pc := 1) (st := []) cx [] (s_isLatin1 l G h j hj (1, h) rfl) hj w_575 w_576 w_577 w_106 w_578 (by decide +kernel) (by decide +kernel) ⟨by decide, by decide⟩ ⟨Nat.zero_le _, Nat.zero_le _⟩ (Nat.le_of_ble_eq_true rfl) dJ0_charAt_5068e_1 (f_if_eq_f (pc := 4) (tgt := 16) (x := 1) (st := []) cx dJ0_charAt_5068e_4 (by decide) (by decide) (f_aload_n (pc := 7) cx dJ0_charAt_5068e_7 rfl rfl (f_strV (pc := 8) cx hj dJ0_charAt_5068e_8 (f_iload_n (pc := 11) cx dJ0_charAt_5068e_11 rfl rfl (f_cs (pc := 12) (st := []) cx [.ref (gsa G (200 + j)), .int i] (s_l1char l G h j i hj hi (sch j i, h) rfl) w_579 w_580 w_107 w_581 (by decide +kernel) (show _ = some 2 from by decide +kernel) ⟨by decide, by decide⟩ ⟨Nat.zero_le _, Nat.zero_le _⟩ (Nat.le_of_ble_eq_true rfl) dJ0_charAt_5068e_12 (f_iret cx hr hlk (sch_c j hj _ (Nat.not_le.mp fun q => hi (Or.inr q))).2 dJ0_charAt_5068e_15)))))))  : PF p l e (rmc 3 64) s m args below meth c 2 G 0 0 (QI below G args s) 0 [some (.ref (gsa G (100 + j))), some (.int i)] [] h (some (sch j i, h))) a ha)
section Str2
variable {p : Program} {l : Launch} {e : Env} {R : Room} {s : State} {m : MethodId} {args : Array Value} {below : List Frame} {meth : Method} {c : Code} {cc : ByteArray} {nL : Nat} {own : String} {G : GT} {cells slots : Nat} {α : Type} {Qf : α → State → Prop} {pc : Nat} {lv : List (Option Value)} {st : List Value} {h : Hp} {o : Option α}
theorem f_slen (cx : CX p s m args c cc nL own G) {i j : Nat} (hj : j < 17) (w1 : Cond.methodLink own i yJ0_length_8abf5 ∈ lw_tbl) (hR : 2 ≤ R.frames ∧ 40 ≤ R.locals) (hcs : cells ≤ R.cells ∧ slots ≤ R.slots) (hW : (st.map fun v => v.category).sum ≤ 8) (hd : decode cc pc = .ok (.invokevirtual i, 3)) (k : PF p l e R s m args below meth c nL G cells slots Qf (pc + 3) lv (.int (slen j) :: st) h o) : PF p l e R s m args below meth c nL G cells slots Qf pc lv (.ref (gsa G (100 + j)) :: st) h o :=
  f_cvS cx [] (s_length l G h j hj (slen j, h) rfl) hj w1 w_562 w_563 w_106 w_564 (by decide +kernel) (by decide +kernel) hR hcs hW hd k
theorem f_schr (cx : CX p s m args c cc nL own G) {i j : Nat} {x : Int32} (hj : j < 17) (hi : ib x (sle j)) (w1 : Cond.methodLink own i yJ0_charAt_5068e ∈ lw_tbl) (hR : 4 ≤ R.frames ∧ 85 ≤ R.locals) (hcs : cells ≤ R.cells ∧ slots ≤ R.slots) (hW : (st.map fun v => v.category).sum ≤ 8) (hd : decode cc pc = .ok (.invokevirtual i, 3)) (k : PF p l e R s m args below meth c nL G cells slots Qf (pc + 3) lv (.int (sch j x) :: st) h o) : PF p l e R s m args below meth c nL G cells slots Qf pc lv (.int x :: .ref (gsa G (100 + j)) :: st) h o :=
  f_cvS cx [.int x] (s_charAt l G h j x hj hi (sch j x, h) rfl) hj w1 w_572 w_573 w_106 w_574 (by decide +kernel) (show _ = some 1 from by decide +kernel) hR hcs hW hd k
theorem k_X3_127 (cx : CX p s m args c cc nL RX3 G) {j : Nat} (hj : j < 17) (hR : 2 ≤ R.frames ∧ 40 ≤ R.locals) (hcs : cells ≤ R.cells ∧ slots ≤ R.slots) (hW : (st.map fun v => v.category).sum ≤ 8) (hd : decode cc pc = .ok (.invokevirtual 127, 3)) (k : PF p l e R s m args below meth c nL G cells slots Qf (pc + 3) lv (.int (slen j) :: st) h o) : PF p l e R s m args below meth c nL G cells slots Qf pc lv (.ref (gsa G (100 + j)) :: st) h o := f_slen cx hj w_561 hR hcs hW hd k
theorem k_X10_83 (cx : CX p s m args c cc nL RX10 G) {j : Nat} (hj : j < 17) (hR : 2 ≤ R.frames ∧ 40 ≤ R.locals) (hcs : cells ≤ R.cells ∧ slots ≤ R.slots) (hW : (st.map fun v => v.category).sum ≤ 8) (hd : decode cc pc = .ok (.invokevirtual 83, 3)) (k : PF p l e R s m args below meth c nL G cells slots Qf (pc + 3) lv (.int (slen j) :: st) h o) : PF p l e R s m args below meth c nL G cells slots Qf pc lv (.ref (gsa G (100 + j)) :: st) h o := f_slen cx hj w_1418 hR hcs hW hd k
theorem k_X3_132 (cx : CX p s m args c cc nL RX3 G) {j : Nat} {x : Int32} (hj : j < 17) (hi : ib x (sle j)) (hR : 4 ≤ R.frames ∧ 85 ≤ R.locals) (hcs : cells ≤ R.cells ∧ slots ≤ R.slots) (hW : (st.map fun v => v.category).sum ≤ 8) (hd : decode cc pc = .ok (.invokevirtual 132, 3)) (k : PF p l e R s m args below meth c nL G cells slots Qf (pc + 3) lv (.int (sch j x) :: st) h o) : PF p l e R s m args below meth c nL G cells slots Qf pc lv (.int x :: .ref (gsa G (100 + j)) :: st) h o := f_schr cx hj hi w_571 hR hcs hW hd k
theorem k_X10_88 (cx : CX p s m args c cc nL RX10 G) {j : Nat} {x : Int32} (hj : j < 17) (hi : ib x (sle j)) (hR : 4 ≤ R.frames ∧ 85 ≤ R.locals) (hcs : cells ≤ R.cells ∧ slots ≤ R.slots) (hW : (st.map fun v => v.category).sum ≤ 8) (hd : decode cc pc = .ok (.invokevirtual 88, 3)) (k : PF p l e R s m args below meth c nL G cells slots Qf (pc + 3) lv (.int (sch j x) :: st) h o) : PF p l e R s m args below meth c nL G cells slots Qf pc lv (.int x :: .ref (gsa G (100 + j)) :: st) h o := f_schr cx hj hi w_1419 hR hcs hW hd k
/-- an answer that is a text -/
abbrev QS (below : List Frame) (G : GT) (args : Array Value) (s : State) : Nat × Hp → State → Prop := fun a => MQ below (CtQ G (some (.ref (gsa G (100 + a.1)))) a.2 s.heap.size) args s 0 0 (AG G s.heap.size)
def CtS (l : Launch) (G : GT) (y : MethodName) (cc : ByteArray) (maxL : Nat) (ret : Option FieldType) (f n : Nat) (av : List Value) (h : Hp) (o : Option (Nat × Hp)) : Prop := ∀ a, o = some a → Ct l G y cc maxL ret f n av h (some (.ref (gsa G (100 + a.1)))) a.2
theorem f_aret (cx : CX p s m args c cc nL own G) {C : String} {j : Nat} (hr : meth.sig.returnType = some (.object C)) (hlk : meth.locks = false) (hd : decode cc pc = .ok (.areturn, 1)) : PF p l e R s m args below meth c nL G 0 0 (QS below G args s) pc lv [.ref (gsa G (100 + j))] h (some (j, h)) := by
  intro a ha H locs ls hl hI
  cases ha
  exact W.aret cx.1 cx.2.1 hr (Or.inl ⟨_, rfl⟩) (Or.inr ⟨_, rfl⟩) (fun t ht hW => ⟨rfl, by rw [ht]; exact hI.1, hI.2.1.weaken (fun _ _ _ _ => trivial), hI.2.2.F ht⟩) hI.2.2.2.2 hd hlk
end Str2
