theorem w_1297 : Cond.methodLink RX10 1 objectInit ∈ lw_tbl := wi 1297 (by decide +kernel)
section M10
variable {p : Program} {l : Launch} {e : Env} {R : Room} {s : State} {m : MethodId} {args : Array Value} {below : List Frame} {meth : Method} {c : Code} {cc : ByteArray} {nL : Nat} {own : String} {G : GT} {A : Nat → Prop} {cells slots : Nat} {Q : State → Prop} {pc : Nat} {lv : List (Option Value)} {st : List Value} {ws ws' : va_W}
theorem n_G {G' : GT} (h : G'.1 = G.1) (k : PC p l e R s m args below meth c nL G' A cells slots Q pc lv st ws) : PC p l e R s m args below meth c nL G A cells slots Q pc lv st ws := by
  intro H locs ls hl hP hD hS
  exact k H locs ls hl (by rw [h]; exact hP) hD hS
theorem n_m2 (cx : CC p s m args meth c cc nL RX10 G A) {y : MethodName} {bytes : ByteArray} {maxL f n i : Nat} {h h1 : Hp} (hM : M2.Ct l G y bytes maxL none f n [.ref (gad G 110)] h none h1) (hw : ws = M2.wd G h) (w1 : Cond.methodLink RX10 i y ∈ lw_tbl) (w2 : Cond.instanceMethod y ∈ lw_tbl) (w3 : Cond.selects RX10 y y ∈ lw_tbl) (w4 : Cond.initialized y.cls ∈ lw_tbl) (w5 : Cond.code y bytes maxL none ∈ lw_tbl) (hy : y.cls ≠ "java/lang/invoke/MethodHandle" ∧ y.cls ≠ "java/lang/invoke/VarHandle") (hn : (parseMethodDescriptor y.desc).map (fun d => d.parameters.length) = some 0) (hR : f + 1 ≤ R.frames ∧ 8 + (maxL + 11) + n ≤ R.locals) (hcs : cells ≤ R.cells ∧ slots ≤ R.slots) (hW : (st.map fun v => v.category).sum ≤ 8) (hd : decode cc pc = .ok (.invokevirtual i, 3)) (k : PC p l e R s m args below meth c nL G A cells slots Q (pc + 3) lv st (M2.wd G h1)) : PC p l e R s m args below meth c nL G A cells slots Q pc lv (.ref (gad G 110) :: st) ws := by
  subst hw
  intro H locs ls hl hP hD hS
  have g := cx.2.2.2.2.1
  have k110 : M2.kd 110 = 9 := by decide +kernel
  obtain ⟨q, hq⟩ := M2.ob_at k110 (by omega)
  have he : (M2.wd G h)[q]? = some (gad G 110, .inr (9, flds G h 110 9)) := by rw [M2.wd_at hq, M2.ce_o k110 (by omega)]
  have hAG : ∀ z, M2.AG G H.size z → A z := by
    rintro z (⟨o, ho, rfl⟩ | hz)
    · obtain ⟨k9, hk9⟩ := List.getElem?_of_mem ho
      exact hD.2 k9 _ (M2.wd_at (c := o.2) hk9)
    · exact cx.2.2.2.2.2.2.1 z (Nat.le_trans hS.1 hz)
  have hr : va_Run p l e R s m args below meth c H locs cells slots 0 0 (F0 m pc ls (.ref (gad G 110) :: st)) st (M2.CtQ G none h1 H.size [.ref (gad G 110)].toArray) (M2.AG G H.size) := by
    refine va_runV (Ts := []) (C := RX10) (As := []) (rest := st) (bytes := bytes) (maxL := maxL) (ret := none) ⟨cx.1, cx.2.1, cx.2.2.1, cx.2.2.2.1, fun w hw => by cases hw⟩ (hM H.size) ⟨⟨rfl, rfl, hR.1, hR.2, fun w hw a1 U hU => ?_, List.mem_cons_self, g.use w5 rfl _, g.use w4 rfl _, hy, fun sig hs => ?_, g.use w1 rfl _⟩, g.use w2 rfl _, g.use w3 rfl _⟩ ⟨M2.Pre.blind, va_recv cx.2.2.2.2.2.1 hP (q := (RX10, TX10, 23)) (ci := 9) rfl he, fun U hU hW => ⟨rfl, by rw [hU], g.warm hW, va_K.moved hW.alike cx.2.2.2.2.2.1, by rw [hU]; exact ((cx.2.2.2.2.2.2.2.1.kept hS.2.1).warm hW).narrow hAG, by rw [hU]; exact hP, hD.weaken (fun _ _ _ _ => trivial)⟩⟩ rfl rfl hl.1 rfl (lv_room hW) hd hcs
    · rw [List.mem_singleton.mp hw]
      exact okw_at rfl hU (g.use w5 rfl #[])
    · rw [hs] at hn
      exact (Option.some.inj hn).symm
  intro T hT X
  obtain ⟨v, st₀, t, T1, L, h0, X1, hL, e1, e2, ⟨hv, hP1, hD1, hz, hk⟩, stp⟩ := hr T hT X
  cases hv
  rw [h0] at hz hk
  have hD2 : va_D A (M2.wd G h1) := by
    have := M2.wd_D H.size hD1
    exact ⟨this.1, fun k q hq => hAG _ (this.2 k q hq)⟩
  obtain ⟨t2, a1, b1⟩ := k T1.heap (locs ++ L) ls hl (by rw [e1]; exact hP1) hD2 ⟨Nat.le_trans hS.1 (by rw [e1]; exact hz), fun q g1 g2 => by
      rw [e1, hk q (Nat.lt_of_lt_of_le g1 hS.1) (fun z => g2 (hAG _ z))]
      exact hS.2.1 q g1 g2, fun q hq => by
      rcases List.mem_append.mp hq with g | g
      · exact hS.2.2 q g
      · exact hAG _ (hL q g)⟩ T1 rfl X1
  exact ⟨t2, stp t2 a1, b1⟩
end M10
theorem dX10_init_0 : decode cX10_init 0 = .ok (.aload_n 0, 1) := by decide +kernel
theorem dX10_init_1 : decode cX10_init 1 = .ok (.invokespecial 1, 3) := by decide +kernel
theorem dX10_init_4 : decode cX10_init 4 = .ok (.aload_n 0, 1) := by decide +kernel
theorem dX10_init_5 : decode cX10_init 5 = .ok (.sipush 900, 3) := by decide +kernel
theorem dX10_init_8 : decode cX10_init 8 = .ok (.newarray .int, 2) := by decide +kernel
theorem dX10_init_10 : decode cX10_init 10 = .ok (.putfield 7, 3) := by decide +kernel
theorem dX10_init_13 : decode cX10_init 13 = .ok (.aload_n 0, 1) := by decide +kernel
theorem dX10_init_14 : decode cX10_init 14 = .ok (.bipush 8, 2) := by decide +kernel
theorem dX10_init_16 : decode cX10_init 16 = .ok (.newarray .int, 2) := by decide +kernel
theorem dX10_init_18 : decode cX10_init 18 = .ok (.putfield 13, 3) := by decide +kernel
theorem dX10_init_21 : decode cX10_init 21 = .ok (.aload_n 0, 1) := by decide +kernel
theorem dX10_init_22 : decode cX10_init 22 = .ok (.bipush 8, 2) := by decide +kernel
theorem dX10_init_24 : decode cX10_init 24 = .ok (.newarray .boolean, 2) := by decide +kernel
theorem dX10_init_26 : decode cX10_init 26 = .ok (.putfield 16, 3) := by decide +kernel
theorem dX10_init_29 : decode cX10_init 29 = .ok (.aload_n 0, 1) := by decide +kernel
theorem dX10_init_30 : decode cX10_init 30 = .ok (.bipush 20, 2) := by decide +kernel
theorem dX10_init_32 : decode cX10_init 32 = .ok (.newarray .int, 2) := by decide +kernel
theorem dX10_init_34 : decode cX10_init 34 = .ok (.putfield 20, 3) := by decide +kernel
theorem dX10_init_37 : decode cX10_init 37 = .ok (.aload_n 0, 1) := by decide +kernel
theorem dX10_init_38 : decode cX10_init 38 = .ok (.sipush 900, 3) := by decide +kernel
theorem dX10_init_41 : decode cX10_init 41 = .ok (.newarray .int, 2) := by decide +kernel
theorem dX10_init_43 : decode cX10_init 43 = .ok (.putfield 23, 3) := by decide +kernel
theorem dX10_init_46 : decode cX10_init 46 = .ok (.aload_n 0, 1) := by decide +kernel
theorem dX10_init_47 : decode cX10_init 47 = .ok (.iconst (-1), 1) := by decide +kernel
theorem dX10_init_48 : decode cX10_init 48 = .ok (.putfield 26, 3) := by decide +kernel
theorem dX10_init_51 : decode cX10_init 51 = .ok (.aload_n 0, 1) := by decide +kernel
theorem dX10_init_52 : decode cX10_init 52 = .ok (.sipush 3715, 3) := by decide +kernel
theorem dX10_init_55 : decode cX10_init 55 = .ok (.newarray .int, 2) := by decide +kernel
theorem dX10_init_57 : decode cX10_init 57 = .ok (.putfield 30, 3) := by decide +kernel
theorem dX10_init_60 : decode cX10_init 60 = .ok (.aload_n 0, 1) := by decide +kernel
theorem dX10_init_61 : decode cX10_init 61 = .ok (.sipush 3715, 3) := by decide +kernel
theorem dX10_init_64 : decode cX10_init 64 = .ok (.newarray .int, 2) := by decide +kernel
theorem dX10_init_66 : decode cX10_init 66 = .ok (.putfield 33, 3) := by decide +kernel
theorem dX10_init_69 : decode cX10_init 69 = .ok (.aload_n 0, 1) := by decide +kernel
theorem dX10_init_70 : decode cX10_init 70 = .ok (.bipush (-2), 2) := by decide +kernel
theorem dX10_init_72 : decode cX10_init 72 = .ok (.putfield 36, 3) := by decide +kernel
theorem dX10_init_75 : decode cX10_init 75 = .ok (.aload_n 0, 1) := by decide +kernel
theorem dX10_init_76 : decode cX10_init 76 = .ok (.invokevirtual 39, 3) := by decide +kernel
theorem dX10_init_79 : decode cX10_init 79 = .ok (.aload_n 0, 1) := by decide +kernel
theorem dX10_init_80 : decode cX10_init 80 = .ok (.invokevirtual 42, 3) := by decide +kernel
theorem dX10_init_83 : decode cX10_init 83 = .ok (.return_, 1) := by decide +kernel
def raw_X10 : va_E := .inr (9, [.int 0, .null, .int 0, .null, .null, .null, .int 0, .null, .int 0, .int 0, .int 0, .int 0, .int 0, .int 0, .int 0, .int 0, .int 0, .int 0, .int 0, .int 0, .null, .null, .int 0])
theorem df_X10 : ∀ j, j < 23 → defaultValue (tyX10 j) = vp_V [.int 0, .null, .int 0, .null, .null, .null, .int 0, .null, .int 0, .int 0, .int 0, .int 0, .int 0, .int 0, .int 0, .int 0, .int 0, .int 0, .int 0, .int 0, .null, .null, .int 0] j := by
  intro j hj
  have : j = 0 ∨ j = 1 ∨ j = 2 ∨ j = 3 ∨ j = 4 ∨ j = 5 ∨ j = 6 ∨ j = 7 ∨ j = 8 ∨ j = 9 ∨ j = 10 ∨ j = 11 ∨ j = 12 ∨ j = 13 ∨ j = 14 ∨ j = 15 ∨ j = 16 ∨ j = 17 ∨ j = 18 ∨ j = 19 ∨ j = 20 ∨ j = 21 ∨ j = 22 := by omega
  rcases this with rfl | rfl | rfl | rfl | rfl | rfl | rfl | rfl | rfl | rfl | rfl | rfl | rfl | rfl | rfl | rfl | rfl | rfl | rfl | rfl | rfl | rfl | rfl <;> rfl
def hM : Hp := fun o k => if o = 110 ∧ k = 19 then -1 else if o = 110 ∧ k = 22 then -2 else 0
theorem hM_z {o : Nat} (h : o ≠ 110) : hM o = fun _ => 0 := by
  funext k
  unfold hM
  rw [if_neg (fun z => h z.1), if_neg (fun z => h z.1)]
theorem wdM (G : GT) : M2.wd G hM = [(gad G 110, .inr (9, [.int (0), .ref (gad G (110 + 1)), .int (0), .ref (gad G (110 + 2)), .ref (gad G (110 + 3)), .ref (gad G (110 + 4)), .int (0), .ref (gad G (110 + 5)), .int (0), .int (0), .int (0), .int (0), .int (0), .int (0), .int (0), .int (0), .int (0), .int (0), .int (0), .int (-1), .ref (gad G (110 + 6)), .ref (gad G (110 + 7)), .int (-2)])), (gad G 111, .inl (gca G 0, 900, .inl (fun _ => 0))), (gad G 112, .inl (gca G 0, 8, .inl (fun _ => 0))), (gad G 113, .inl (gca G 1, 8, .inl (fun _ => 0))), (gad G 114, .inl (gca G 0, 20, .inl (fun _ => 0))), (gad G 115, .inl (gca G 0, 900, .inl (fun _ => 0))), (gad G 116, .inl (gca G 0, 3715, .inl (fun _ => 0))), (gad G 117, .inl (gca G 0, 3715, .inl (fun _ => 0)))] := by
  have e110 : M2.ce G hM 110 = .inr (9, [.int (0), .ref (gad G (110 + 1)), .int (0), .ref (gad G (110 + 2)), .ref (gad G (110 + 3)), .ref (gad G (110 + 4)), .int (0), .ref (gad G (110 + 5)), .int (0), .int (0), .int (0), .int (0), .int (0), .int (0), .int (0), .int (0), .int (0), .int (0), .int (0), .int (-1), .ref (gad G (110 + 6)), .ref (gad G (110 + 7)), .int (-2)]) := by
    rw [M2.ce_o (c := 9) (by decide +kernel) (by decide)]
    rfl
  have e111 : M2.ce G hM 111 = .inl (gca G 0, 900, .inl (fun _ => 0)) := by rw [M2.ce_i (n := 900) (by decide +kernel) (by decide), hM_z (by decide)]
  have e112 : M2.ce G hM 112 = .inl (gca G 0, 8, .inl (fun _ => 0)) := by rw [M2.ce_i (n := 8) (by decide +kernel) (by decide), hM_z (by decide)]
  have e113 : M2.ce G hM 113 = .inl (gca G 1, 8, .inl (fun _ => 0)) := by rw [M2.ce_z (n := 8) (by decide +kernel), hM_z (by decide)]
  have e114 : M2.ce G hM 114 = .inl (gca G 0, 20, .inl (fun _ => 0)) := by rw [M2.ce_i (n := 20) (by decide +kernel) (by decide), hM_z (by decide)]
  have e115 : M2.ce G hM 115 = .inl (gca G 0, 900, .inl (fun _ => 0)) := by rw [M2.ce_i (n := 900) (by decide +kernel) (by decide), hM_z (by decide)]
  have e116 : M2.ce G hM 116 = .inl (gca G 0, 3715, .inl (fun _ => 0)) := by rw [M2.ce_i (n := 3715) (by decide +kernel) (by decide), hM_z (by decide)]
  have e117 : M2.ce G hM 117 = .inl (gca G 0, 3715, .inl (fun _ => 0)) := by rw [M2.ce_i (n := 3715) (by decide +kernel) (by decide), hM_z (by decide)]
  show [(gad G 110, M2.ce G hM 110), (gad G 111, M2.ce G hM 111), (gad G 112, M2.ce G hM 112), (gad G 113, M2.ce G hM 113), (gad G 114, M2.ce G hM 114), (gad G 115, M2.ce G hM 115), (gad G 116, M2.ce G hM 116), (gad G 117, M2.ce G hM 117)] = _
  rw [e110, e111, e112, e113, e114, e115, e116, e117]
def wN_X10 (G : GT) (a : Nat) (h2 : Hp) (f : Nat → Nat) : va_W := M2.wd (G.1, (fun o => if o = 110 then a else f (o - 111)), G.2.2) h2
set_option maxRecDepth 8000 in
set_option maxHeartbeats 4000000 in
theorem c_X10_init (l : Launch) (G : GT) (a : Nat) (h1 h2 : Hp) (hF : p_X10_freshText hM 110 = some h1) (hB : p_X10_begins h1 110 = some h2) : CtN l G yX10_init cX10_init 1 2 7 9266 45 a [(a, raw_X10)] (wN_X10 G a h2) := by
  refine CtN.of (lv := [some (.ref a)]) (by decide) rfl (Nat.le_of_ble_eq_true rfl) rfl (fun p e s m args below meth c cx hr hlk => ?_)
  unfold raw_X10
  refine n_aload (pc := 0) cx dX10_init_0 rfl ?_
  refine n_obj (pc := 1) cx w_1297 dX10_init_1 ⟨Nat.le_of_ble_eq_true rfl, Nat.le_of_ble_eq_true rfl⟩ (Nat.le_of_ble_eq_true rfl) ?_
  refine n_aload (pc := 4) cx dX10_init_4 rfl ?_
  refine n_sipush (pc := 5) cx dX10_init_5 kc_sipush_900 ?_
  refine n_newi (pc := 8) (N := 900) cx (by decide) (by decide) (Nat.le_of_ble_eq_true rfl) ⟨Nat.le_of_ble_eq_true rfl, Nat.le_of_ble_eq_true rfl⟩ dX10_init_8 (fun q1 => ?_)
  refine n_lit (ws := [(a, .inr (9, [.int 0, .null, .int 0, .null, .null, .null, .int 0, .null, .int 0, .int 0, .int 0, .int 0, .int 0, .int 0, .int 0, .int 0, .int 0, .int 0, .int 0, .int 0, .null, .null, .int 0])), (q1, .inl (gca G 0, 900, .inl (fun _ => 0)))]) rfl ?_
  refine n_putF (pc := 10) (q := 0) (k := 1) (ty0 := tyX10) (ws' := [(a, .inr (9, [.int 0, .ref q1, .int 0, .null, .null, .null, .int 0, .null, .int 0, .int 0, .int 0, .int 0, .int 0, .int 0, .int 0, .int 0, .int 0, .int 0, .int 0, .int 0, .null, .null, .int 0])), (q1, .inl (gca G 0, 900, .inl (fun _ => 0)))]) cx (by decide) rfl rfl rfl inX10 tyX10_ok nmX10 (by decide) (Nat.le_of_ble_eq_true rfl) w_1316 rfl rfl rfl (tyX10_ok 1 (by decide)) rfl rfl dX10_init_10 ?_
  refine n_aload (pc := 13) cx dX10_init_13 rfl ?_
  refine n_bipush (pc := 14) cx dX10_init_14 kc_bipush_8 ?_
  refine n_newi (pc := 16) (N := 8) cx (by decide) (by decide) (Nat.le_of_ble_eq_true rfl) ⟨Nat.le_of_ble_eq_true rfl, Nat.le_of_ble_eq_true rfl⟩ dX10_init_16 (fun q2 => ?_)
  refine n_lit (ws := [(a, .inr (9, [.int 0, .ref q1, .int 0, .null, .null, .null, .int 0, .null, .int 0, .int 0, .int 0, .int 0, .int 0, .int 0, .int 0, .int 0, .int 0, .int 0, .int 0, .int 0, .null, .null, .int 0])), (q1, .inl (gca G 0, 900, .inl (fun _ => 0))), (q2, .inl (gca G 0, 8, .inl (fun _ => 0)))]) rfl ?_
  refine n_putF (pc := 18) (q := 0) (k := 3) (ty0 := tyX10) (ws' := [(a, .inr (9, [.int 0, .ref q1, .int 0, .ref q2, .null, .null, .int 0, .null, .int 0, .int 0, .int 0, .int 0, .int 0, .int 0, .int 0, .int 0, .int 0, .int 0, .int 0, .int 0, .null, .null, .int 0])), (q1, .inl (gca G 0, 900, .inl (fun _ => 0))), (q2, .inl (gca G 0, 8, .inl (fun _ => 0)))]) cx (by decide) rfl rfl rfl inX10 tyX10_ok nmX10 (by decide) (Nat.le_of_ble_eq_true rfl) w_1318 rfl rfl rfl (tyX10_ok 3 (by decide)) rfl rfl dX10_init_18 ?_
  refine n_aload (pc := 21) cx dX10_init_21 rfl ?_
  refine n_bipush (pc := 22) cx dX10_init_22 kc_bipush_8 ?_
  refine n_newz (pc := 24) (N := 8) cx (by decide) (by decide) (Nat.le_of_ble_eq_true rfl) ⟨Nat.le_of_ble_eq_true rfl, Nat.le_of_ble_eq_true rfl⟩ dX10_init_24 (fun q3 => ?_)
  refine n_lit (ws := [(a, .inr (9, [.int 0, .ref q1, .int 0, .ref q2, .null, .null, .int 0, .null, .int 0, .int 0, .int 0, .int 0, .int 0, .int 0, .int 0, .int 0, .int 0, .int 0, .int 0, .int 0, .null, .null, .int 0])), (q1, .inl (gca G 0, 900, .inl (fun _ => 0))), (q2, .inl (gca G 0, 8, .inl (fun _ => 0))), (q3, .inl (gca G 1, 8, .inl (fun _ => 0)))]) rfl ?_
  refine n_putF (pc := 26) (q := 0) (k := 4) (ty0 := tyX10) (ws' := [(a, .inr (9, [.int 0, .ref q1, .int 0, .ref q2, .ref q3, .null, .int 0, .null, .int 0, .int 0, .int 0, .int 0, .int 0, .int 0, .int 0, .int 0, .int 0, .int 0, .int 0, .int 0, .null, .null, .int 0])), (q1, .inl (gca G 0, 900, .inl (fun _ => 0))), (q2, .inl (gca G 0, 8, .inl (fun _ => 0))), (q3, .inl (gca G 1, 8, .inl (fun _ => 0)))]) cx (by decide) rfl rfl rfl inX10 tyX10_ok nmX10 (by decide) (Nat.le_of_ble_eq_true rfl) w_1319 rfl rfl rfl (tyX10_ok 4 (by decide)) rfl rfl dX10_init_26 ?_
  refine n_aload (pc := 29) cx dX10_init_29 rfl ?_
  refine n_bipush (pc := 30) cx dX10_init_30 kc_bipush_20 ?_
  refine n_newi (pc := 32) (N := 20) cx (by decide) (by decide) (Nat.le_of_ble_eq_true rfl) ⟨Nat.le_of_ble_eq_true rfl, Nat.le_of_ble_eq_true rfl⟩ dX10_init_32 (fun q4 => ?_)
  refine n_lit (ws := [(a, .inr (9, [.int 0, .ref q1, .int 0, .ref q2, .ref q3, .null, .int 0, .null, .int 0, .int 0, .int 0, .int 0, .int 0, .int 0, .int 0, .int 0, .int 0, .int 0, .int 0, .int 0, .null, .null, .int 0])), (q1, .inl (gca G 0, 900, .inl (fun _ => 0))), (q2, .inl (gca G 0, 8, .inl (fun _ => 0))), (q3, .inl (gca G 1, 8, .inl (fun _ => 0))), (q4, .inl (gca G 0, 20, .inl (fun _ => 0)))]) rfl ?_
  refine n_putF (pc := 34) (q := 0) (k := 5) (ty0 := tyX10) (ws' := [(a, .inr (9, [.int 0, .ref q1, .int 0, .ref q2, .ref q3, .ref q4, .int 0, .null, .int 0, .int 0, .int 0, .int 0, .int 0, .int 0, .int 0, .int 0, .int 0, .int 0, .int 0, .int 0, .null, .null, .int 0])), (q1, .inl (gca G 0, 900, .inl (fun _ => 0))), (q2, .inl (gca G 0, 8, .inl (fun _ => 0))), (q3, .inl (gca G 1, 8, .inl (fun _ => 0))), (q4, .inl (gca G 0, 20, .inl (fun _ => 0)))]) cx (by decide) rfl rfl rfl inX10 tyX10_ok nmX10 (by decide) (Nat.le_of_ble_eq_true rfl) w_1320 rfl rfl rfl (tyX10_ok 5 (by decide)) rfl rfl dX10_init_34 ?_
  refine n_aload (pc := 37) cx dX10_init_37 rfl ?_
  refine n_sipush (pc := 38) cx dX10_init_38 kc_sipush_900 ?_
  refine n_newi (pc := 41) (N := 900) cx (by decide) (by decide) (Nat.le_of_ble_eq_true rfl) ⟨Nat.le_of_ble_eq_true rfl, Nat.le_of_ble_eq_true rfl⟩ dX10_init_41 (fun q5 => ?_)
  refine n_lit (ws := [(a, .inr (9, [.int 0, .ref q1, .int 0, .ref q2, .ref q3, .ref q4, .int 0, .null, .int 0, .int 0, .int 0, .int 0, .int 0, .int 0, .int 0, .int 0, .int 0, .int 0, .int 0, .int 0, .null, .null, .int 0])), (q1, .inl (gca G 0, 900, .inl (fun _ => 0))), (q2, .inl (gca G 0, 8, .inl (fun _ => 0))), (q3, .inl (gca G 1, 8, .inl (fun _ => 0))), (q4, .inl (gca G 0, 20, .inl (fun _ => 0))), (q5, .inl (gca G 0, 900, .inl (fun _ => 0)))]) rfl ?_
  refine n_putF (pc := 43) (q := 0) (k := 7) (ty0 := tyX10) (ws' := [(a, .inr (9, [.int 0, .ref q1, .int 0, .ref q2, .ref q3, .ref q4, .int 0, .ref q5, .int 0, .int 0, .int 0, .int 0, .int 0, .int 0, .int 0, .int 0, .int 0, .int 0, .int 0, .int 0, .null, .null, .int 0])), (q1, .inl (gca G 0, 900, .inl (fun _ => 0))), (q2, .inl (gca G 0, 8, .inl (fun _ => 0))), (q3, .inl (gca G 1, 8, .inl (fun _ => 0))), (q4, .inl (gca G 0, 20, .inl (fun _ => 0))), (q5, .inl (gca G 0, 900, .inl (fun _ => 0)))]) cx (by decide) rfl rfl rfl inX10 tyX10_ok nmX10 (by decide) (Nat.le_of_ble_eq_true rfl) w_1322 rfl rfl rfl (tyX10_ok 7 (by decide)) rfl rfl dX10_init_43 ?_
  refine n_aload (pc := 46) cx dX10_init_46 rfl ?_
  refine n_iconst (pc := 47) cx dX10_init_47 kc_iconst_m1 ?_
  refine n_put (pc := 48) (q := 0) (k := 19) (ty0 := tyX10) (ws' := [(a, .inr (9, [.int 0, .ref q1, .int 0, .ref q2, .ref q3, .ref q4, .int 0, .ref q5, .int 0, .int 0, .int 0, .int 0, .int 0, .int 0, .int 0, .int 0, .int 0, .int 0, .int 0, .int (-1), .null, .null, .int 0])), (q1, .inl (gca G 0, 900, .inl (fun _ => 0))), (q2, .inl (gca G 0, 8, .inl (fun _ => 0))), (q3, .inl (gca G 1, 8, .inl (fun _ => 0))), (q4, .inl (gca G 0, 20, .inl (fun _ => 0))), (q5, .inl (gca G 0, 900, .inl (fun _ => 0)))]) cx rfl rfl rfl inX10 tyX10_ok nmX10 (by decide) (Nat.le_of_ble_eq_true rfl) w_1334 rfl rfl (tyX10_ok 19 (by decide)) rfl rfl dX10_init_48 ?_
  refine n_aload (pc := 51) cx dX10_init_51 rfl ?_
  refine n_sipush (pc := 52) cx dX10_init_52 kc_sipush_3715 ?_
  refine n_newi (pc := 55) (N := 3715) cx (by decide) (by decide) (Nat.le_of_ble_eq_true rfl) ⟨Nat.le_of_ble_eq_true rfl, Nat.le_of_ble_eq_true rfl⟩ dX10_init_55 (fun q6 => ?_)
  refine n_lit (ws := [(a, .inr (9, [.int 0, .ref q1, .int 0, .ref q2, .ref q3, .ref q4, .int 0, .ref q5, .int 0, .int 0, .int 0, .int 0, .int 0, .int 0, .int 0, .int 0, .int 0, .int 0, .int 0, .int (-1), .null, .null, .int 0])), (q1, .inl (gca G 0, 900, .inl (fun _ => 0))), (q2, .inl (gca G 0, 8, .inl (fun _ => 0))), (q3, .inl (gca G 1, 8, .inl (fun _ => 0))), (q4, .inl (gca G 0, 20, .inl (fun _ => 0))), (q5, .inl (gca G 0, 900, .inl (fun _ => 0))), (q6, .inl (gca G 0, 3715, .inl (fun _ => 0)))]) rfl ?_
  refine n_putF (pc := 57) (q := 0) (k := 20) (ty0 := tyX10) (ws' := [(a, .inr (9, [.int 0, .ref q1, .int 0, .ref q2, .ref q3, .ref q4, .int 0, .ref q5, .int 0, .int 0, .int 0, .int 0, .int 0, .int 0, .int 0, .int 0, .int 0, .int 0, .int 0, .int (-1), .ref q6, .null, .int 0])), (q1, .inl (gca G 0, 900, .inl (fun _ => 0))), (q2, .inl (gca G 0, 8, .inl (fun _ => 0))), (q3, .inl (gca G 1, 8, .inl (fun _ => 0))), (q4, .inl (gca G 0, 20, .inl (fun _ => 0))), (q5, .inl (gca G 0, 900, .inl (fun _ => 0))), (q6, .inl (gca G 0, 3715, .inl (fun _ => 0)))]) cx (by decide) rfl rfl rfl inX10 tyX10_ok nmX10 (by decide) (Nat.le_of_ble_eq_true rfl) w_1335 rfl rfl rfl (tyX10_ok 20 (by decide)) rfl rfl dX10_init_57 ?_
  refine n_aload (pc := 60) cx dX10_init_60 rfl ?_
  refine n_sipush (pc := 61) cx dX10_init_61 kc_sipush_3715 ?_
  refine n_newi (pc := 64) (N := 3715) cx (by decide) (by decide) (Nat.le_of_ble_eq_true rfl) ⟨Nat.le_of_ble_eq_true rfl, Nat.le_of_ble_eq_true rfl⟩ dX10_init_64 (fun q7 => ?_)
  refine n_lit (ws := [(a, .inr (9, [.int 0, .ref q1, .int 0, .ref q2, .ref q3, .ref q4, .int 0, .ref q5, .int 0, .int 0, .int 0, .int 0, .int 0, .int 0, .int 0, .int 0, .int 0, .int 0, .int 0, .int (-1), .ref q6, .null, .int 0])), (q1, .inl (gca G 0, 900, .inl (fun _ => 0))), (q2, .inl (gca G 0, 8, .inl (fun _ => 0))), (q3, .inl (gca G 1, 8, .inl (fun _ => 0))), (q4, .inl (gca G 0, 20, .inl (fun _ => 0))), (q5, .inl (gca G 0, 900, .inl (fun _ => 0))), (q6, .inl (gca G 0, 3715, .inl (fun _ => 0))), (q7, .inl (gca G 0, 3715, .inl (fun _ => 0)))]) rfl ?_
  refine n_putF (pc := 66) (q := 0) (k := 21) (ty0 := tyX10) (ws' := [(a, .inr (9, [.int 0, .ref q1, .int 0, .ref q2, .ref q3, .ref q4, .int 0, .ref q5, .int 0, .int 0, .int 0, .int 0, .int 0, .int 0, .int 0, .int 0, .int 0, .int 0, .int 0, .int (-1), .ref q6, .ref q7, .int 0])), (q1, .inl (gca G 0, 900, .inl (fun _ => 0))), (q2, .inl (gca G 0, 8, .inl (fun _ => 0))), (q3, .inl (gca G 1, 8, .inl (fun _ => 0))), (q4, .inl (gca G 0, 20, .inl (fun _ => 0))), (q5, .inl (gca G 0, 900, .inl (fun _ => 0))), (q6, .inl (gca G 0, 3715, .inl (fun _ => 0))), (q7, .inl (gca G 0, 3715, .inl (fun _ => 0)))]) cx (by decide) rfl rfl rfl inX10 tyX10_ok nmX10 (by decide) (Nat.le_of_ble_eq_true rfl) w_1336 rfl rfl rfl (tyX10_ok 21 (by decide)) rfl rfl dX10_init_66 ?_
  refine n_aload (pc := 69) cx dX10_init_69 rfl ?_
  refine n_bipush (pc := 70) cx dX10_init_70 kc_bipush_m2 ?_
  refine n_put (pc := 72) (q := 0) (k := 22) (ty0 := tyX10) (ws' := [(a, .inr (9, [.int 0, .ref q1, .int 0, .ref q2, .ref q3, .ref q4, .int 0, .ref q5, .int 0, .int 0, .int 0, .int 0, .int 0, .int 0, .int 0, .int 0, .int 0, .int 0, .int 0, .int (-1), .ref q6, .ref q7, .int (-2)])), (q1, .inl (gca G 0, 900, .inl (fun _ => 0))), (q2, .inl (gca G 0, 8, .inl (fun _ => 0))), (q3, .inl (gca G 1, 8, .inl (fun _ => 0))), (q4, .inl (gca G 0, 20, .inl (fun _ => 0))), (q5, .inl (gca G 0, 900, .inl (fun _ => 0))), (q6, .inl (gca G 0, 3715, .inl (fun _ => 0))), (q7, .inl (gca G 0, 3715, .inl (fun _ => 0)))]) cx rfl rfl rfl inX10 tyX10_ok nmX10 (by decide) (Nat.le_of_ble_eq_true rfl) w_1337 rfl rfl (tyX10_ok 22 (by decide)) rfl rfl dX10_init_72 ?_
  refine n_G (G' := (G.1, (fun o => if o = 110 then a else [q1, q2, q3, q4, q5, q6, q7].getD (o - 111) 0), G.2.2)) rfl ?_
  have cx' : CC p s m args meth c cX10_init 1 RX10 (G.1, (fun o => if o = 110 then a else [q1, q2, q3, q4, q5, q6, q7].getD (o - 111) 0), G.2.2) (va_A [(a, raw_X10)] s.heap.size) := cx
  refine n_aload (pc := 75) cx' dX10_init_75 rfl ?_
  refine n_m2 (pc := 76) (h := hM) (h1 := h1) cx' (M2.c_X10_freshText l _ hM 110 (by decide +kernel) h1 hF) ?_ w_1298 w_1300 w_31 w_104 w_1301 (by decide +kernel) (by decide +kernel) ⟨Nat.le_of_ble_eq_true rfl, Nat.le_of_ble_eq_true rfl⟩ ⟨Nat.le_of_ble_eq_true rfl, Nat.le_of_ble_eq_true rfl⟩ (Nat.le_of_ble_eq_true rfl) dX10_init_76 ?_
  · rw [wdM]
    rfl
  refine n_aload (pc := 79) cx' dX10_init_79 rfl ?_
  refine n_m2 (pc := 80) (h := h1) (h1 := h2) cx' (M2.c_X10_begins l _ h1 110 (by decide +kernel) h2 hB) rfl w_1302 w_1304 w_32 w_104 w_1305 (by decide +kernel) (by decide +kernel) ⟨Nat.le_of_ble_eq_true rfl, Nat.le_of_ble_eq_true rfl⟩ ⟨Nat.le_of_ble_eq_true rfl, Nat.le_of_ble_eq_true rfl⟩ (Nat.le_of_ble_eq_true rfl) dX10_init_80 ?_
  refine n_G (G' := G) rfl ?_
  exact n_ret cx hr hlk (fun i => [q1, q2, q3, q4, q5, q6, q7].getD i 0) rfl (Nat.le_of_ble_eq_true rfl) (Nat.le_of_ble_eq_true rfl) dX10_init_83
