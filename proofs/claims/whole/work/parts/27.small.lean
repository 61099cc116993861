def M2.obk : List (Nat × Nat) := [(110, 9), (111, 10900), (112, 10008), (113, 20008), (114, 10020), (115, 10900), (116, 13715), (117, 13715)]
def M2.kd (o : Nat) : Nat := kdl obk o
theorem M2.kd_mem {o c : Nat} (h : kd o = c) (hc : c ≠ 99999) : (o, c) ∈ obk := kdl_mem obk h hc
theorem M2.kd_st {c d n : Nat} (hc : c ≠ 99999) (h : ∀ q ∈ obk, q.2 = c → kd (q.1 + n) = d) {o : Nat} (hk : kd o = c) : kd (o + n) = d := h _ (kd_mem hk hc) rfl
def M2.ce (G : GT) (h : Hp) (o : Nat) : va_E :=
  if 20000 ≤ kd o then .inl (gca G 1, kd o - 20000, .inl (h o))
  else if 10000 ≤ kd o then .inl (gca G 0, kd o - 10000, .inl (h o))
  else if kd o = 20 then .inl (gca G 2, 16, .inr (.inr (.inr (.inr (fun i => some (gad G (o + 1 + i)))))))
  else if kd o = 21 then .inl (gca G 3, 4, .inr (.inr (.inr (.inr (fun i => some (gad G (o + 1 + i)))))))
  else if kd o = 22 then .inl (gca G 4, 1, .inr (.inl (fun i => (h o i).toInt64)))
  else .inr (kd o, flds G h o (kd o))
theorem M2.ce_congr {G : GT} {h h' : Hp} {o : Nat} (e : h' o = h o) : ce G h' o = ce G h o := by
  unfold ce
  rw [flds_congr e, e]
theorem M2.ce_o {G : GT} {h : Hp} {o c : Nat} (hk : kd o = c) (hc : c < 20) : ce G h o = .inr (c, flds G h o c) := by
  unfold ce
  rw [hk, if_neg (by omega), if_neg (by omega), if_neg (by omega), if_neg (by omega), if_neg (by omega)]
theorem M2.ce_i {G : GT} {h : Hp} {o n : Nat} (hk : kd o = 10000 + n) (hn : n < 10000) : ce G h o = .inl (gca G 0, n, .inl (h o)) := by
  unfold ce
  rw [hk, if_neg (by omega), if_pos (by omega), show 10000 + n - 10000 = n by omega]
theorem M2.ce_z {G : GT} {h : Hp} {o n : Nat} (hk : kd o = 20000 + n) : ce G h o = .inl (gca G 1, n, .inl (h o)) := by
  unfold ce
  rw [hk, if_pos (by omega), show 20000 + n - 20000 = n by omega]
theorem M2.ce_b {G : GT} {h : Hp} {o : Nat} (hk : kd o = 20) : ce G h o = .inl (gca G 2, 16, .inr (.inr (.inr (.inr (fun i => some (gad G (o + 1 + i))))))) := by
  unfold ce
  rw [hk]
  simp
theorem M2.ce_s {G : GT} {h : Hp} {o : Nat} (hk : kd o = 21) : ce G h o = .inl (gca G 3, 4, .inr (.inr (.inr (.inr (fun i => some (gad G (o + 1 + i))))))) := by
  unfold ce
  rw [hk]
  simp
theorem M2.ce_l {G : GT} {h : Hp} {o : Nat} (hk : kd o = 22) : ce G h o = .inl (gca G 4, 1, .inr (.inl (fun i => (h o i).toInt64))) := by
  unfold ce
  rw [hk]
  simp
def M2.wd (G : GT) (h : Hp) : va_W := obk.map (fun q => (gad G q.1, ce G h q.1))
theorem M2.ob_nd : va_nd (obk.map Prod.fst) = true := by decide +kernel
theorem M2.ob_inj {i j o c d : Nat} (hi : obk[i]? = some (o, c)) (hj : obk[j]? = some (o, d)) : i = j :=
  va_nd_inj (obk.map Prod.fst) ob_nd i j o (by rw [List.getElem?_map, hi]; rfl) (by rw [List.getElem?_map, hj]; rfl)
theorem M2.ob_at {o c : Nat} (h : kd o = c) (hc : c ≠ 99999) : ∃ k : Nat, obk[k]? = some (o, c) := List.getElem?_of_mem (kd_mem h hc)
theorem M2.wd_at {G : GT} {h : Hp} {k o c : Nat} (hk : obk[k]? = some (o, c)) : (wd G h)[k]? = some (gad G o, ce G h o) := by
  unfold wd
  rw [List.getElem?_map, hk]
  rfl
theorem M2.wd_set {G : GT} {h h' : Hp} {k o c : Nat} {e : va_E} (hk : obk[k]? = some (o, c)) (he : ce G h' o = e) (ho : ∀ o', o' ≠ o → h' o' = h o') : (wd G h).set k (gad G o, e) = wd G h' := by
  apply List.ext_getElem?
  intro i
  by_cases hi : i = k
  · subst hi
    rw [wd_at hk, he, List.getElem?_set_self]
    have := (List.getElem?_eq_some_iff.mp (wd_at (G := G) (h := h) hk)).1
    exact this
  · rw [List.getElem?_set_ne (Ne.symm hi)]
    unfold wd
    rw [List.getElem?_map, List.getElem?_map]
    cases hq : obk[i]? with
    | none => rfl
    | some q =>
      obtain ⟨o', d⟩ := q
      have hne : o' ≠ o := fun e1 => hi (ob_inj (o := o) (by rw [← e1]; exact hq) hk)
      simp only [Option.map_some]
      rw [ce_congr (ho o' hne)]
def M2.AG (G : GT) (sz : Nat) : Nat → Prop := fun q => (∃ o ∈ obk, gad G o.1 = q) ∨ sz ≤ q
theorem M2.AG.le {G : GT} {a b q : Nat} (h : a ≤ b) (hq : AG G b q) : AG G a q := hq.elim Or.inl (fun z => Or.inr (Nat.le_trans h z))
theorem M2.wd_D {G : GT} {h : Hp} {A : Nat → Prop} (sz : Nat) (hD : va_D A (wd G h)) : va_D (AG G sz) (wd G h) := by
  refine ⟨hD.1, fun k q hk => Or.inl ?_⟩
  unfold wd at hk
  rw [List.getElem?_map] at hk
  cases hq : obk[k]? with
  | none => rw [hq] at hk; cases hk
  | some o =>
    rw [hq] at hk
    cases hk
    exact ⟨o, List.mem_of_getElem? hq, rfl⟩
def M2.CX (p : Program) (s : State) (m : MethodId) (args : Array Value) (c : Code) (cc : ByteArray) (nL : Nat) (own : String) (G : GT) : Prop :=
  p.tables.exec = Jvm.exec ∧ c.code = cc ∧ c.maxLocals = nL ∧ s.vm.findClass own = some m.cls ∧ GE s ∧ va_K G.1 vwCl (tysG G) s ∧ ST G (AG G s.heap.size) s s.heap
def M2.IV (G : GT) (s : State) (h : Hp) (H : Heap) (locs : List Loc) : Prop := va_P G.1 vwCl (wd G h) H ∧ va_D (AG G s.heap.size) (wd G h) ∧ va_S (AG G s.heap.size) s.heap H locs
def M2.PF (p : Program) (l : Launch) (e : Env) (R : Room) (s : State) (m : MethodId) (args : Array Value) (below : List Frame) (meth : Method) (c : Code) (nL : Nat) (G : GT) (cells slots : Nat) {α : Type} (Qf : α → State → Prop) (pc : Nat) (lv : List (Option Value)) (st : List Value) (h : Hp) (o : Option α) : Prop :=
  ∀ a, o = some a → ∀ (H : Heap) (locs : List Loc) (ls : Array Slot), LV ls nL lv → IV G s h H locs → W p l e R s m args below meth c H locs cells slots (Qf a) (F0 m pc ls st)
def M2.Pre (G : GT) (h : Hp) (sz : Nat) (U : State) : Prop := U.heap.size = sz ∧ GE U ∧ va_K G.1 vwCl (tysG G) U ∧ ST G (AG G sz) U U.heap ∧ va_P G.1 vwCl (wd G h) U.heap ∧ va_D (fun _ => True) (wd G h)
def M2.CtQ (G : GT) (r : Option Value) (h' : Hp) (sz : Nat) : Array Value → State → Outcome → State → Prop := fun _ st oc t => oc = .returned r ∧ va_P G.1 vwCl (wd G h') t.heap ∧ va_D (fun _ => True) (wd G h') ∧ va_F (AG G sz) st t
def M2.Ct (l : Launch) (G : GT) (y : MethodName) (cc : ByteArray) (maxL : Nat) (ret : Option FieldType) (f n : Nat) (av : List Value) (h : Hp) (r : Option Value) (h' : Hp) : Prop :=
  ∀ sz, Met l y [.code y cc maxL ret] (rmc f n) (va_Pc av (Pre G h sz)) (CtQ G r h' sz) 0 0 (AG G sz)
def M2.CtI (l : Launch) (G : GT) (y : MethodName) (cc : ByteArray) (maxL : Nat) (ret : Option FieldType) (f n : Nat) (av : List Value) (h : Hp) (o : Option (Int32 × Hp)) : Prop := ∀ a, o = some a → Ct l G y cc maxL ret f n av h (some (.int a.1)) a.2
def M2.CtV (l : Launch) (G : GT) (y : MethodName) (cc : ByteArray) (maxL : Nat) (ret : Option FieldType) (f n : Nat) (av : List Value) (h : Hp) (o : Option Hp) : Prop := ∀ a, o = some a → Ct l G y cc maxL ret f n av h none a
theorem M2.Pre.blind {G : GT} {h : Hp} {sz : Nat} {av : List Value} : FrameBlind (va_Pc av (Pre G h sz)) := by
  intro a U g mk q
  obtain ⟨q0, q1, q2, q3, q4, q5, q6⟩ := q
  exact ⟨q0, q1, GE.warm (U := U.calling g mk a) (State.WarmedH.refl U) q2, va_K.moved (u := U) (U := U.calling g mk a) (Vm.Alike.refl U.vm) q3, ST.warm (U := U.calling g mk a) (State.WarmedH.refl U) q4, q5, q6⟩
theorem M2.Pre.of {p : Program} {s : State} {m : MethodId} {args : Array Value} {c : Code} {cc : ByteArray} {nL : Nat} {own : String} {G : GT} {h : Hp} {H : Heap} {locs : List Loc} (cx : CX p s m args c cc nL own G) (hI : IV G s h H locs) {U : State} (hU : U.heap = H) (hW : s.WarmedH U.vm) : Pre G h H.size U := by
  obtain ⟨-, -, -, -, hg, hk, hst⟩ := cx
  refine ⟨by rw [hU], hg.warm hW, va_K.moved hW.alike hk, ?_, by rw [hU]; exact hI.1, hI.2.1.weaken (fun _ _ _ _ => trivial)⟩
  rw [hU]
  exact ((hst.kept hI.2.2.2.1).warm hW).narrow (fun q hq => AG.le hI.2.2.1 hq)
theorem M2.Ct.of {l : Launch} {G : GT} {y : MethodName} {cc : ByteArray} {maxL : Nat} {ret : Option FieldType} {f n : Nat} {av : List Value} {h : Hp} {r : Option Value} {h' : Hp} {lv : List (Option Value)} (hy : plainName y.cls = true) (hc : cat1 av = true) (hm : (lg_sl av).length ≤ maxL) (hlv : lv = av.map some ++ List.replicate (maxL - av.length) none)
    (body : ∀ (p : Program) (e : Env) (s : State) (m : MethodId) (args : Array Value) (below : List Frame) (meth : Method) (c : Code), CX p s m args c cc maxL y.cls G → meth.sig.returnType = ret → meth.locks = false →
      ∀ (H : Heap) (locs : List Loc) (ls : Array Slot), LV ls maxL lv → IV G s h H locs → W p l e (rmc f n) s m args below meth c H locs 0 0 (MQ below (CtQ G r h' s.heap.size) args s 0 0 (AG G s.heap.size)) (F0 m 0 ls [])) : Ct l G y cc maxL ret f n av h r h' := by
  intro sz
  refine Met.ofW (cc := cc) (maxL := maxL) (ret := ret) hy rfl ?_
  intro p e s m args below meth c s₁ B hml hv
  obtain ⟨rfl, hsz, hg, hk, hst, hP, hD⟩ := hv
  subst hsz
  have hl := lv_entry av (n := maxL) hm
  rw [lg_entry_eq]
  refine body p e s m av.toArray below meth c ⟨B.exec, B.bytes, hml, findClass_of_methodNamed B.named, hg, hk, hst⟩ B.returns B.notSynchronized s.heap [] _ ⟨hl.1, hl.2.1, fun i v hi => ?_⟩ ⟨hP, wd_D _ hD, va_S.rf⟩
  rw [hlv] at hi
  refine hl.2.2 (i, v) ?_
  have h1 : av[i]? = some v := by
    by_cases hlt : i < av.length
    · rw [List.getElem?_append_left (by simpa using hlt), List.getElem?_map] at hi
      cases hq : av[i]? with
      | none => rw [hq] at hi; cases hi
      | some z => rw [hq] at hi; simp at hi; rw [hi]
    · rw [List.getElem?_append_right (by simpa using hlt)] at hi
      have := List.mem_of_getElem? hi
      simp [List.mem_replicate] at this
  have := lv_args_mem av 0 hc i v h1
  rwa [Nat.zero_add] at this
theorem M2.kf_9_1 {o : Nat} (h : kd o = 9) : kd (o + 1) = 10900 := kd_st (n := 1) (by decide) (by decide +kernel) h
theorem M2.kf_9_3 {o : Nat} (h : kd o = 9) : kd (o + 2) = 10008 := kd_st (n := 2) (by decide) (by decide +kernel) h
theorem M2.kf_9_4 {o : Nat} (h : kd o = 9) : kd (o + 3) = 20008 := kd_st (n := 3) (by decide) (by decide +kernel) h
theorem M2.kf_9_5 {o : Nat} (h : kd o = 9) : kd (o + 4) = 10020 := kd_st (n := 4) (by decide) (by decide +kernel) h
theorem M2.kf_9_7 {o : Nat} (h : kd o = 9) : kd (o + 5) = 10900 := kd_st (n := 5) (by decide) (by decide +kernel) h
theorem M2.kf_9_20 {o : Nat} (h : kd o = 9) : kd (o + 6) = 13715 := kd_st (n := 6) (by decide) (by decide +kernel) h
theorem M2.kf_9_21 {o : Nat} (h : kd o = 9) : kd (o + 7) = 13715 := kd_st (n := 7) (by decide) (by decide +kernel) h

section Rows
variable {p : Program} {l : Launch} {e : Env} {R : Room} {s : State} {m : MethodId} {args : Array Value} {below : List Frame} {meth : Method} {c : Code} {cc : ByteArray} {nL : Nat} {own : String} {G : GT} {cells slots : Nat} {α : Type} {Qf : α → State → Prop} {pc : Nat} {lv : List (Option Value)} {st : List Value} {h : Hp} {o : Option α}
theorem M2.f_none : PF p l e R s m args below meth c nL G cells slots Qf pc lv st h none := fun _ ha => nomatch ha
theorem M2.f_weak {lv' : List (Option Value)} (hs : LSb lv' lv) (k : PF p l e R s m args below meth c nL G cells slots Qf pc lv' st h o) : PF p l e R s m args below meth c nL G cells slots Qf pc lv st h o :=
  fun a ha H locs ls hl hI => k a ha H locs ls (hl.sub hs) hI
theorem M2.f_if {C : Prop} {i : Decidable C} {A B : Option α} (kt : C → PF p l e R s m args below meth c nL G cells slots Qf pc lv st h A) (kf : ¬ C → PF p l e R s m args below meth c nL G cells slots Qf pc lv st h B) : PF p l e R s m args below meth c nL G cells slots Qf pc lv st h (@ite _ C i A B) := by
  by_cases hc : C
  · rw [if_pos hc]
    exact kt hc
  · rw [if_neg hc]
    exact kf hc
/-- what must hold, or the pure row has no answer -/
theorem M2.f_need {C : Prop} {i : Decidable C} {A : Option α} (kt : C → PF p l e R s m args below meth c nL G cells slots Qf pc lv st h A) : PF p l e R s m args below meth c nL G cells slots Qf pc lv st h (@ite _ C i A none) := f_if kt (fun _ => f_none)
theorem M2.f_iconst (cx : CX p s m args c cc nL own G) {n : Int} {v : Int32} (hd : decode cc pc = .ok (.iconst n, 1)) (hv : Int32.ofInt n = v) (k : PF p l e R s m args below meth c nL G cells slots Qf (pc + 1) lv (.int v :: st) h o) : PF p l e R s m args below meth c nL G cells slots Qf pc lv st h o :=
  fun a ha H locs ls hl hI => lv_iconst cx.1 cx.2.1 hd hv (k a ha H locs ls hl hI)
theorem M2.f_bipush (cx : CX p s m args c cc nL own G) {n : Int} {v : Int32} (hd : decode cc pc = .ok (.bipush n, 2)) (hv : (Int8.ofInt n).toInt32 = v) (k : PF p l e R s m args below meth c nL G cells slots Qf (pc + 2) lv (.int v :: st) h o) : PF p l e R s m args below meth c nL G cells slots Qf pc lv st h o :=
  fun a ha H locs ls hl hI => lv_bipush cx.1 cx.2.1 hd hv (k a ha H locs ls hl hI)
theorem M2.f_sipush (cx : CX p s m args c cc nL own G) {n : Int} {v : Int32} (hd : decode cc pc = .ok (.sipush n, 3)) (hv : (Int16.ofInt n).toInt32 = v) (k : PF p l e R s m args below meth c nL G cells slots Qf (pc + 3) lv (.int v :: st) h o) : PF p l e R s m args below meth c nL G cells slots Qf pc lv st h o :=
  fun a ha H locs ls hl hI => lv_sipush cx.1 cx.2.1 hd hv (k a ha H locs ls hl hI)
theorem M2.f_lconst (cx : CX p s m args c cc nL own G) {n : Fin 2} {v : Int64} (hd : decode cc pc = .ok (.lconst n, 1)) (hv : Int64.ofNat (n : Nat) = v) (k : PF p l e R s m args below meth c nL G cells slots Qf (pc + 1) lv (.long v :: st) h o) : PF p l e R s m args below meth c nL G cells slots Qf pc lv st h o :=
  fun a ha H locs ls hl hI => lv_lconst cx.1 cx.2.1 hd hv (k a ha H locs ls hl hI)
theorem M2.f_ldc (cx : CX p s m args c cc nL own G) {i : Nat} {v : Int32} (hw : Cond.constant own i v ∈ lw_tbl) (hd : decode cc pc = .ok (.ldc i, 2)) (k : PF p l e R s m args below meth c nL G cells slots Qf (pc + 2) lv (.int v :: st) h o) : PF p l e R s m args below meth c nL G cells slots Qf pc lv st h o :=
  fun a ha H locs ls hl hI => lv_ldc cx.1 cx.2.1 cx.2.2.2.1 (cx.2.2.2.2.1.use hw rfl _) hd (k a ha H locs ls hl hI)
theorem M2.f_ldcw (cx : CX p s m args c cc nL own G) {i : Nat} {v : Int32} (hw : Cond.constant own i v ∈ lw_tbl) (hd : decode cc pc = .ok (.ldc_w i, 3)) (k : PF p l e R s m args below meth c nL G cells slots Qf (pc + 3) lv (.int v :: st) h o) : PF p l e R s m args below meth c nL G cells slots Qf pc lv st h o :=
  fun a ha H locs ls hl hI => lv_ldcw cx.1 cx.2.1 cx.2.2.2.1 (cx.2.2.2.2.1.use hw rfl _) hd (k a ha H locs ls hl hI)
theorem M2.f_ldc2 (cx : CX p s m args c cc nL own G) {i : Nat} {v : Int64} (hw : Cond.constantLong own i v ∈ lw_tbl) (hd : decode cc pc = .ok (.ldc2_w i, 3)) (k : PF p l e R s m args below meth c nL G cells slots Qf (pc + 3) lv (.long v :: st) h o) : PF p l e R s m args below meth c nL G cells slots Qf pc lv st h o :=
  fun a ha H locs ls hl hI => lv_ldc2 cx.1 cx.2.1 cx.2.2.2.1 (cx.2.2.2.2.1.use hw rfl _) hd (k a ha H locs ls hl hI)
theorem M2.f_iload_n (cx : CX p s m args c cc nL own G) {k : Fin 4} {i : Nat} {x : Int32} (hd : decode cc pc = .ok (.iload_n k, 1)) (hi : (k : Nat) = i) (hx : lv[i]? = some (some (.int x))) (kk : PF p l e R s m args below meth c nL G cells slots Qf (pc + 1) lv (.int x :: st) h o) : PF p l e R s m args below meth c nL G cells slots Qf pc lv st h o :=
  fun a ha H locs ls hl hI => lv_iload_n cx.1 cx.2.1 hd hi (hl.2.2 i _ hx) (kk a ha H locs ls hl hI)
theorem M2.f_aload_n (cx : CX p s m args c cc nL own G) {k : Fin 4} {i : Nat} {x : Nat} (hd : decode cc pc = .ok (.aload_n k, 1)) (hi : (k : Nat) = i) (hx : lv[i]? = some (some (.ref x))) (kk : PF p l e R s m args below meth c nL G cells slots Qf (pc + 1) lv (.ref x :: st) h o) : PF p l e R s m args below meth c nL G cells slots Qf pc lv st h o :=
  fun a ha H locs ls hl hI => lv_aload_n cx.1 cx.2.1 hd hi (hl.2.2 i _ hx) (kk a ha H locs ls hl hI)
theorem M2.f_lload_n (cx : CX p s m args c cc nL own G) {k : Fin 4} {i : Nat} {x : Int64} (hd : decode cc pc = .ok (.lload_n k, 1)) (hi : (k : Nat) = i) (hx : lv[i]? = some (some (.long x))) (kk : PF p l e R s m args below meth c nL G cells slots Qf (pc + 1) lv (.long x :: st) h o) : PF p l e R s m args below meth c nL G cells slots Qf pc lv st h o :=
  fun a ha H locs ls hl hI => lv_lload_n cx.1 cx.2.1 hd hi (hl.2.2 i _ hx) (kk a ha H locs ls hl hI)
theorem M2.f_iload (cx : CX p s m args c cc nL own G) {i : Nat} {x : Int32} (hd : decode cc pc = .ok (.iload i, 2)) (hx : lv[i]? = some (some (.int x))) (kk : PF p l e R s m args below meth c nL G cells slots Qf (pc + 2) lv (.int x :: st) h o) : PF p l e R s m args below meth c nL G cells slots Qf pc lv st h o :=
  fun a ha H locs ls hl hI => lv_iload cx.1 cx.2.1 hd (hl.2.2 i _ hx) (kk a ha H locs ls hl hI)
theorem M2.f_aload (cx : CX p s m args c cc nL own G) {i : Nat} {x : Nat} (hd : decode cc pc = .ok (.aload i, 2)) (hx : lv[i]? = some (some (.ref x))) (kk : PF p l e R s m args below meth c nL G cells slots Qf (pc + 2) lv (.ref x :: st) h o) : PF p l e R s m args below meth c nL G cells slots Qf pc lv st h o :=
  fun a ha H locs ls hl hI => lv_aload cx.1 cx.2.1 hd (hl.2.2 i _ hx) (kk a ha H locs ls hl hI)
theorem M2.f_lload (cx : CX p s m args c cc nL own G) {i : Nat} {x : Int64} (hd : decode cc pc = .ok (.lload i, 2)) (hx : lv[i]? = some (some (.long x))) (kk : PF p l e R s m args below meth c nL G cells slots Qf (pc + 2) lv (.long x :: st) h o) : PF p l e R s m args below meth c nL G cells slots Qf pc lv st h o :=
  fun a ha H locs ls hl hI => lv_lload cx.1 cx.2.1 hd (hl.2.2 i _ hx) (kk a ha H locs ls hl hI)
theorem M2.f_istore_n (cx : CX p s m args c cc nL own G) {k : Fin 4} {i : Nat} {x : Int32} {lv1 : List (Option Value)} (hd : decode cc pc = .ok (.istore_n k, 1)) (hk : (k : Nat) = i) (hi : i < nL) (ho : stok lv i = true) (hs : lv.set i (some (.int x)) = lv1) (kk : PF p l e R s m args below meth c nL G cells slots Qf (pc + 1) lv1 st h o) : PF p l e R s m args below meth c nL G cells slots Qf pc lv (.int x :: st) h o :=
  fun a ha H locs ls hl hI => lv_istore_n cx.1 cx.2.1 hd hk hl.has hi rfl (fun ls1 hl1 => kk a ha H locs ls1 (by rw [← hs]; exact LV.st1 ho hl1) hI)
theorem M2.f_istore (cx : CX p s m args c cc nL own G) {i : Nat} {x : Int32} {lv1 : List (Option Value)} (hd : decode cc pc = .ok (.istore i, 2)) (hi : i < nL) (ho : stok lv i = true) (hs : lv.set i (some (.int x)) = lv1) (kk : PF p l e R s m args below meth c nL G cells slots Qf (pc + 2) lv1 st h o) : PF p l e R s m args below meth c nL G cells slots Qf pc lv (.int x :: st) h o :=
  fun a ha H locs ls hl hI => lv_istore cx.1 cx.2.1 hd hl.has hi rfl (fun ls1 hl1 => kk a ha H locs ls1 (by rw [← hs]; exact LV.st1 ho hl1) hI)
theorem M2.f_astore_n (cx : CX p s m args c cc nL own G) {k : Fin 4} {i : Nat} {x : Nat} {lv1 : List (Option Value)} (hd : decode cc pc = .ok (.astore_n k, 1)) (hk : (k : Nat) = i) (hi : i < nL) (ho : stok lv i = true) (hs : lv.set i (some (.ref x)) = lv1) (kk : PF p l e R s m args below meth c nL G cells slots Qf (pc + 1) lv1 st h o) : PF p l e R s m args below meth c nL G cells slots Qf pc lv (.ref x :: st) h o :=
  fun a ha H locs ls hl hI => lv_astore_n cx.1 cx.2.1 hd hk hl.has hi rfl (fun ls1 hl1 => kk a ha H locs ls1 (by rw [← hs]; exact LV.st1 ho hl1) hI)
theorem M2.f_astore (cx : CX p s m args c cc nL own G) {i : Nat} {x : Nat} {lv1 : List (Option Value)} (hd : decode cc pc = .ok (.astore i, 2)) (hi : i < nL) (ho : stok lv i = true) (hs : lv.set i (some (.ref x)) = lv1) (kk : PF p l e R s m args below meth c nL G cells slots Qf (pc + 2) lv1 st h o) : PF p l e R s m args below meth c nL G cells slots Qf pc lv (.ref x :: st) h o :=
  fun a ha H locs ls hl hI => lv_astore cx.1 cx.2.1 hd hl.has hi rfl (fun ls1 hl1 => kk a ha H locs ls1 (by rw [← hs]; exact LV.st1 ho hl1) hI)
theorem M2.f_lstore_n (cx : CX p s m args c cc nL own G) {k : Fin 4} {i : Nat} {x : Int64} {lv1 : List (Option Value)} (hd : decode cc pc = .ok (.lstore_n k, 1)) (hk : (k : Nat) = i) (hi : i + 1 < nL) (ho : stok lv i = true) (hs : (lv.set i (some (.long x))).set (i + 1) none = lv1) (kk : PF p l e R s m args below meth c nL G cells slots Qf (pc + 1) lv1 st h o) : PF p l e R s m args below meth c nL G cells slots Qf pc lv (.long x :: st) h o :=
  fun a ha H locs ls hl hI => lv_lstore_n cx.1 cx.2.1 hd hk hl.has hi rfl (fun ls1 hl1 => kk a ha H locs ls1 (by rw [← hs]; exact LV.st2 ho hl1) hI)
theorem M2.f_lstore (cx : CX p s m args c cc nL own G) {i : Nat} {x : Int64} {lv1 : List (Option Value)} (hd : decode cc pc = .ok (.lstore i, 2)) (hi : i + 1 < nL) (ho : stok lv i = true) (hs : (lv.set i (some (.long x))).set (i + 1) none = lv1) (kk : PF p l e R s m args below meth c nL G cells slots Qf (pc + 2) lv1 st h o) : PF p l e R s m args below meth c nL G cells slots Qf pc lv (.long x :: st) h o :=
  fun a ha H locs ls hl hI => lv_lstore cx.1 cx.2.1 hd hl.has hi rfl (fun ls1 hl1 => kk a ha H locs ls1 (by rw [← hs]; exact LV.st2 ho hl1) hI)
theorem M2.f_iinc (cx : CX p s m args c cc nL own G) {i : Nat} {n : Int} {x v : Int32} {lv' : List (Option Value)} (hd : decode cc pc = .ok (.iinc i n, 3)) (hx : lv[i]? = some (some (.int x))) (hv : Int32.ofInt n = v) (hi : i < nL) (ho : stok lv i = true) (hs : lv.set i (some (.int (x + v))) = lv') (k : PF p l e R s m args below meth c nL G cells slots Qf (pc + 3) lv' st h o) : PF p l e R s m args below meth c nL G cells slots Qf pc lv st h o := by
  intro a ha H locs ls hl hI
  obtain ⟨j, hj⟩ := List.getElem?_of_mem ((lpr_mem lv 0 (i, .int x)).mpr ⟨i, by simp, hx⟩)
  refine lv_iinc (v := x + v) cx.1 cx.2.1 hd hl.has hj (by rw [hv]) hi rfl (fun ls' hl' => k a ha H locs ls' ?_ hI)
  rw [← hs]
  exact LV.st1 ho hl'
theorem M2.f_istore0 (cx : CX p s m args c cc nL own G) {x : Int32} {b0 : Option Value} {tl : List (Option Value)} (hd : decode cc pc = .ok (.istore_n 0, 1)) (hi : 0 < nL) (kk : PF p l e R s m args below meth c nL G cells slots Qf (pc + 1) (some (.int x) :: tl) st h o) : PF p l e R s m args below meth c nL G cells slots Qf pc (b0 :: tl) (.int x :: st) h o := f_istore_n cx hd rfl hi rfl rfl kk
theorem M2.f_astore0 (cx : CX p s m args c cc nL own G) {x : Nat} {b0 : Option Value} {tl : List (Option Value)} (hd : decode cc pc = .ok (.astore_n 0, 1)) (hi : 0 < nL) (kk : PF p l e R s m args below meth c nL G cells slots Qf (pc + 1) (some (.ref x) :: tl) st h o) : PF p l e R s m args below meth c nL G cells slots Qf pc (b0 :: tl) (.ref x :: st) h o := f_astore_n cx hd rfl hi rfl rfl kk
theorem M2.f_iinc0 (cx : CX p s m args c cc nL own G) {x : Int32} {n : Int} {v : Int32} {tl : List (Option Value)} (hd : decode cc pc = .ok (.iinc 0 n, 3)) (hv : Int32.ofInt n = v) (hi : 0 < nL) (kk : PF p l e R s m args below meth c nL G cells slots Qf (pc + 3) (some (.int (x + v)) :: tl) st h o) : PF p l e R s m args below meth c nL G cells slots Qf pc (some (.int x) :: tl) st h o := f_iinc cx hd rfl hv hi rfl rfl kk
theorem M2.f_istore1 (cx : CX p s m args c cc nL own G) {x : Int32} {b0 b1 : Option Value} {tl : List (Option Value)} (hd : decode cc pc = .ok (.istore_n 1, 1)) (hi : 1 < nL) (hp1 : nolong (some b0) = true) (kk : PF p l e R s m args below meth c nL G cells slots Qf (pc + 1) (b0 :: some (.int x) :: tl) st h o) : PF p l e R s m args below meth c nL G cells slots Qf pc (b0 :: b1 :: tl) (.int x :: st) h o := f_istore_n cx hd rfl hi hp1 rfl kk
theorem M2.f_astore1 (cx : CX p s m args c cc nL own G) {x : Nat} {b0 b1 : Option Value} {tl : List (Option Value)} (hd : decode cc pc = .ok (.astore_n 1, 1)) (hi : 1 < nL) (hp1 : nolong (some b0) = true) (kk : PF p l e R s m args below meth c nL G cells slots Qf (pc + 1) (b0 :: some (.ref x) :: tl) st h o) : PF p l e R s m args below meth c nL G cells slots Qf pc (b0 :: b1 :: tl) (.ref x :: st) h o := f_astore_n cx hd rfl hi hp1 rfl kk
theorem M2.f_iinc1 (cx : CX p s m args c cc nL own G) {x : Int32} {n : Int} {v : Int32} {b0 : Option Value} {tl : List (Option Value)} (hd : decode cc pc = .ok (.iinc 1 n, 3)) (hv : Int32.ofInt n = v) (hi : 1 < nL) (hp1 : nolong (some b0) = true) (kk : PF p l e R s m args below meth c nL G cells slots Qf (pc + 3) (b0 :: some (.int (x + v)) :: tl) st h o) : PF p l e R s m args below meth c nL G cells slots Qf pc (b0 :: some (.int x) :: tl) st h o := f_iinc cx hd rfl hv hi hp1 rfl kk
theorem M2.f_istore2 (cx : CX p s m args c cc nL own G) {x : Int32} {b0 b1 b2 : Option Value} {tl : List (Option Value)} (hd : decode cc pc = .ok (.istore_n 2, 1)) (hi : 2 < nL) (hp1 : nolong (some b1) = true) (kk : PF p l e R s m args below meth c nL G cells slots Qf (pc + 1) (b0 :: b1 :: some (.int x) :: tl) st h o) : PF p l e R s m args below meth c nL G cells slots Qf pc (b0 :: b1 :: b2 :: tl) (.int x :: st) h o := f_istore_n cx hd rfl hi hp1 rfl kk
theorem M2.f_astore2 (cx : CX p s m args c cc nL own G) {x : Nat} {b0 b1 b2 : Option Value} {tl : List (Option Value)} (hd : decode cc pc = .ok (.astore_n 2, 1)) (hi : 2 < nL) (hp1 : nolong (some b1) = true) (kk : PF p l e R s m args below meth c nL G cells slots Qf (pc + 1) (b0 :: b1 :: some (.ref x) :: tl) st h o) : PF p l e R s m args below meth c nL G cells slots Qf pc (b0 :: b1 :: b2 :: tl) (.ref x :: st) h o := f_astore_n cx hd rfl hi hp1 rfl kk
theorem M2.f_iinc2 (cx : CX p s m args c cc nL own G) {x : Int32} {n : Int} {v : Int32} {b0 b1 : Option Value} {tl : List (Option Value)} (hd : decode cc pc = .ok (.iinc 2 n, 3)) (hv : Int32.ofInt n = v) (hi : 2 < nL) (hp1 : nolong (some b1) = true) (kk : PF p l e R s m args below meth c nL G cells slots Qf (pc + 3) (b0 :: b1 :: some (.int (x + v)) :: tl) st h o) : PF p l e R s m args below meth c nL G cells slots Qf pc (b0 :: b1 :: some (.int x) :: tl) st h o := f_iinc cx hd rfl hv hi hp1 rfl kk
theorem M2.f_istore3 (cx : CX p s m args c cc nL own G) {x : Int32} {b0 b1 b2 b3 : Option Value} {tl : List (Option Value)} (hd : decode cc pc = .ok (.istore_n 3, 1)) (hi : 3 < nL) (hp1 : nolong (some b2) = true) (kk : PF p l e R s m args below meth c nL G cells slots Qf (pc + 1) (b0 :: b1 :: b2 :: some (.int x) :: tl) st h o) : PF p l e R s m args below meth c nL G cells slots Qf pc (b0 :: b1 :: b2 :: b3 :: tl) (.int x :: st) h o := f_istore_n cx hd rfl hi hp1 rfl kk
theorem M2.f_astore3 (cx : CX p s m args c cc nL own G) {x : Nat} {b0 b1 b2 b3 : Option Value} {tl : List (Option Value)} (hd : decode cc pc = .ok (.astore_n 3, 1)) (hi : 3 < nL) (hp1 : nolong (some b2) = true) (kk : PF p l e R s m args below meth c nL G cells slots Qf (pc + 1) (b0 :: b1 :: b2 :: some (.ref x) :: tl) st h o) : PF p l e R s m args below meth c nL G cells slots Qf pc (b0 :: b1 :: b2 :: b3 :: tl) (.ref x :: st) h o := f_astore_n cx hd rfl hi hp1 rfl kk
theorem M2.f_iinc3 (cx : CX p s m args c cc nL own G) {x : Int32} {n : Int} {v : Int32} {b0 b1 b2 : Option Value} {tl : List (Option Value)} (hd : decode cc pc = .ok (.iinc 3 n, 3)) (hv : Int32.ofInt n = v) (hi : 3 < nL) (hp1 : nolong (some b2) = true) (kk : PF p l e R s m args below meth c nL G cells slots Qf (pc + 3) (b0 :: b1 :: b2 :: some (.int (x + v)) :: tl) st h o) : PF p l e R s m args below meth c nL G cells slots Qf pc (b0 :: b1 :: b2 :: some (.int x) :: tl) st h o := f_iinc cx hd rfl hv hi hp1 rfl kk
theorem M2.f_istore4 (cx : CX p s m args c cc nL own G) {x : Int32} {b0 b1 b2 b3 b4 : Option Value} {tl : List (Option Value)} (hd : decode cc pc = .ok (.istore 4, 2)) (hi : 4 < nL) (hp1 : nolong (some b3) = true) (kk : PF p l e R s m args below meth c nL G cells slots Qf (pc + 2) (b0 :: b1 :: b2 :: b3 :: some (.int x) :: tl) st h o) : PF p l e R s m args below meth c nL G cells slots Qf pc (b0 :: b1 :: b2 :: b3 :: b4 :: tl) (.int x :: st) h o := f_istore cx hd hi hp1 rfl kk
theorem M2.f_astore4 (cx : CX p s m args c cc nL own G) {x : Nat} {b0 b1 b2 b3 b4 : Option Value} {tl : List (Option Value)} (hd : decode cc pc = .ok (.astore 4, 2)) (hi : 4 < nL) (hp1 : nolong (some b3) = true) (kk : PF p l e R s m args below meth c nL G cells slots Qf (pc + 2) (b0 :: b1 :: b2 :: b3 :: some (.ref x) :: tl) st h o) : PF p l e R s m args below meth c nL G cells slots Qf pc (b0 :: b1 :: b2 :: b3 :: b4 :: tl) (.ref x :: st) h o := f_astore cx hd hi hp1 rfl kk
theorem M2.f_iinc4 (cx : CX p s m args c cc nL own G) {x : Int32} {n : Int} {v : Int32} {b0 b1 b2 b3 : Option Value} {tl : List (Option Value)} (hd : decode cc pc = .ok (.iinc 4 n, 3)) (hv : Int32.ofInt n = v) (hi : 4 < nL) (hp1 : nolong (some b3) = true) (kk : PF p l e R s m args below meth c nL G cells slots Qf (pc + 3) (b0 :: b1 :: b2 :: b3 :: some (.int (x + v)) :: tl) st h o) : PF p l e R s m args below meth c nL G cells slots Qf pc (b0 :: b1 :: b2 :: b3 :: some (.int x) :: tl) st h o := f_iinc cx hd rfl hv hi hp1 rfl kk
theorem M2.f_istore5 (cx : CX p s m args c cc nL own G) {x : Int32} {b0 b1 b2 b3 b4 b5 : Option Value} {tl : List (Option Value)} (hd : decode cc pc = .ok (.istore 5, 2)) (hi : 5 < nL) (hp1 : nolong (some b4) = true) (kk : PF p l e R s m args below meth c nL G cells slots Qf (pc + 2) (b0 :: b1 :: b2 :: b3 :: b4 :: some (.int x) :: tl) st h o) : PF p l e R s m args below meth c nL G cells slots Qf pc (b0 :: b1 :: b2 :: b3 :: b4 :: b5 :: tl) (.int x :: st) h o := f_istore cx hd hi hp1 rfl kk
theorem M2.f_astore5 (cx : CX p s m args c cc nL own G) {x : Nat} {b0 b1 b2 b3 b4 b5 : Option Value} {tl : List (Option Value)} (hd : decode cc pc = .ok (.astore 5, 2)) (hi : 5 < nL) (hp1 : nolong (some b4) = true) (kk : PF p l e R s m args below meth c nL G cells slots Qf (pc + 2) (b0 :: b1 :: b2 :: b3 :: b4 :: some (.ref x) :: tl) st h o) : PF p l e R s m args below meth c nL G cells slots Qf pc (b0 :: b1 :: b2 :: b3 :: b4 :: b5 :: tl) (.ref x :: st) h o := f_astore cx hd hi hp1 rfl kk
theorem M2.f_iinc5 (cx : CX p s m args c cc nL own G) {x : Int32} {n : Int} {v : Int32} {b0 b1 b2 b3 b4 : Option Value} {tl : List (Option Value)} (hd : decode cc pc = .ok (.iinc 5 n, 3)) (hv : Int32.ofInt n = v) (hi : 5 < nL) (hp1 : nolong (some b4) = true) (kk : PF p l e R s m args below meth c nL G cells slots Qf (pc + 3) (b0 :: b1 :: b2 :: b3 :: b4 :: some (.int (x + v)) :: tl) st h o) : PF p l e R s m args below meth c nL G cells slots Qf pc (b0 :: b1 :: b2 :: b3 :: b4 :: some (.int x) :: tl) st h o := f_iinc cx hd rfl hv hi hp1 rfl kk
theorem M2.f_istore6 (cx : CX p s m args c cc nL own G) {x : Int32} {b0 b1 b2 b3 b4 b5 b6 : Option Value} {tl : List (Option Value)} (hd : decode cc pc = .ok (.istore 6, 2)) (hi : 6 < nL) (hp1 : nolong (some b5) = true) (kk : PF p l e R s m args below meth c nL G cells slots Qf (pc + 2) (b0 :: b1 :: b2 :: b3 :: b4 :: b5 :: some (.int x) :: tl) st h o) : PF p l e R s m args below meth c nL G cells slots Qf pc (b0 :: b1 :: b2 :: b3 :: b4 :: b5 :: b6 :: tl) (.int x :: st) h o := f_istore cx hd hi hp1 rfl kk
theorem M2.f_astore6 (cx : CX p s m args c cc nL own G) {x : Nat} {b0 b1 b2 b3 b4 b5 b6 : Option Value} {tl : List (Option Value)} (hd : decode cc pc = .ok (.astore 6, 2)) (hi : 6 < nL) (hp1 : nolong (some b5) = true) (kk : PF p l e R s m args below meth c nL G cells slots Qf (pc + 2) (b0 :: b1 :: b2 :: b3 :: b4 :: b5 :: some (.ref x) :: tl) st h o) : PF p l e R s m args below meth c nL G cells slots Qf pc (b0 :: b1 :: b2 :: b3 :: b4 :: b5 :: b6 :: tl) (.ref x :: st) h o := f_astore cx hd hi hp1 rfl kk
theorem M2.f_iinc6 (cx : CX p s m args c cc nL own G) {x : Int32} {n : Int} {v : Int32} {b0 b1 b2 b3 b4 b5 : Option Value} {tl : List (Option Value)} (hd : decode cc pc = .ok (.iinc 6 n, 3)) (hv : Int32.ofInt n = v) (hi : 6 < nL) (hp1 : nolong (some b5) = true) (kk : PF p l e R s m args below meth c nL G cells slots Qf (pc + 3) (b0 :: b1 :: b2 :: b3 :: b4 :: b5 :: some (.int (x + v)) :: tl) st h o) : PF p l e R s m args below meth c nL G cells slots Qf pc (b0 :: b1 :: b2 :: b3 :: b4 :: b5 :: some (.int x) :: tl) st h o := f_iinc cx hd rfl hv hi hp1 rfl kk
theorem M2.f_istore7 (cx : CX p s m args c cc nL own G) {x : Int32} {b0 b1 b2 b3 b4 b5 b6 b7 : Option Value} {tl : List (Option Value)} (hd : decode cc pc = .ok (.istore 7, 2)) (hi : 7 < nL) (hp1 : nolong (some b6) = true) (kk : PF p l e R s m args below meth c nL G cells slots Qf (pc + 2) (b0 :: b1 :: b2 :: b3 :: b4 :: b5 :: b6 :: some (.int x) :: tl) st h o) : PF p l e R s m args below meth c nL G cells slots Qf pc (b0 :: b1 :: b2 :: b3 :: b4 :: b5 :: b6 :: b7 :: tl) (.int x :: st) h o := f_istore cx hd hi hp1 rfl kk
theorem M2.f_astore7 (cx : CX p s m args c cc nL own G) {x : Nat} {b0 b1 b2 b3 b4 b5 b6 b7 : Option Value} {tl : List (Option Value)} (hd : decode cc pc = .ok (.astore 7, 2)) (hi : 7 < nL) (hp1 : nolong (some b6) = true) (kk : PF p l e R s m args below meth c nL G cells slots Qf (pc + 2) (b0 :: b1 :: b2 :: b3 :: b4 :: b5 :: b6 :: some (.ref x) :: tl) st h o) : PF p l e R s m args below meth c nL G cells slots Qf pc (b0 :: b1 :: b2 :: b3 :: b4 :: b5 :: b6 :: b7 :: tl) (.ref x :: st) h o := f_astore cx hd hi hp1 rfl kk
theorem M2.f_iinc7 (cx : CX p s m args c cc nL own G) {x : Int32} {n : Int} {v : Int32} {b0 b1 b2 b3 b4 b5 b6 : Option Value} {tl : List (Option Value)} (hd : decode cc pc = .ok (.iinc 7 n, 3)) (hv : Int32.ofInt n = v) (hi : 7 < nL) (hp1 : nolong (some b6) = true) (kk : PF p l e R s m args below meth c nL G cells slots Qf (pc + 3) (b0 :: b1 :: b2 :: b3 :: b4 :: b5 :: b6 :: some (.int (x + v)) :: tl) st h o) : PF p l e R s m args below meth c nL G cells slots Qf pc (b0 :: b1 :: b2 :: b3 :: b4 :: b5 :: b6 :: some (.int x) :: tl) st h o := f_iinc cx hd rfl hv hi hp1 rfl kk
theorem M2.f_istore8 (cx : CX p s m args c cc nL own G) {x : Int32} {b0 b1 b2 b3 b4 b5 b6 b7 b8 : Option Value} {tl : List (Option Value)} (hd : decode cc pc = .ok (.istore 8, 2)) (hi : 8 < nL) (hp1 : nolong (some b7) = true) (kk : PF p l e R s m args below meth c nL G cells slots Qf (pc + 2) (b0 :: b1 :: b2 :: b3 :: b4 :: b5 :: b6 :: b7 :: some (.int x) :: tl) st h o) : PF p l e R s m args below meth c nL G cells slots Qf pc (b0 :: b1 :: b2 :: b3 :: b4 :: b5 :: b6 :: b7 :: b8 :: tl) (.int x :: st) h o := f_istore cx hd hi hp1 rfl kk
theorem M2.f_astore8 (cx : CX p s m args c cc nL own G) {x : Nat} {b0 b1 b2 b3 b4 b5 b6 b7 b8 : Option Value} {tl : List (Option Value)} (hd : decode cc pc = .ok (.astore 8, 2)) (hi : 8 < nL) (hp1 : nolong (some b7) = true) (kk : PF p l e R s m args below meth c nL G cells slots Qf (pc + 2) (b0 :: b1 :: b2 :: b3 :: b4 :: b5 :: b6 :: b7 :: some (.ref x) :: tl) st h o) : PF p l e R s m args below meth c nL G cells slots Qf pc (b0 :: b1 :: b2 :: b3 :: b4 :: b5 :: b6 :: b7 :: b8 :: tl) (.ref x :: st) h o := f_astore cx hd hi hp1 rfl kk
theorem M2.f_iinc8 (cx : CX p s m args c cc nL own G) {x : Int32} {n : Int} {v : Int32} {b0 b1 b2 b3 b4 b5 b6 b7 : Option Value} {tl : List (Option Value)} (hd : decode cc pc = .ok (.iinc 8 n, 3)) (hv : Int32.ofInt n = v) (hi : 8 < nL) (hp1 : nolong (some b7) = true) (kk : PF p l e R s m args below meth c nL G cells slots Qf (pc + 3) (b0 :: b1 :: b2 :: b3 :: b4 :: b5 :: b6 :: b7 :: some (.int (x + v)) :: tl) st h o) : PF p l e R s m args below meth c nL G cells slots Qf pc (b0 :: b1 :: b2 :: b3 :: b4 :: b5 :: b6 :: b7 :: some (.int x) :: tl) st h o := f_iinc cx hd rfl hv hi hp1 rfl kk
theorem M2.f_lstore0 (cx : CX p s m args c cc nL own G) {x : Int64} {b0 b1 : Option Value} {tl : List (Option Value)} (hd : decode cc pc = .ok (.lstore_n 0, 1)) (hi : 0 + 1 < nL) (kk : PF p l e R s m args below meth c nL G cells slots Qf (pc + 1) (some (.long x) :: none :: tl) st h o) : PF p l e R s m args below meth c nL G cells slots Qf pc (b0 :: b1 :: tl) (.long x :: st) h o := f_lstore_n cx hd rfl hi rfl rfl kk
theorem M2.f_lstore1 (cx : CX p s m args c cc nL own G) {x : Int64} {b0 b1 b2 : Option Value} {tl : List (Option Value)} (hd : decode cc pc = .ok (.lstore_n 1, 1)) (hi : 1 + 1 < nL) (hp1 : nolong (some b0) = true) (kk : PF p l e R s m args below meth c nL G cells slots Qf (pc + 1) (b0 :: some (.long x) :: none :: tl) st h o) : PF p l e R s m args below meth c nL G cells slots Qf pc (b0 :: b1 :: b2 :: tl) (.long x :: st) h o := f_lstore_n cx hd rfl hi hp1 rfl kk
theorem M2.f_lstore2 (cx : CX p s m args c cc nL own G) {x : Int64} {b0 b1 b2 b3 : Option Value} {tl : List (Option Value)} (hd : decode cc pc = .ok (.lstore_n 2, 1)) (hi : 2 + 1 < nL) (hp1 : nolong (some b1) = true) (kk : PF p l e R s m args below meth c nL G cells slots Qf (pc + 1) (b0 :: b1 :: some (.long x) :: none :: tl) st h o) : PF p l e R s m args below meth c nL G cells slots Qf pc (b0 :: b1 :: b2 :: b3 :: tl) (.long x :: st) h o := f_lstore_n cx hd rfl hi hp1 rfl kk
theorem M2.f_lstore3 (cx : CX p s m args c cc nL own G) {x : Int64} {b0 b1 b2 b3 b4 : Option Value} {tl : List (Option Value)} (hd : decode cc pc = .ok (.lstore_n 3, 1)) (hi : 3 + 1 < nL) (hp1 : nolong (some b2) = true) (kk : PF p l e R s m args below meth c nL G cells slots Qf (pc + 1) (b0 :: b1 :: b2 :: some (.long x) :: none :: tl) st h o) : PF p l e R s m args below meth c nL G cells slots Qf pc (b0 :: b1 :: b2 :: b3 :: b4 :: tl) (.long x :: st) h o := f_lstore_n cx hd rfl hi hp1 rfl kk
theorem M2.f_lstore4 (cx : CX p s m args c cc nL own G) {x : Int64} {b0 b1 b2 b3 b4 b5 : Option Value} {tl : List (Option Value)} (hd : decode cc pc = .ok (.lstore 4, 2)) (hi : 4 + 1 < nL) (hp1 : nolong (some b3) = true) (kk : PF p l e R s m args below meth c nL G cells slots Qf (pc + 2) (b0 :: b1 :: b2 :: b3 :: some (.long x) :: none :: tl) st h o) : PF p l e R s m args below meth c nL G cells slots Qf pc (b0 :: b1 :: b2 :: b3 :: b4 :: b5 :: tl) (.long x :: st) h o := f_lstore cx hd hi hp1 rfl kk
theorem M2.f_lstore5 (cx : CX p s m args c cc nL own G) {x : Int64} {b0 b1 b2 b3 b4 b5 b6 : Option Value} {tl : List (Option Value)} (hd : decode cc pc = .ok (.lstore 5, 2)) (hi : 5 + 1 < nL) (hp1 : nolong (some b4) = true) (kk : PF p l e R s m args below meth c nL G cells slots Qf (pc + 2) (b0 :: b1 :: b2 :: b3 :: b4 :: some (.long x) :: none :: tl) st h o) : PF p l e R s m args below meth c nL G cells slots Qf pc (b0 :: b1 :: b2 :: b3 :: b4 :: b5 :: b6 :: tl) (.long x :: st) h o := f_lstore cx hd hi hp1 rfl kk
theorem M2.f_lstore6 (cx : CX p s m args c cc nL own G) {x : Int64} {b0 b1 b2 b3 b4 b5 b6 b7 : Option Value} {tl : List (Option Value)} (hd : decode cc pc = .ok (.lstore 6, 2)) (hi : 6 + 1 < nL) (hp1 : nolong (some b5) = true) (kk : PF p l e R s m args below meth c nL G cells slots Qf (pc + 2) (b0 :: b1 :: b2 :: b3 :: b4 :: b5 :: some (.long x) :: none :: tl) st h o) : PF p l e R s m args below meth c nL G cells slots Qf pc (b0 :: b1 :: b2 :: b3 :: b4 :: b5 :: b6 :: b7 :: tl) (.long x :: st) h o := f_lstore cx hd hi hp1 rfl kk
theorem M2.f_lstore7 (cx : CX p s m args c cc nL own G) {x : Int64} {b0 b1 b2 b3 b4 b5 b6 b7 b8 : Option Value} {tl : List (Option Value)} (hd : decode cc pc = .ok (.lstore 7, 2)) (hi : 7 + 1 < nL) (hp1 : nolong (some b6) = true) (kk : PF p l e R s m args below meth c nL G cells slots Qf (pc + 2) (b0 :: b1 :: b2 :: b3 :: b4 :: b5 :: b6 :: some (.long x) :: none :: tl) st h o) : PF p l e R s m args below meth c nL G cells slots Qf pc (b0 :: b1 :: b2 :: b3 :: b4 :: b5 :: b6 :: b7 :: b8 :: tl) (.long x :: st) h o := f_lstore cx hd hi hp1 rfl kk
theorem M2.f_iadd (cx : CX p s m args c cc nL own G) {x y : Int32} (hd : decode cc pc = .ok (.iadd, 1)) (k : PF p l e R s m args below meth c nL G cells slots Qf (pc + 1) lv (.int (x + y) :: st) h o) : PF p l e R s m args below meth c nL G cells slots Qf pc lv (.int y :: .int x :: st) h o :=
  fun a ha H locs ls hl hI => lv_iadd cx.1 cx.2.1 hd (k a ha H locs ls hl hI)
theorem M2.f_isub (cx : CX p s m args c cc nL own G) {x y : Int32} (hd : decode cc pc = .ok (.isub, 1)) (k : PF p l e R s m args below meth c nL G cells slots Qf (pc + 1) lv (.int (x - y) :: st) h o) : PF p l e R s m args below meth c nL G cells slots Qf pc lv (.int y :: .int x :: st) h o :=
  fun a ha H locs ls hl hI => lv_isub cx.1 cx.2.1 hd (k a ha H locs ls hl hI)
theorem M2.f_imul (cx : CX p s m args c cc nL own G) {x y : Int32} (hd : decode cc pc = .ok (.imul, 1)) (k : PF p l e R s m args below meth c nL G cells slots Qf (pc + 1) lv (.int (x * y) :: st) h o) : PF p l e R s m args below meth c nL G cells slots Qf pc lv (.int y :: .int x :: st) h o :=
  fun a ha H locs ls hl hI => lv_imul cx.1 cx.2.1 hd (k a ha H locs ls hl hI)
theorem M2.f_iand (cx : CX p s m args c cc nL own G) {x y : Int32} (hd : decode cc pc = .ok (.iand, 1)) (k : PF p l e R s m args below meth c nL G cells slots Qf (pc + 1) lv (.int (x &&& y) :: st) h o) : PF p l e R s m args below meth c nL G cells slots Qf pc lv (.int y :: .int x :: st) h o :=
  fun a ha H locs ls hl hI => lv_iand cx.1 cx.2.1 hd (k a ha H locs ls hl hI)
theorem M2.f_ior (cx : CX p s m args c cc nL own G) {x y : Int32} (hd : decode cc pc = .ok (.ior, 1)) (k : PF p l e R s m args below meth c nL G cells slots Qf (pc + 1) lv (.int (x ||| y) :: st) h o) : PF p l e R s m args below meth c nL G cells slots Qf pc lv (.int y :: .int x :: st) h o :=
  fun a ha H locs ls hl hI => lv_ior cx.1 cx.2.1 hd (k a ha H locs ls hl hI)
theorem M2.f_ixor (cx : CX p s m args c cc nL own G) {x y : Int32} (hd : decode cc pc = .ok (.ixor, 1)) (k : PF p l e R s m args below meth c nL G cells slots Qf (pc + 1) lv (.int (x ^^^ y) :: st) h o) : PF p l e R s m args below meth c nL G cells slots Qf pc lv (.int y :: .int x :: st) h o :=
  fun a ha H locs ls hl hI => lv_ixor cx.1 cx.2.1 hd (k a ha H locs ls hl hI)
theorem M2.f_ishl (cx : CX p s m args c cc nL own G) {x y : Int32} (hd : decode cc pc = .ok (.ishl, 1)) (k : PF p l e R s m args below meth c nL G cells slots Qf (pc + 1) lv (.int (x <<< (y &&& 31)) :: st) h o) : PF p l e R s m args below meth c nL G cells slots Qf pc lv (.int y :: .int x :: st) h o :=
  fun a ha H locs ls hl hI => lv_ishl cx.1 cx.2.1 hd (k a ha H locs ls hl hI)
theorem M2.f_ishr (cx : CX p s m args c cc nL own G) {x y : Int32} (hd : decode cc pc = .ok (.ishr, 1)) (k : PF p l e R s m args below meth c nL G cells slots Qf (pc + 1) lv (.int (x >>> (y &&& 31)) :: st) h o) : PF p l e R s m args below meth c nL G cells slots Qf pc lv (.int y :: .int x :: st) h o :=
  fun a ha H locs ls hl hI => lv_ishr cx.1 cx.2.1 hd (k a ha H locs ls hl hI)
theorem M2.f_iushr (cx : CX p s m args c cc nL own G) {x y : Int32} (hd : decode cc pc = .ok (.iushr, 1)) (k : PF p l e R s m args below meth c nL G cells slots Qf (pc + 1) lv (.int (x.toUInt32 >>> (y.toUInt32 &&& Int32.toUInt32 31)).toInt32 :: st) h o) : PF p l e R s m args below meth c nL G cells slots Qf pc lv (.int y :: .int x :: st) h o :=
  fun a ha H locs ls hl hI => lv_iushr cx.1 cx.2.1 hd rfl (k a ha H locs ls hl hI)
theorem M2.f_ladd (cx : CX p s m args c cc nL own G) {x y : Int64} (hd : decode cc pc = .ok (.ladd, 1)) (k : PF p l e R s m args below meth c nL G cells slots Qf (pc + 1) lv (.long (x + y) :: st) h o) : PF p l e R s m args below meth c nL G cells slots Qf pc lv (.long y :: .long x :: st) h o :=
  fun a ha H locs ls hl hI => lv_ladd cx.1 cx.2.1 hd (k a ha H locs ls hl hI)
theorem M2.f_lsub (cx : CX p s m args c cc nL own G) {x y : Int64} (hd : decode cc pc = .ok (.lsub, 1)) (k : PF p l e R s m args below meth c nL G cells slots Qf (pc + 1) lv (.long (x - y) :: st) h o) : PF p l e R s m args below meth c nL G cells slots Qf pc lv (.long y :: .long x :: st) h o :=
  fun a ha H locs ls hl hI => lv_lsub cx.1 cx.2.1 hd (k a ha H locs ls hl hI)
theorem M2.f_lmul (cx : CX p s m args c cc nL own G) {x y : Int64} (hd : decode cc pc = .ok (.lmul, 1)) (k : PF p l e R s m args below meth c nL G cells slots Qf (pc + 1) lv (.long (x * y) :: st) h o) : PF p l e R s m args below meth c nL G cells slots Qf pc lv (.long y :: .long x :: st) h o :=
  fun a ha H locs ls hl hI => lv_lmul cx.1 cx.2.1 hd (k a ha H locs ls hl hI)
theorem M2.f_lshr (cx : CX p s m args c cc nL own G) {x : Int64} {y : Int32} (hd : decode cc pc = .ok (.lshr, 1)) (k : PF p l e R s m args below meth c nL G cells slots Qf (pc + 1) lv (.long (x >>> (y.toInt64 &&& 63)) :: st) h o) : PF p l e R s m args below meth c nL G cells slots Qf pc lv (.int y :: .long x :: st) h o :=
  fun a ha H locs ls hl hI => lv_lshr cx.1 cx.2.1 hd rfl (k a ha H locs ls hl hI)
theorem M2.f_lcmp (cx : CX p s m args c cc nL own G) {x y : Int64} (hd : decode cc pc = .ok (.lcmp, 1)) (k : PF p l e R s m args below meth c nL G cells slots Qf (pc + 1) lv (.int (lg_cmp x y) :: st) h o) : PF p l e R s m args below meth c nL G cells slots Qf pc lv (.long y :: .long x :: st) h o :=
  fun a ha H locs ls hl hI => W.lcmp cx.1 cx.2.1 hd (k a ha H locs ls hl hI)
theorem M2.f_i2l (cx : CX p s m args c cc nL own G) {x : Int32} (hd : decode cc pc = .ok (.i2l, 1)) (k : PF p l e R s m args below meth c nL G cells slots Qf (pc + 1) lv (.long x.toInt64 :: st) h o) : PF p l e R s m args below meth c nL G cells slots Qf pc lv (.int x :: st) h o :=
  fun a ha H locs ls hl hI => lv_i2l cx.1 cx.2.1 hd rfl (k a ha H locs ls hl hI)
theorem M2.f_l2i (cx : CX p s m args c cc nL own G) {x : Int64} (hd : decode cc pc = .ok (.l2i, 1)) (k : PF p l e R s m args below meth c nL G cells slots Qf (pc + 1) lv (.int x.toInt32 :: st) h o) : PF p l e R s m args below meth c nL G cells slots Qf pc lv (.long x :: st) h o :=
  fun a ha H locs ls hl hI => lv_l2i cx.1 cx.2.1 hd rfl (k a ha H locs ls hl hI)
theorem M2.f_ineg (cx : CX p s m args c cc nL own G) {x : Int32} (hd : decode cc pc = .ok (.ineg, 1)) (k : PF p l e R s m args below meth c nL G cells slots Qf (pc + 1) lv (.int (-x) :: st) h o) : PF p l e R s m args below meth c nL G cells slots Qf pc lv (.int x :: st) h o :=
  fun a ha H locs ls hl hI => lv_ineg cx.1 cx.2.1 hd (k a ha H locs ls hl hI)
theorem M2.f_idiv (cx : CX p s m args c cc nL own G) {x y : Int32} (hd : decode cc pc = .ok (.idiv, 1)) (hy : ¬ y = 0) (k : PF p l e R s m args below meth c nL G cells slots Qf (pc + 1) lv (.int (x / y) :: st) h o) : PF p l e R s m args below meth c nL G cells slots Qf pc lv (.int y :: .int x :: st) h o :=
  fun a ha H locs ls hl hI => lv_idiv cx.1 cx.2.1 hd hy (k a ha H locs ls hl hI)
theorem M2.f_irem (cx : CX p s m args c cc nL own G) {x y : Int32} (hd : decode cc pc = .ok (.irem, 1)) (hy : ¬ y = 0) (k : PF p l e R s m args below meth c nL G cells slots Qf (pc + 1) lv (.int (x - x / y * y) :: st) h o) : PF p l e R s m args below meth c nL G cells slots Qf pc lv (.int y :: .int x :: st) h o :=
  fun a ha H locs ls hl hI => lv_irem cx.1 cx.2.1 hd hy (k a ha H locs ls hl hI)
theorem M2.f_ldiv (cx : CX p s m args c cc nL own G) {x y : Int64} (hd : decode cc pc = .ok (.ldiv, 1)) (hy : ¬ y = 0) (k : PF p l e R s m args below meth c nL G cells slots Qf (pc + 1) lv (.long (x / y) :: st) h o) : PF p l e R s m args below meth c nL G cells slots Qf pc lv (.long y :: .long x :: st) h o :=
  fun a ha H locs ls hl hI => lv_ldiv cx.1 cx.2.1 hd hy (k a ha H locs ls hl hI)
theorem M2.f_dup (cx : CX p s m args c cc nL own G) {v : Value} (hd : decode cc pc = .ok (.dup, 1)) (hv : v.category = 1) (k : PF p l e R s m args below meth c nL G cells slots Qf (pc + 1) lv (v :: v :: st) h o) : PF p l e R s m args below meth c nL G cells slots Qf pc lv (v :: st) h o :=
  fun a ha H locs ls hl hI => lv_dup cx.1 cx.2.1 hd hv (k a ha H locs ls hl hI)
theorem M2.f_dup2 (cx : CX p s m args c cc nL own G) {v w : Value} (hd : decode cc pc = .ok (.dup2, 1)) (hv : v.category = 1) (hw : w.category = 1) (k : PF p l e R s m args below meth c nL G cells slots Qf (pc + 1) lv (v :: w :: v :: w :: st) h o) : PF p l e R s m args below meth c nL G cells slots Qf pc lv (v :: w :: st) h o :=
  fun a ha H locs ls hl hI => lv_dup2_11 cx.1 cx.2.1 hd hv hw (k a ha H locs ls hl hI)
theorem M2.f_pop (cx : CX p s m args c cc nL own G) {v : Value} (hd : decode cc pc = .ok (.pop, 1)) (hv : v.category = 1) (k : PF p l e R s m args below meth c nL G cells slots Qf (pc + 1) lv st h o) : PF p l e R s m args below meth c nL G cells slots Qf pc lv (v :: st) h o :=
  fun a ha H locs ls hl hI => lv_pop cx.1 cx.2.1 hd hv (k a ha H locs ls hl hI)
theorem M2.f_goto (cx : CX p s m args c cc nL own G) {off : Int} {tgt : Nat} (hd : decode cc pc = .ok (.goto off, 3)) (ht : (pc : Int) + off = (tgt : Int)) (k : PF p l e R s m args below meth c nL G cells slots Qf tgt lv st h o) : PF p l e R s m args below meth c nL G cells slots Qf pc lv st h o :=
  fun a ha H locs ls hl hI => lv_goto cx.1 cx.2.1 hd ht (k a ha H locs ls hl hI)
theorem M2.f_if_eq (cx : CX p s m args c cc nL own G) {x : Int32} {off : Int} {tgt : Nat} {i : Decidable (x = 0)} {A B : Option α} (hd : decode cc pc = .ok (.ifCond .eq off, 3)) (ht : (pc : Int) + off = (tgt : Int)) (kt : x = 0 → PF p l e R s m args below meth c nL G cells slots Qf tgt lv st h A) (kf : ¬ x = 0 → PF p l e R s m args below meth c nL G cells slots Qf (pc + 3) lv st h B) : PF p l e R s m args below meth c nL G cells slots Qf pc lv (.int x :: st) h (@ite _ (x = 0) i A B) := by
  intro a ha H locs ls hl hI
  exact lv_if_eq cx.1 cx.2.1 hd ht (fun q => kt q a (by rw [if_pos q] at ha; exact ha) H locs ls hl hI) (fun q => kf q a (by rw [if_neg q] at ha; exact ha) H locs ls hl hI)
theorem M2.f_icmp_eq (cx : CX p s m args c cc nL own G) {x y : Int32} {off : Int} {tgt : Nat} {i : Decidable (x = y)} {A B : Option α} (hd : decode cc pc = .ok (.if_icmp .eq off, 3)) (ht : (pc : Int) + off = (tgt : Int)) (kt : x = y → PF p l e R s m args below meth c nL G cells slots Qf tgt lv st h A) (kf : ¬ x = y → PF p l e R s m args below meth c nL G cells slots Qf (pc + 3) lv st h B) : PF p l e R s m args below meth c nL G cells slots Qf pc lv (.int y :: .int x :: st) h (@ite _ (x = y) i A B) := by
  intro a ha H locs ls hl hI
  exact lv_icmp_eq cx.1 cx.2.1 hd ht (fun q => kt q a (by rw [if_pos q] at ha; exact ha) H locs ls hl hI) (fun q => kf q a (by rw [if_neg q] at ha; exact ha) H locs ls hl hI)
theorem M2.f_if_lt (cx : CX p s m args c cc nL own G) {x : Int32} {off : Int} {tgt : Nat} {i : Decidable (x < 0)} {A B : Option α} (hd : decode cc pc = .ok (.ifCond .lt off, 3)) (ht : (pc : Int) + off = (tgt : Int)) (kt : x < 0 → PF p l e R s m args below meth c nL G cells slots Qf tgt lv st h A) (kf : ¬ x < 0 → PF p l e R s m args below meth c nL G cells slots Qf (pc + 3) lv st h B) : PF p l e R s m args below meth c nL G cells slots Qf pc lv (.int x :: st) h (@ite _ (x < 0) i A B) := by
  intro a ha H locs ls hl hI
  exact lv_if_lt cx.1 cx.2.1 hd ht (fun q => kt q a (by rw [if_pos q] at ha; exact ha) H locs ls hl hI) (fun q => kf q a (by rw [if_neg q] at ha; exact ha) H locs ls hl hI)
theorem M2.f_icmp_lt (cx : CX p s m args c cc nL own G) {x y : Int32} {off : Int} {tgt : Nat} {i : Decidable (x < y)} {A B : Option α} (hd : decode cc pc = .ok (.if_icmp .lt off, 3)) (ht : (pc : Int) + off = (tgt : Int)) (kt : x < y → PF p l e R s m args below meth c nL G cells slots Qf tgt lv st h A) (kf : ¬ x < y → PF p l e R s m args below meth c nL G cells slots Qf (pc + 3) lv st h B) : PF p l e R s m args below meth c nL G cells slots Qf pc lv (.int y :: .int x :: st) h (@ite _ (x < y) i A B) := by
  intro a ha H locs ls hl hI
  exact lv_icmp_lt cx.1 cx.2.1 hd ht (fun q => kt q a (by rw [if_pos q] at ha; exact ha) H locs ls hl hI) (fun q => kf q a (by rw [if_neg q] at ha; exact ha) H locs ls hl hI)
theorem M2.f_if_ge (cx : CX p s m args c cc nL own G) {x : Int32} {off : Int} {tgt : Nat} {i : Decidable (0 ≤ x)} {A B : Option α} (hd : decode cc pc = .ok (.ifCond .ge off, 3)) (ht : (pc : Int) + off = (tgt : Int)) (kt : 0 ≤ x → PF p l e R s m args below meth c nL G cells slots Qf tgt lv st h A) (kf : ¬ 0 ≤ x → PF p l e R s m args below meth c nL G cells slots Qf (pc + 3) lv st h B) : PF p l e R s m args below meth c nL G cells slots Qf pc lv (.int x :: st) h (@ite _ (0 ≤ x) i A B) := by
  intro a ha H locs ls hl hI
  exact lv_if_ge cx.1 cx.2.1 hd ht (fun q => kt q a (by rw [if_pos q] at ha; exact ha) H locs ls hl hI) (fun q => kf q a (by rw [if_neg q] at ha; exact ha) H locs ls hl hI)
theorem M2.f_icmp_ge (cx : CX p s m args c cc nL own G) {x y : Int32} {off : Int} {tgt : Nat} {i : Decidable (y ≤ x)} {A B : Option α} (hd : decode cc pc = .ok (.if_icmp .ge off, 3)) (ht : (pc : Int) + off = (tgt : Int)) (kt : y ≤ x → PF p l e R s m args below meth c nL G cells slots Qf tgt lv st h A) (kf : ¬ y ≤ x → PF p l e R s m args below meth c nL G cells slots Qf (pc + 3) lv st h B) : PF p l e R s m args below meth c nL G cells slots Qf pc lv (.int y :: .int x :: st) h (@ite _ (y ≤ x) i A B) := by
  intro a ha H locs ls hl hI
  exact lv_icmp_ge cx.1 cx.2.1 hd ht (fun q => kt q a (by rw [if_pos q] at ha; exact ha) H locs ls hl hI) (fun q => kf q a (by rw [if_neg q] at ha; exact ha) H locs ls hl hI)
theorem M2.f_if_gt (cx : CX p s m args c cc nL own G) {x : Int32} {off : Int} {tgt : Nat} {i : Decidable (0 < x)} {A B : Option α} (hd : decode cc pc = .ok (.ifCond .gt off, 3)) (ht : (pc : Int) + off = (tgt : Int)) (kt : 0 < x → PF p l e R s m args below meth c nL G cells slots Qf tgt lv st h A) (kf : ¬ 0 < x → PF p l e R s m args below meth c nL G cells slots Qf (pc + 3) lv st h B) : PF p l e R s m args below meth c nL G cells slots Qf pc lv (.int x :: st) h (@ite _ (0 < x) i A B) := by
  intro a ha H locs ls hl hI
  exact lv_if_gt cx.1 cx.2.1 hd ht (fun q => kt q a (by rw [if_pos q] at ha; exact ha) H locs ls hl hI) (fun q => kf q a (by rw [if_neg q] at ha; exact ha) H locs ls hl hI)
theorem M2.f_icmp_gt (cx : CX p s m args c cc nL own G) {x y : Int32} {off : Int} {tgt : Nat} {i : Decidable (y < x)} {A B : Option α} (hd : decode cc pc = .ok (.if_icmp .gt off, 3)) (ht : (pc : Int) + off = (tgt : Int)) (kt : y < x → PF p l e R s m args below meth c nL G cells slots Qf tgt lv st h A) (kf : ¬ y < x → PF p l e R s m args below meth c nL G cells slots Qf (pc + 3) lv st h B) : PF p l e R s m args below meth c nL G cells slots Qf pc lv (.int y :: .int x :: st) h (@ite _ (y < x) i A B) := by
  intro a ha H locs ls hl hI
  exact lv_icmp_gt cx.1 cx.2.1 hd ht (fun q => kt q a (by rw [if_pos q] at ha; exact ha) H locs ls hl hI) (fun q => kf q a (by rw [if_neg q] at ha; exact ha) H locs ls hl hI)
theorem M2.f_if_le (cx : CX p s m args c cc nL own G) {x : Int32} {off : Int} {tgt : Nat} {i : Decidable (x ≤ 0)} {A B : Option α} (hd : decode cc pc = .ok (.ifCond .le off, 3)) (ht : (pc : Int) + off = (tgt : Int)) (kt : x ≤ 0 → PF p l e R s m args below meth c nL G cells slots Qf tgt lv st h A) (kf : ¬ x ≤ 0 → PF p l e R s m args below meth c nL G cells slots Qf (pc + 3) lv st h B) : PF p l e R s m args below meth c nL G cells slots Qf pc lv (.int x :: st) h (@ite _ (x ≤ 0) i A B) := by
  intro a ha H locs ls hl hI
  exact lv_if_le cx.1 cx.2.1 hd ht (fun q => kt q a (by rw [if_pos q] at ha; exact ha) H locs ls hl hI) (fun q => kf q a (by rw [if_neg q] at ha; exact ha) H locs ls hl hI)
theorem M2.f_icmp_le (cx : CX p s m args c cc nL own G) {x y : Int32} {off : Int} {tgt : Nat} {i : Decidable (x ≤ y)} {A B : Option α} (hd : decode cc pc = .ok (.if_icmp .le off, 3)) (ht : (pc : Int) + off = (tgt : Int)) (kt : x ≤ y → PF p l e R s m args below meth c nL G cells slots Qf tgt lv st h A) (kf : ¬ x ≤ y → PF p l e R s m args below meth c nL G cells slots Qf (pc + 3) lv st h B) : PF p l e R s m args below meth c nL G cells slots Qf pc lv (.int y :: .int x :: st) h (@ite _ (x ≤ y) i A B) := by
  intro a ha H locs ls hl hI
  exact lv_icmp_le cx.1 cx.2.1 hd ht (fun q => kt q a (by rw [if_pos q] at ha; exact ha) H locs ls hl hI) (fun q => kf q a (by rw [if_neg q] at ha; exact ha) H locs ls hl hI)
theorem M2.f_if_ne (cx : CX p s m args c cc nL own G) {x : Int32} {off : Int} {tgt : Nat} {i : Decidable (x = 0)} {A B : Option α} (hd : decode cc pc = .ok (.ifCond .ne off, 3)) (ht : (pc : Int) + off = (tgt : Int)) (kf : x = 0 → PF p l e R s m args below meth c nL G cells slots Qf (pc + 3) lv st h A) (kt : ¬ x = 0 → PF p l e R s m args below meth c nL G cells slots Qf tgt lv st h B) : PF p l e R s m args below meth c nL G cells slots Qf pc lv (.int x :: st) h (@ite _ (x = 0) i A B) := by
  intro a ha H locs ls hl hI
  exact lv_if_ne cx.1 cx.2.1 hd ht (fun q => kt q a (by rw [if_neg q] at ha; exact ha) H locs ls hl hI) (fun q => kf q a (by rw [if_pos q] at ha; exact ha) H locs ls hl hI)
theorem M2.f_icmp_ne (cx : CX p s m args c cc nL own G) {x y : Int32} {off : Int} {tgt : Nat} {i : Decidable (x = y)} {A B : Option α} (hd : decode cc pc = .ok (.if_icmp .ne off, 3)) (ht : (pc : Int) + off = (tgt : Int)) (kf : x = y → PF p l e R s m args below meth c nL G cells slots Qf (pc + 3) lv st h A) (kt : ¬ x = y → PF p l e R s m args below meth c nL G cells slots Qf tgt lv st h B) : PF p l e R s m args below meth c nL G cells slots Qf pc lv (.int y :: .int x :: st) h (@ite _ (x = y) i A B) := by
  intro a ha H locs ls hl hI
  exact lv_icmp_ne cx.1 cx.2.1 hd ht (fun q => kt q a (by rw [if_neg q] at ha; exact ha) H locs ls hl hI) (fun q => kf q a (by rw [if_pos q] at ha; exact ha) H locs ls hl hI)
theorem M2.f_if_eq_t (cx : CX p s m args c cc nL own G) {x : Int32} {off : Int} {tgt : Nat} (hd : decode cc pc = .ok (.ifCond .eq off, 3)) (ht : (pc : Int) + off = (tgt : Int)) (hc : x = 0) (kt : PF p l e R s m args below meth c nL G cells slots Qf tgt lv st h o) : PF p l e R s m args below meth c nL G cells slots Qf pc lv (.int x :: st) h o :=
  fun a ha H locs ls hl hI => lv_if_eq cx.1 cx.2.1 hd ht (fun _ => kt a ha H locs ls hl hI) (fun q => absurd hc q)
theorem M2.f_if_eq_f (cx : CX p s m args c cc nL own G) {x : Int32} {off : Int} {tgt : Nat} (hd : decode cc pc = .ok (.ifCond .eq off, 3)) (ht : (pc : Int) + off = (tgt : Int)) (hc : ¬ x = 0) (kf : PF p l e R s m args below meth c nL G cells slots Qf (pc + 3) lv st h o) : PF p l e R s m args below meth c nL G cells slots Qf pc lv (.int x :: st) h o :=
  fun a ha H locs ls hl hI => lv_if_eq cx.1 cx.2.1 hd ht (fun q => absurd q hc) (fun _ => kf a ha H locs ls hl hI)
theorem M2.f_icmp_eq_t (cx : CX p s m args c cc nL own G) {x y : Int32} {off : Int} {tgt : Nat} (hd : decode cc pc = .ok (.if_icmp .eq off, 3)) (ht : (pc : Int) + off = (tgt : Int)) (hc : x = y) (kt : PF p l e R s m args below meth c nL G cells slots Qf tgt lv st h o) : PF p l e R s m args below meth c nL G cells slots Qf pc lv (.int y :: .int x :: st) h o :=
  fun a ha H locs ls hl hI => lv_icmp_eq cx.1 cx.2.1 hd ht (fun _ => kt a ha H locs ls hl hI) (fun q => absurd hc q)
theorem M2.f_icmp_eq_f (cx : CX p s m args c cc nL own G) {x y : Int32} {off : Int} {tgt : Nat} (hd : decode cc pc = .ok (.if_icmp .eq off, 3)) (ht : (pc : Int) + off = (tgt : Int)) (hc : ¬ x = y) (kf : PF p l e R s m args below meth c nL G cells slots Qf (pc + 3) lv st h o) : PF p l e R s m args below meth c nL G cells slots Qf pc lv (.int y :: .int x :: st) h o :=
  fun a ha H locs ls hl hI => lv_icmp_eq cx.1 cx.2.1 hd ht (fun q => absurd q hc) (fun _ => kf a ha H locs ls hl hI)
theorem M2.f_if_lt_t (cx : CX p s m args c cc nL own G) {x : Int32} {off : Int} {tgt : Nat} (hd : decode cc pc = .ok (.ifCond .lt off, 3)) (ht : (pc : Int) + off = (tgt : Int)) (hc : x < 0) (kt : PF p l e R s m args below meth c nL G cells slots Qf tgt lv st h o) : PF p l e R s m args below meth c nL G cells slots Qf pc lv (.int x :: st) h o :=
  fun a ha H locs ls hl hI => lv_if_lt cx.1 cx.2.1 hd ht (fun _ => kt a ha H locs ls hl hI) (fun q => absurd hc q)
theorem M2.f_if_lt_f (cx : CX p s m args c cc nL own G) {x : Int32} {off : Int} {tgt : Nat} (hd : decode cc pc = .ok (.ifCond .lt off, 3)) (ht : (pc : Int) + off = (tgt : Int)) (hc : ¬ x < 0) (kf : PF p l e R s m args below meth c nL G cells slots Qf (pc + 3) lv st h o) : PF p l e R s m args below meth c nL G cells slots Qf pc lv (.int x :: st) h o :=
  fun a ha H locs ls hl hI => lv_if_lt cx.1 cx.2.1 hd ht (fun q => absurd q hc) (fun _ => kf a ha H locs ls hl hI)
theorem M2.f_icmp_lt_t (cx : CX p s m args c cc nL own G) {x y : Int32} {off : Int} {tgt : Nat} (hd : decode cc pc = .ok (.if_icmp .lt off, 3)) (ht : (pc : Int) + off = (tgt : Int)) (hc : x < y) (kt : PF p l e R s m args below meth c nL G cells slots Qf tgt lv st h o) : PF p l e R s m args below meth c nL G cells slots Qf pc lv (.int y :: .int x :: st) h o :=
  fun a ha H locs ls hl hI => lv_icmp_lt cx.1 cx.2.1 hd ht (fun _ => kt a ha H locs ls hl hI) (fun q => absurd hc q)
theorem M2.f_icmp_lt_f (cx : CX p s m args c cc nL own G) {x y : Int32} {off : Int} {tgt : Nat} (hd : decode cc pc = .ok (.if_icmp .lt off, 3)) (ht : (pc : Int) + off = (tgt : Int)) (hc : ¬ x < y) (kf : PF p l e R s m args below meth c nL G cells slots Qf (pc + 3) lv st h o) : PF p l e R s m args below meth c nL G cells slots Qf pc lv (.int y :: .int x :: st) h o :=
  fun a ha H locs ls hl hI => lv_icmp_lt cx.1 cx.2.1 hd ht (fun q => absurd q hc) (fun _ => kf a ha H locs ls hl hI)
theorem M2.f_if_ge_t (cx : CX p s m args c cc nL own G) {x : Int32} {off : Int} {tgt : Nat} (hd : decode cc pc = .ok (.ifCond .ge off, 3)) (ht : (pc : Int) + off = (tgt : Int)) (hc : 0 ≤ x) (kt : PF p l e R s m args below meth c nL G cells slots Qf tgt lv st h o) : PF p l e R s m args below meth c nL G cells slots Qf pc lv (.int x :: st) h o :=
  fun a ha H locs ls hl hI => lv_if_ge cx.1 cx.2.1 hd ht (fun _ => kt a ha H locs ls hl hI) (fun q => absurd hc q)
theorem M2.f_if_ge_f (cx : CX p s m args c cc nL own G) {x : Int32} {off : Int} {tgt : Nat} (hd : decode cc pc = .ok (.ifCond .ge off, 3)) (ht : (pc : Int) + off = (tgt : Int)) (hc : ¬ 0 ≤ x) (kf : PF p l e R s m args below meth c nL G cells slots Qf (pc + 3) lv st h o) : PF p l e R s m args below meth c nL G cells slots Qf pc lv (.int x :: st) h o :=
  fun a ha H locs ls hl hI => lv_if_ge cx.1 cx.2.1 hd ht (fun q => absurd q hc) (fun _ => kf a ha H locs ls hl hI)
theorem M2.f_icmp_ge_t (cx : CX p s m args c cc nL own G) {x y : Int32} {off : Int} {tgt : Nat} (hd : decode cc pc = .ok (.if_icmp .ge off, 3)) (ht : (pc : Int) + off = (tgt : Int)) (hc : y ≤ x) (kt : PF p l e R s m args below meth c nL G cells slots Qf tgt lv st h o) : PF p l e R s m args below meth c nL G cells slots Qf pc lv (.int y :: .int x :: st) h o :=
  fun a ha H locs ls hl hI => lv_icmp_ge cx.1 cx.2.1 hd ht (fun _ => kt a ha H locs ls hl hI) (fun q => absurd hc q)
theorem M2.f_icmp_ge_f (cx : CX p s m args c cc nL own G) {x y : Int32} {off : Int} {tgt : Nat} (hd : decode cc pc = .ok (.if_icmp .ge off, 3)) (ht : (pc : Int) + off = (tgt : Int)) (hc : ¬ y ≤ x) (kf : PF p l e R s m args below meth c nL G cells slots Qf (pc + 3) lv st h o) : PF p l e R s m args below meth c nL G cells slots Qf pc lv (.int y :: .int x :: st) h o :=
  fun a ha H locs ls hl hI => lv_icmp_ge cx.1 cx.2.1 hd ht (fun q => absurd q hc) (fun _ => kf a ha H locs ls hl hI)
theorem M2.f_if_gt_t (cx : CX p s m args c cc nL own G) {x : Int32} {off : Int} {tgt : Nat} (hd : decode cc pc = .ok (.ifCond .gt off, 3)) (ht : (pc : Int) + off = (tgt : Int)) (hc : 0 < x) (kt : PF p l e R s m args below meth c nL G cells slots Qf tgt lv st h o) : PF p l e R s m args below meth c nL G cells slots Qf pc lv (.int x :: st) h o :=
  fun a ha H locs ls hl hI => lv_if_gt cx.1 cx.2.1 hd ht (fun _ => kt a ha H locs ls hl hI) (fun q => absurd hc q)
theorem M2.f_if_gt_f (cx : CX p s m args c cc nL own G) {x : Int32} {off : Int} {tgt : Nat} (hd : decode cc pc = .ok (.ifCond .gt off, 3)) (ht : (pc : Int) + off = (tgt : Int)) (hc : ¬ 0 < x) (kf : PF p l e R s m args below meth c nL G cells slots Qf (pc + 3) lv st h o) : PF p l e R s m args below meth c nL G cells slots Qf pc lv (.int x :: st) h o :=
  fun a ha H locs ls hl hI => lv_if_gt cx.1 cx.2.1 hd ht (fun q => absurd q hc) (fun _ => kf a ha H locs ls hl hI)
theorem M2.f_icmp_gt_t (cx : CX p s m args c cc nL own G) {x y : Int32} {off : Int} {tgt : Nat} (hd : decode cc pc = .ok (.if_icmp .gt off, 3)) (ht : (pc : Int) + off = (tgt : Int)) (hc : y < x) (kt : PF p l e R s m args below meth c nL G cells slots Qf tgt lv st h o) : PF p l e R s m args below meth c nL G cells slots Qf pc lv (.int y :: .int x :: st) h o :=
  fun a ha H locs ls hl hI => lv_icmp_gt cx.1 cx.2.1 hd ht (fun _ => kt a ha H locs ls hl hI) (fun q => absurd hc q)
theorem M2.f_icmp_gt_f (cx : CX p s m args c cc nL own G) {x y : Int32} {off : Int} {tgt : Nat} (hd : decode cc pc = .ok (.if_icmp .gt off, 3)) (ht : (pc : Int) + off = (tgt : Int)) (hc : ¬ y < x) (kf : PF p l e R s m args below meth c nL G cells slots Qf (pc + 3) lv st h o) : PF p l e R s m args below meth c nL G cells slots Qf pc lv (.int y :: .int x :: st) h o :=
  fun a ha H locs ls hl hI => lv_icmp_gt cx.1 cx.2.1 hd ht (fun q => absurd q hc) (fun _ => kf a ha H locs ls hl hI)
theorem M2.f_if_le_t (cx : CX p s m args c cc nL own G) {x : Int32} {off : Int} {tgt : Nat} (hd : decode cc pc = .ok (.ifCond .le off, 3)) (ht : (pc : Int) + off = (tgt : Int)) (hc : x ≤ 0) (kt : PF p l e R s m args below meth c nL G cells slots Qf tgt lv st h o) : PF p l e R s m args below meth c nL G cells slots Qf pc lv (.int x :: st) h o :=
  fun a ha H locs ls hl hI => lv_if_le cx.1 cx.2.1 hd ht (fun _ => kt a ha H locs ls hl hI) (fun q => absurd hc q)
theorem M2.f_if_le_f (cx : CX p s m args c cc nL own G) {x : Int32} {off : Int} {tgt : Nat} (hd : decode cc pc = .ok (.ifCond .le off, 3)) (ht : (pc : Int) + off = (tgt : Int)) (hc : ¬ x ≤ 0) (kf : PF p l e R s m args below meth c nL G cells slots Qf (pc + 3) lv st h o) : PF p l e R s m args below meth c nL G cells slots Qf pc lv (.int x :: st) h o :=
  fun a ha H locs ls hl hI => lv_if_le cx.1 cx.2.1 hd ht (fun q => absurd q hc) (fun _ => kf a ha H locs ls hl hI)
theorem M2.f_icmp_le_t (cx : CX p s m args c cc nL own G) {x y : Int32} {off : Int} {tgt : Nat} (hd : decode cc pc = .ok (.if_icmp .le off, 3)) (ht : (pc : Int) + off = (tgt : Int)) (hc : x ≤ y) (kt : PF p l e R s m args below meth c nL G cells slots Qf tgt lv st h o) : PF p l e R s m args below meth c nL G cells slots Qf pc lv (.int y :: .int x :: st) h o :=
  fun a ha H locs ls hl hI => lv_icmp_le cx.1 cx.2.1 hd ht (fun _ => kt a ha H locs ls hl hI) (fun q => absurd hc q)
theorem M2.f_icmp_le_f (cx : CX p s m args c cc nL own G) {x y : Int32} {off : Int} {tgt : Nat} (hd : decode cc pc = .ok (.if_icmp .le off, 3)) (ht : (pc : Int) + off = (tgt : Int)) (hc : ¬ x ≤ y) (kf : PF p l e R s m args below meth c nL G cells slots Qf (pc + 3) lv st h o) : PF p l e R s m args below meth c nL G cells slots Qf pc lv (.int y :: .int x :: st) h o :=
  fun a ha H locs ls hl hI => lv_icmp_le cx.1 cx.2.1 hd ht (fun q => absurd q hc) (fun _ => kf a ha H locs ls hl hI)
theorem M2.f_if_ne_t (cx : CX p s m args c cc nL own G) {x : Int32} {off : Int} {tgt : Nat} (hd : decode cc pc = .ok (.ifCond .ne off, 3)) (ht : (pc : Int) + off = (tgt : Int)) (hc : ¬ x = 0) (kt : PF p l e R s m args below meth c nL G cells slots Qf tgt lv st h o) : PF p l e R s m args below meth c nL G cells slots Qf pc lv (.int x :: st) h o :=
  fun a ha H locs ls hl hI => lv_if_ne cx.1 cx.2.1 hd ht (fun _ => kt a ha H locs ls hl hI) (fun q => absurd q hc)
theorem M2.f_if_ne_f (cx : CX p s m args c cc nL own G) {x : Int32} {off : Int} {tgt : Nat} (hd : decode cc pc = .ok (.ifCond .ne off, 3)) (ht : (pc : Int) + off = (tgt : Int)) (hc : x = 0) (kf : PF p l e R s m args below meth c nL G cells slots Qf (pc + 3) lv st h o) : PF p l e R s m args below meth c nL G cells slots Qf pc lv (.int x :: st) h o :=
  fun a ha H locs ls hl hI => lv_if_ne cx.1 cx.2.1 hd ht (fun q => absurd hc q) (fun _ => kf a ha H locs ls hl hI)
theorem M2.f_icmp_ne_t (cx : CX p s m args c cc nL own G) {x y : Int32} {off : Int} {tgt : Nat} (hd : decode cc pc = .ok (.if_icmp .ne off, 3)) (ht : (pc : Int) + off = (tgt : Int)) (hc : ¬ x = y) (kt : PF p l e R s m args below meth c nL G cells slots Qf tgt lv st h o) : PF p l e R s m args below meth c nL G cells slots Qf pc lv (.int y :: .int x :: st) h o :=
  fun a ha H locs ls hl hI => lv_icmp_ne cx.1 cx.2.1 hd ht (fun _ => kt a ha H locs ls hl hI) (fun q => absurd q hc)
theorem M2.f_icmp_ne_f (cx : CX p s m args c cc nL own G) {x y : Int32} {off : Int} {tgt : Nat} (hd : decode cc pc = .ok (.if_icmp .ne off, 3)) (ht : (pc : Int) + off = (tgt : Int)) (hc : x = y) (kf : PF p l e R s m args below meth c nL G cells slots Qf (pc + 3) lv st h o) : PF p l e R s m args below meth c nL G cells slots Qf pc lv (.int y :: .int x :: st) h o :=
  fun a ha H locs ls hl hI => lv_icmp_ne cx.1 cx.2.1 hd ht (fun q => absurd hc q) (fun _ => kf a ha H locs ls hl hI)
theorem M2.f_tin (cx : CX p s m args c cc nL own G) {d lo hi : Int} {offs : Array Int} {len : Nat} {x : Int32} {off : Int} {tgt : Nat} (hd : decode cc pc = .ok (.tableswitch d lo hi offs, len)) (h1 : ¬ x.toInt < lo) (h2 : ¬ hi < x.toInt) (ho : offs[(x.toInt - lo).toNat]? = some off) (ht : (pc : Int) + off = (tgt : Int)) (k : PF p l e R s m args below meth c nL G cells slots Qf tgt lv st h o) : PF p l e R s m args below meth c nL G cells slots Qf pc lv (.int x :: st) h o :=
  fun a ha H locs ls hl hI => lv_tableIn cx.1 cx.2.1 hd h1 h2 ho ht (k a ha H locs ls hl hI)
theorem M2.f_tout (cx : CX p s m args c cc nL own G) {d hi : Int} {offs : Array Int} {len N : Nat} {x : Int32} {tgt : Nat} (hd : decode cc pc = .ok (.tableswitch d 0 hi offs, len)) (hN : hi + 1 = (N : Int)) (hN2 : N < 2 ^ 31) (hne : ∀ j, j < N → ¬ x = nI j) (ht : (pc : Int) + d = (tgt : Int)) (k : PF p l e R s m args below meth c nL G cells slots Qf tgt lv st h o) : PF p l e R s m args below meth c nL G cells slots Qf pc lv (.int x :: st) h o := by
  intro a ha H locs ls hl hI
  refine lv_tableOut cx.1 cx.2.1 hd ?_ ht (k a ha H locs ls hl hI)
  by_cases h0 : x.toInt < 0
  · exact Or.inl h0
  · refine Or.inr (Int.lt_of_not_ge fun hle => ?_)
    have hx : ¬ x < 0 := fun q => h0 (by simpa using Int32.lt_iff_toInt_lt.mp q)
    obtain ⟨j, hj, rfl⟩ := nI_of hx
    rw [nI_toInt hj] at hle
    exact hne j (by omega) rfl
/-- one case of a switch: the value is that number -/
theorem M2.f_case {x v : Int32} {i : Decidable (x = v)} {A B : Option α} (kt : PF p l e R s m args below meth c nL G cells slots Qf pc lv (.int v :: st) h A) (kf : ¬ x = v → PF p l e R s m args below meth c nL G cells slots Qf pc lv (.int x :: st) h B) : PF p l e R s m args below meth c nL G cells slots Qf pc lv (.int x :: st) h (@ite _ (x = v) i A B) := by
  by_cases hc : x = v
  · rw [if_pos hc, hc]
    exact kt
  · rw [if_neg hc]
    exact kf hc
/-! fields -/
theorem M2.f_get (cx : CX p s m args c cc nL own G) {ref C : String} {T : u_T} {N ci i k ob : Nat} {v : Value} (hk : kd ob = ci) (hci : ci < 20) (hc : vwCl[ci]? = some (C, T, N)) (hin : ∀ w ∈ u_ws C T N, w ∈ lw_tbl ∧ okw w = true) (hkN : k < N) (hv : (flds G h ob ci)[k]? = some v) (hw : Cond.fieldLink own i ref (T k).2.1 (T k).2.2.1 ∈ lw_tbl) (hr : ref = (T k).1) (hd : decode cc pc = .ok (.getfield i, 3)) (kk : PF p l e R s m args below meth c nL G cells slots Qf (pc + 3) lv (v :: st) h o) : PF p l e R s m args below meth c nL G cells slots Qf pc lv (.ref (gad G ob) :: st) h o := by
  intro a ha H locs ls hl hI
  obtain ⟨q, hq⟩ := ob_at hk (by omega)
  have he : (wd G h)[q]? = some (gad G ob, .inr (ci, flds G h ob ci)) := by rw [wd_at hq, ce_o hk hci]
  exact va_get (Ts := u_ws C T N) cx.1 cx.2.1 (fun w hw => cx.2.2.2.2.1.use (hin w hw).1 (hin w hw).2 _) (fun _ z => z) cx.2.2.2.1 cx.2.2.2.2.2.1 hI.1 q he hc k hkN (cx.2.2.2.2.1.use hw rfl _) (fun x hx => by rw [hr]; exact hx) hv hd (kk a ha H locs ls hl hI)
theorem M2.f_getN (cx : CX p s m args c cc nL own G) {ref C host : String} {T : u_T} {N ci i k ob : Nat} {v : Value} (hk : kd ob = ci) (hci : ci < 20) (hc : vwCl[ci]? = some (C, T, N)) (hin : ∀ w ∈ u_ws C T N, w ∈ lw_tbl ∧ okw w = true) (hkN : k < N) (hv : (flds G h ob ci)[k]? = some v) (hw : Cond.fieldLinkNest own i ref (T k).2.1 (T k).2.2.1 host ∈ lw_tbl) (hr : ref = (T k).1) (hd : decode cc pc = .ok (.getfield i, 3)) (kk : PF p l e R s m args below meth c nL G cells slots Qf (pc + 3) lv (v :: st) h o) : PF p l e R s m args below meth c nL G cells slots Qf pc lv (.ref (gad G ob) :: st) h o := by
  intro a ha H locs ls hl hI
  obtain ⟨q, hq⟩ := ob_at hk (by omega)
  have he : (wd G h)[q]? = some (gad G ob, .inr (ci, flds G h ob ci)) := by rw [wd_at hq, ce_o hk hci]
  exact va_getN (Ts := u_ws C T N) cx.1 cx.2.1 (fun w hw => cx.2.2.2.2.1.use (hin w hw).1 (hin w hw).2 _) (fun _ z => z) cx.2.2.2.1 cx.2.2.2.2.2.1 hI.1 q he hc k hkN (cx.2.2.2.2.1.use hw rfl _) (fun x hx => by rw [hr]; exact hx) hv hd (kk a ha H locs ls hl hI)
theorem M2.f_put (cx : CX p s m args c cc nL own G) {ref C : String} {T : u_T} {N ci i k ob : Nat} {ty : FieldType} {ty0 : Nat → FieldType} {v : Int32} (hk : kd ob = ci) (hci : ci < 20) (hc : vwCl[ci]? = some (C, T, N)) (hin : ∀ w ∈ u_ws C T N, w ∈ lw_tbl ∧ okw w = true) (hty : ∀ k, k < N → parseFieldDescriptor (T k).2.2.1 = some (ty0 k)) (hnm : ∀ a, a < N → ∀ b, b < N → a ≠ b → (T a).2.1 ≠ (T b).2.1) (hkN : k < N) (hset : flds G (hp h ob k v) ob ci = (flds G h ob ci).set k (.int v)) (hlen : k < (flds G h ob ci).length) (hw : Cond.fieldLink own i ref (T k).2.1 (T k).2.2.1 ∈ lw_tbl) (hr : ref = (T k).1) (hfin : (T k).2.2.2 = false) (hdd : parseFieldDescriptor (T k).2.2.1 = some ty) (hn : narrow ty (.int v) = .int v) (hf : fits ty (.int v) = true) (hd : decode cc pc = .ok (.putfield i, 3)) (kk : PF p l e R s m args below meth c nL G cells slots Qf (pc + 3) lv st (hp h ob k v) o) : PF p l e R s m args below meth c nL G cells slots Qf pc lv (.int v :: .ref (gad G ob) :: st) h o := by
  intro a ha H locs ls hl hI
  obtain ⟨q, hq⟩ := ob_at hk (by omega)
  have he : (wd G h)[q]? = some (gad G ob, .inr (ci, flds G h ob ci)) := by rw [wd_at hq, ce_o hk hci]
  refine va_put (Ts := u_ws C T N) cx.1 cx.2.1 (fun w hw => cx.2.2.2.2.1.use (hin w hw).1 (hin w hw).2 _) (fun _ z => z) ty0 hty hnm cx.2.2.2.1 cx.2.2.2.2.2.1 hI.1 hI.2.1 hI.2.2 q he hc k hkN (cx.2.2.2.2.1.use hw rfl _) (fun x hx => by rw [hr]; exact hx) hfin hdd hn hf hlen hd (fun H1 locs1 hP hD hS => ?_)
  have e1 : (wd G h).set q (gad G ob, .inr (ci, (flds G h ob ci).set k (.int v))) = wd G (hp h ob k v) := wd_set hq (by rw [ce_o hk hci, hset]) (fun o' ho' => hp_n ho')
  rw [e1] at hP hD
  exact kk a ha H1 locs1 ls hl ⟨hP, hD, hS⟩
theorem M2.f_putN (cx : CX p s m args c cc nL own G) {ref C host : String} {T : u_T} {N ci i k ob : Nat} {ty : FieldType} {ty0 : Nat → FieldType} {v : Int32} (hk : kd ob = ci) (hci : ci < 20) (hc : vwCl[ci]? = some (C, T, N)) (hin : ∀ w ∈ u_ws C T N, w ∈ lw_tbl ∧ okw w = true) (hty : ∀ k, k < N → parseFieldDescriptor (T k).2.2.1 = some (ty0 k)) (hnm : ∀ a, a < N → ∀ b, b < N → a ≠ b → (T a).2.1 ≠ (T b).2.1) (hkN : k < N) (hset : flds G (hp h ob k v) ob ci = (flds G h ob ci).set k (.int v)) (hlen : k < (flds G h ob ci).length) (hw : Cond.fieldLinkNest own i ref (T k).2.1 (T k).2.2.1 host ∈ lw_tbl) (hr : ref = (T k).1) (hfin : (T k).2.2.2 = false) (hdd : parseFieldDescriptor (T k).2.2.1 = some ty) (hn : narrow ty (.int v) = .int v) (hf : fits ty (.int v) = true) (hd : decode cc pc = .ok (.putfield i, 3)) (kk : PF p l e R s m args below meth c nL G cells slots Qf (pc + 3) lv st (hp h ob k v) o) : PF p l e R s m args below meth c nL G cells slots Qf pc lv (.int v :: .ref (gad G ob) :: st) h o := by
  intro a ha H locs ls hl hI
  obtain ⟨q, hq⟩ := ob_at hk (by omega)
  have he : (wd G h)[q]? = some (gad G ob, .inr (ci, flds G h ob ci)) := by rw [wd_at hq, ce_o hk hci]
  refine va_putN (Ts := u_ws C T N) cx.1 cx.2.1 (fun w hw => cx.2.2.2.2.1.use (hin w hw).1 (hin w hw).2 _) (fun _ z => z) ty0 hty hnm cx.2.2.2.1 cx.2.2.2.2.2.1 hI.1 hI.2.1 hI.2.2 q he hc k hkN (cx.2.2.2.2.1.use hw rfl _) (fun x hx => by rw [hr]; exact hx) hfin hdd hn hf hlen hd (fun H1 locs1 hP hD hS => ?_)
  have e1 : (wd G h).set q (gad G ob, .inr (ci, (flds G h ob ci).set k (.int v))) = wd G (hp h ob k v) := wd_set hq (by rw [ce_o hk hci, hset]) (fun o' ho' => hp_n ho')
  rw [e1] at hP hD
  exact kk a ha H1 locs1 ls hl ⟨hP, hD, hS⟩
/-! arrays: an index in range, or the pure row has no answer -/
theorem M2.f_iald (cx : CX p s m args c cc nL own G) {ob n : Nat} {i : Int32} (hk : kd ob = 10000 + n) (hn : n < 10000) (hi : ib i n) (hd : decode cc pc = .ok (.iaload, 1)) (k : PF p l e R s m args below meth c nL G cells slots Qf (pc + 1) lv (.int (h ob i.toNatClampNeg) :: st) h o) : PF p l e R s m args below meth c nL G cells slots Qf pc lv (.int i :: .ref (gad G ob) :: st) h o := by
  intro a ha H locs ls hl hI
  obtain ⟨q, hq⟩ := ob_at hk (by omega)
  have he : (wd G h)[q]? = some (gad G ob, .inl (gca G 0, n, .inl (h ob))) := by rw [wd_at hq, ce_i hk hn]
  exact va_iald cx.1 cx.2.1 cx.2.2.2.2.2.1 hI.1 q 0 he rfl hi hd (k a ha H locs ls hl hI)
theorem M2.f_zald (cx : CX p s m args c cc nL own G) {ob n : Nat} {i : Int32} (hk : kd ob = 20000 + n) (hn : n < 10000) (hi : ib i n) (hd : decode cc pc = .ok (.baload, 1)) (k : PF p l e R s m args below meth c nL G cells slots Qf (pc + 1) lv (.int (h ob i.toNatClampNeg) :: st) h o) : PF p l e R s m args below meth c nL G cells slots Qf pc lv (.int i :: .ref (gad G ob) :: st) h o := by
  intro a ha H locs ls hl hI
  obtain ⟨q, hq⟩ := ob_at hk (by omega)
  have he : (wd G h)[q]? = some (gad G ob, .inl (gca G 1, n, .inl (h ob))) := by rw [wd_at hq, ce_z hk]
  exact va_zald cx.1 cx.2.1 cx.2.2.2.2.2.1 hI.1 q 1 he rfl hi hd (k a ha H locs ls hl hI)
theorem M2.f_iast (cx : CX p s m args c cc nL own G) {ob n : Nat} {i x : Int32} (hk : kd ob = 10000 + n) (hn : n < 10000) (hi : ib i n) (hd : decode cc pc = .ok (.iastore, 1)) (k : PF p l e R s m args below meth c nL G cells slots Qf (pc + 1) lv st (hp h ob i.toNatClampNeg x) o) : PF p l e R s m args below meth c nL G cells slots Qf pc lv (.int x :: .int i :: .ref (gad G ob) :: st) h o := by
  intro a ha H locs ls hl hI
  obtain ⟨q, hq⟩ := ob_at hk (by omega)
  have he : (wd G h)[q]? = some (gad G ob, .inl (gca G 0, n, .inl (h ob))) := by rw [wd_at hq, ce_i hk hn]
  refine va_iast cx.1 cx.2.1 cx.2.2.2.2.2.1 hI.1 hI.2.1 hI.2.2 q 0 he rfl hi hd (fun H1 locs1 hP hD hS => ?_)
  have e1 : (wd G h).set q (gad G ob, .inl (gca G 0, n, .inl (upd (h ob) i.toNatClampNeg x))) = wd G (hp h ob i.toNatClampNeg x) := wd_set hq (by rw [ce_i hk hn, hp_o]) (fun o' ho' => hp_n ho')
  rw [e1] at hP hD
  exact k a ha H1 locs1 ls hl ⟨hP, hD, hS⟩
theorem M2.f_zast (cx : CX p s m args c cc nL own G) {ob n : Nat} {i x : Int32} (hk : kd ob = 20000 + n) (hn : n < 10000) (hi : ib i n) (hx : vp_nar .boolean x = x) (hd : decode cc pc = .ok (.bastore, 1)) (k : PF p l e R s m args below meth c nL G cells slots Qf (pc + 1) lv st (hp h ob i.toNatClampNeg x) o) : PF p l e R s m args below meth c nL G cells slots Qf pc lv (.int x :: .int i :: .ref (gad G ob) :: st) h o := by
  intro a ha H locs ls hl hI
  obtain ⟨q, hq⟩ := ob_at hk (by omega)
  have he : (wd G h)[q]? = some (gad G ob, .inl (gca G 1, n, .inl (h ob))) := by rw [wd_at hq, ce_z hk]
  refine va_zast cx.1 cx.2.1 cx.2.2.2.2.2.1 hI.1 hI.2.1 hI.2.2 q 1 he rfl hi hd (fun H1 locs1 hP hD hS => ?_)
  rw [hx] at hP hD
  have e1 : (wd G h).set q (gad G ob, .inl (gca G 1, n, .inl (upd (h ob) i.toNatClampNeg x))) = wd G (hp h ob i.toNatClampNeg x) := wd_set hq (by rw [ce_z hk, hp_o]) (fun o' ho' => hp_n ho')
  rw [e1] at hP hD
  exact k a ha H1 locs1 ls hl ⟨hP, hD, hS⟩
/-! static tables -/
/-! Math -/
/-! calls -/
theorem M2.f_back {ls : Array Slot} {H : Heap} {locs : List Loc} {st0 : List Value} {r : Option Value} {h1 : Hp} {A : Array Value} (hI : IV G s h H locs) (hl : LV ls nL lv) (hr : va_Run p l e R s m args below meth c H locs cells slots 0 0 (F0 m pc ls st0) st (CtQ G r h1 H.size A) (AG G H.size)) {a : α} (ha : o = some a) (k : PF p l e R s m args below meth c nL G cells slots Qf (pc + 3) lv (r.toList ++ st) h1 o) : W p l e R s m args below meth c H locs cells slots (Qf a) (F0 m pc ls st0) := by
  intro T hT X
  obtain ⟨v, st₀, t, T1, L, h0, X1, hL, e1, e2, ⟨hv, hP, hD, hz, hk⟩, stp⟩ := hr T hT X
  cases hv
  rw [h0] at hz hk
  obtain ⟨t2, a1, b1⟩ := k a ha T1.heap (locs ++ L) ls hl ⟨by rw [e1]; exact hP, wd_D _ hD, Nat.le_trans hI.2.2.1 (by rw [e1]; exact hz), fun q g1 g2 => by
      rw [e1, hk q (Nat.lt_of_lt_of_le g1 hI.2.2.1) (fun z => g2 (AG.le hI.2.2.1 z))]
      exact hI.2.2.2.1 q g1 g2, fun q hq => by
      rcases List.mem_append.mp hq with g | g
      · exact hI.2.2.2.2 q g
      · exact AG.le hI.2.2.1 (hL q g)⟩ T1 rfl X1
  exact ⟨t2, stp t2 a1, b1⟩
theorem M2.f_bind {β : Type} {po : Option β} {K : β → Option α} (k : ∀ x, po = some x → PF p l e R s m args below meth c nL G cells slots Qf pc lv st h (K x)) : PF p l e R s m args below meth c nL G cells slots Qf pc lv st h (Option.bind po K) := by
  cases hp : po with
  | none => exact f_none
  | some x => exact k x hp
theorem M2.f_cv (cx : CX p s m args c cc nL own G) {y : MethodName} {bytes : ByteArray} {maxL f n i ob ci N : Nat} {ret : Option FieldType} {C : String} {T : u_T} (As : List Value) {r : Option Value} {h1 : Hp} (hM : Ct l G y bytes maxL ret f n (.ref (gad G ob) :: As) h r h1) (hk : kd ob = ci) (hci : ci < 20) (hc : vwCl[ci]? = some (C, T, N)) (w1 : Cond.methodLink own i y ∈ lw_tbl) (w2 : Cond.instanceMethod y ∈ lw_tbl) (w3 : Cond.selects C y y ∈ lw_tbl) (w4 : Cond.initialized y.cls ∈ lw_tbl) (w5 : Cond.code y bytes maxL ret ∈ lw_tbl) (hy : y.cls ≠ "java/lang/invoke/MethodHandle" ∧ y.cls ≠ "java/lang/invoke/VarHandle") (hn : (parseMethodDescriptor y.desc).map (fun d => d.parameters.length) = some As.length) (hR : f + 1 ≤ R.frames ∧ 8 + (maxL + 11) + n ≤ R.locals) (hcs : cells ≤ R.cells ∧ slots ≤ R.slots) (hW : (st.map fun v => v.category).sum ≤ 8) (hd : decode cc pc = .ok (.invokevirtual i, 3)) (k : PF p l e R s m args below meth c nL G cells slots Qf (pc + 3) lv (r.toList ++ st) h1 o) : PF p l e R s m args below meth c nL G cells slots Qf pc lv (As.reverse ++ .ref (gad G ob) :: st) h o := by
  intro a ha H locs ls hl hI
  obtain ⟨q, hq⟩ := ob_at hk (by omega)
  have he : (wd G h)[q]? = some (gad G ob, .inr (ci, flds G h ob ci)) := by rw [wd_at hq, ce_o hk hci]
  have g := cx.2.2.2.2.1
  refine f_back hI hl (va_runV (Ts := []) (C := C) (As := As) (rest := st) (bytes := bytes) (maxL := maxL) (ret := ret) ⟨cx.1, cx.2.1, cx.2.2.1, cx.2.2.2.1, fun w hw => by cases hw⟩ (hM H.size) ⟨⟨rfl, rfl, hR.1, hR.2, fun w hw a1 U hU => ?_, List.mem_cons_self, g.use w5 rfl _, g.use w4 rfl _, hy, fun sig hs => ?_, g.use w1 rfl _⟩, g.use w2 rfl _, g.use w3 rfl _⟩ ⟨Pre.blind, va_recv cx.2.2.2.2.2.1 hI.1 hc he, fun U hU hW => ⟨rfl, Pre.of cx hI hU hW⟩⟩ rfl rfl hl.1 rfl (lv_room hW) hd hcs) ha k
  · rw [List.mem_singleton.mp hw]
    exact okw_at rfl hU (g.use w5 rfl #[])
  · rw [hs] at hn
    exact (Option.some.inj hn).symm
theorem M2.f_cs (cx : CX p s m args c cc nL own G) {y : MethodName} {bytes : ByteArray} {maxL f n i : Nat} {ret : Option FieldType} (As : List Value) {r : Option Value} {h1 : Hp} (hM : Ct l G y bytes maxL ret f n As h r h1) (w1 : Cond.methodLink own i y ∈ lw_tbl) (w2 : Cond.static y ∈ lw_tbl) (w4 : Cond.initialized y.cls ∈ lw_tbl) (w5 : Cond.code y bytes maxL ret ∈ lw_tbl) (hy : y.cls ≠ "java/lang/invoke/MethodHandle" ∧ y.cls ≠ "java/lang/invoke/VarHandle") (hn : (parseMethodDescriptor y.desc).map (fun d => d.parameters.length) = some As.length) (hR : f + 1 ≤ R.frames ∧ 8 + (maxL + 11) + n ≤ R.locals) (hcs : cells ≤ R.cells ∧ slots ≤ R.slots) (hW : (st.map fun v => v.category).sum ≤ 8) (hd : decode cc pc = .ok (.invokestatic i, 3)) (k : PF p l e R s m args below meth c nL G cells slots Qf (pc + 3) lv (r.toList ++ st) h1 o) : PF p l e R s m args below meth c nL G cells slots Qf pc lv (As.reverse ++ st) h o := by
  intro a ha H locs ls hl hI
  have g := cx.2.2.2.2.1
  refine f_back hI hl (va_runS (Ts := []) (As := As) (rest := st) (bytes := bytes) (maxL := maxL) (ret := ret) ⟨cx.1, cx.2.1, cx.2.2.1, cx.2.2.2.1, fun w hw => by cases hw⟩ (hM H.size) ⟨⟨rfl, rfl, hR.1, hR.2, fun w hw a1 U hU => ?_, List.mem_cons_self, g.use w5 rfl _, g.use w4 rfl _, hy, fun sig hs => ?_, g.use w1 rfl _⟩, g.use w2 rfl _⟩ ⟨Pre.blind, fun U hU hW => ⟨rfl, Pre.of cx hI hU hW⟩⟩ rfl rfl hl.1 rfl (lv_room hW) hd hcs) ha k
  · rw [List.mem_singleton.mp hw]
    exact okw_at rfl hU (g.use w5 rfl #[])
  · rw [hs] at hn
    exact (Option.some.inj hn).symm
theorem M2.f_csN (cx : CX p s m args c cc nL own G) {y : MethodName} {bytes : ByteArray} {maxL f n i : Nat} {ret : Option FieldType} (As : List Value) {r : Option Value} {h1 : Hp} (hM : Ct l G y bytes maxL ret f n As h r h1) (w1 : Cond.methodLinkNest own i y "QueueKeeper" ∈ lw_tbl) (w2 : Cond.static y ∈ lw_tbl) (w4 : Cond.initialized y.cls ∈ lw_tbl) (w5 : Cond.code y bytes maxL ret ∈ lw_tbl) (hy : y.cls ≠ "java/lang/invoke/MethodHandle" ∧ y.cls ≠ "java/lang/invoke/VarHandle") (hn : (parseMethodDescriptor y.desc).map (fun d => d.parameters.length) = some As.length) (hR : f + 1 ≤ R.frames ∧ 8 + (maxL + 11) + n ≤ R.locals) (hcs : cells ≤ R.cells ∧ slots ≤ R.slots) (hW : (st.map fun v => v.category).sum ≤ 8) (hd : decode cc pc = .ok (.invokestatic i, 3)) (k : PF p l e R s m args below meth c nL G cells slots Qf (pc + 3) lv (r.toList ++ st) h1 o) : PF p l e R s m args below meth c nL G cells slots Qf pc lv (As.reverse ++ st) h o := by
  intro a ha H locs ls hl hI
  have g := cx.2.2.2.2.1
  refine f_back hI hl (va_runSN (Ts := []) (As := As) (rest := st) (host := "QueueKeeper") (bytes := bytes) (maxL := maxL) (ret := ret) ⟨cx.1, cx.2.1, cx.2.2.1, cx.2.2.2.1, fun w hw => by cases hw⟩ (hM H.size) ⟨⟨⟨rfl, rfl, hR.1, hR.2, fun w hw a1 U hU => ?_, List.mem_cons_self⟩, g.use w5 rfl _, g.use w4 rfl _, hy, fun sig hs => ?_, g.use w1 rfl _⟩, g.use w2 rfl _, trivial⟩ ⟨Pre.blind, fun U hU hW => ⟨rfl, Pre.of cx hI hU hW⟩⟩ rfl rfl hl.1 rfl (lv_room hW) hd hcs) ha k
  · rw [List.mem_singleton.mp hw]
    exact okw_at rfl hU (g.use w5 rfl #[])
  · rw [hs] at hn
    exact (Option.some.inj hn).symm
/-! answers -/
theorem M2.f_iret (cx : CX p s m args c cc nL own G) {ty : FieldType} (hr : meth.sig.returnType = some ty) (hlk : meth.locks = false) {v : Int32} (hn : narrow ty (.int v) = .int v) (hd : decode cc pc = .ok (.ireturn, 1)) : PF p l e R s m args below meth c nL G 0 0 (fun a : Int32 × Hp => MQ below (CtQ G (some (.int a.1)) a.2 s.heap.size) args s 0 0 (AG G s.heap.size)) pc lv [.int v] h (some (v, h)) := by
  intro a ha H locs ls hl hI
  cases ha
  exact W.zret cx.1 cx.2.1 hr hn (fun t ht hW => ⟨rfl, by rw [ht]; exact hI.1, hI.2.1.weaken (fun _ _ _ _ => trivial), hI.2.2.F ht⟩) hI.2.2.2.2 hd hlk
theorem M2.f_vret (cx : CX p s m args c cc nL own G) (hr : meth.sig.returnType = none) (hlk : meth.locks = false) (hd : decode cc pc = .ok (.return_, 1)) : PF p l e R s m args below meth c nL G 0 0 (fun a : Hp => MQ below (CtQ G none a s.heap.size) args s 0 0 (AG G s.heap.size)) pc lv [] h (some h) := by
  intro a ha H locs ls hl hI
  cases ha
  exact W.vret cx.1 cx.2.1 hr (fun t ht hW => ⟨rfl, by rw [ht]; exact hI.1, hI.2.1.weaken (fun _ _ _ _ => trivial), hI.2.2.F ht⟩) hI.2.2.2.2 hd hlk
theorem M2.f_cvI0 (cx : CX p s m args c cc nL own G) {y : MethodName} {bytes : ByteArray} {maxL f n i ob ci N : Nat} {ret : Option FieldType} {C : String} {T : u_T} {v : Value} {h1 : Hp} (hM : Ct l G y bytes maxL ret f n (.ref (gad G ob) :: []) h (some v) h1) (hk : kd ob = ci) (hci : ci < 20) (hc : vwCl[ci]? = some (C, T, N)) (w1 : Cond.methodLink own i y ∈ lw_tbl) (w2 : Cond.instanceMethod y ∈ lw_tbl) (w3 : Cond.selects C y y ∈ lw_tbl) (w4 : Cond.initialized y.cls ∈ lw_tbl) (w5 : Cond.code y bytes maxL ret ∈ lw_tbl) (hy : y.cls ≠ "java/lang/invoke/MethodHandle" ∧ y.cls ≠ "java/lang/invoke/VarHandle") (hn : (parseMethodDescriptor y.desc).map (fun d => d.parameters.length) = some 0) (hR : f + 1 ≤ R.frames ∧ 8 + (maxL + 11) + n ≤ R.locals) (hcs : cells ≤ R.cells ∧ slots ≤ R.slots) (hW : (st.map fun v => v.category).sum ≤ 8) (hd : decode cc pc = .ok (.invokevirtual i, 3)) (k : PF p l e R s m args below meth c nL G cells slots Qf (pc + 3) lv (v :: st) h1 o) : PF p l e R s m args below meth c nL G cells slots Qf pc lv (.ref (gad G ob) :: st) h o := f_cv cx [] hM hk hci hc w1 w2 w3 w4 w5 hy hn hR hcs hW hd k
theorem M2.f_csI0 (cx : CX p s m args c cc nL own G) {y : MethodName} {bytes : ByteArray} {maxL f n i : Nat} {ret : Option FieldType} {v : Value} {h1 : Hp} (hM : Ct l G y bytes maxL ret f n [] h (some v) h1) (w1 : Cond.methodLink own i y ∈ lw_tbl) (w2 : Cond.static y ∈ lw_tbl) (w4 : Cond.initialized y.cls ∈ lw_tbl) (w5 : Cond.code y bytes maxL ret ∈ lw_tbl) (hy : y.cls ≠ "java/lang/invoke/MethodHandle" ∧ y.cls ≠ "java/lang/invoke/VarHandle") (hn : (parseMethodDescriptor y.desc).map (fun d => d.parameters.length) = some 0) (hR : f + 1 ≤ R.frames ∧ 8 + (maxL + 11) + n ≤ R.locals) (hcs : cells ≤ R.cells ∧ slots ≤ R.slots) (hW : (st.map fun v => v.category).sum ≤ 8) (hd : decode cc pc = .ok (.invokestatic i, 3)) (k : PF p l e R s m args below meth c nL G cells slots Qf (pc + 3) lv (v :: st) h1 o) : PF p l e R s m args below meth c nL G cells slots Qf pc lv (st) h o := f_cs cx [] hM w1 w2 w4 w5 hy hn hR hcs hW hd k
theorem M2.f_cnI0 (cx : CX p s m args c cc nL own G) {y : MethodName} {bytes : ByteArray} {maxL f n i : Nat} {ret : Option FieldType} {v : Value} {h1 : Hp} (hM : Ct l G y bytes maxL ret f n [] h (some v) h1) (w1 : Cond.methodLinkNest own i y "QueueKeeper" ∈ lw_tbl) (w2 : Cond.static y ∈ lw_tbl) (w4 : Cond.initialized y.cls ∈ lw_tbl) (w5 : Cond.code y bytes maxL ret ∈ lw_tbl) (hy : y.cls ≠ "java/lang/invoke/MethodHandle" ∧ y.cls ≠ "java/lang/invoke/VarHandle") (hn : (parseMethodDescriptor y.desc).map (fun d => d.parameters.length) = some 0) (hR : f + 1 ≤ R.frames ∧ 8 + (maxL + 11) + n ≤ R.locals) (hcs : cells ≤ R.cells ∧ slots ≤ R.slots) (hW : (st.map fun v => v.category).sum ≤ 8) (hd : decode cc pc = .ok (.invokestatic i, 3)) (k : PF p l e R s m args below meth c nL G cells slots Qf (pc + 3) lv (v :: st) h1 o) : PF p l e R s m args below meth c nL G cells slots Qf pc lv (st) h o := f_csN cx [] hM w1 w2 w4 w5 hy hn hR hcs hW hd k
theorem M2.f_cvV0 (cx : CX p s m args c cc nL own G) {y : MethodName} {bytes : ByteArray} {maxL f n i ob ci N : Nat} {ret : Option FieldType} {C : String} {T : u_T} {h1 : Hp} (hM : Ct l G y bytes maxL ret f n (.ref (gad G ob) :: []) h none h1) (hk : kd ob = ci) (hci : ci < 20) (hc : vwCl[ci]? = some (C, T, N)) (w1 : Cond.methodLink own i y ∈ lw_tbl) (w2 : Cond.instanceMethod y ∈ lw_tbl) (w3 : Cond.selects C y y ∈ lw_tbl) (w4 : Cond.initialized y.cls ∈ lw_tbl) (w5 : Cond.code y bytes maxL ret ∈ lw_tbl) (hy : y.cls ≠ "java/lang/invoke/MethodHandle" ∧ y.cls ≠ "java/lang/invoke/VarHandle") (hn : (parseMethodDescriptor y.desc).map (fun d => d.parameters.length) = some 0) (hR : f + 1 ≤ R.frames ∧ 8 + (maxL + 11) + n ≤ R.locals) (hcs : cells ≤ R.cells ∧ slots ≤ R.slots) (hW : (st.map fun v => v.category).sum ≤ 8) (hd : decode cc pc = .ok (.invokevirtual i, 3)) (k : PF p l e R s m args below meth c nL G cells slots Qf (pc + 3) lv (st) h1 o) : PF p l e R s m args below meth c nL G cells slots Qf pc lv (.ref (gad G ob) :: st) h o := f_cv cx [] hM hk hci hc w1 w2 w3 w4 w5 hy hn hR hcs hW hd k
theorem M2.f_csV0 (cx : CX p s m args c cc nL own G) {y : MethodName} {bytes : ByteArray} {maxL f n i : Nat} {ret : Option FieldType} {h1 : Hp} (hM : Ct l G y bytes maxL ret f n [] h none h1) (w1 : Cond.methodLink own i y ∈ lw_tbl) (w2 : Cond.static y ∈ lw_tbl) (w4 : Cond.initialized y.cls ∈ lw_tbl) (w5 : Cond.code y bytes maxL ret ∈ lw_tbl) (hy : y.cls ≠ "java/lang/invoke/MethodHandle" ∧ y.cls ≠ "java/lang/invoke/VarHandle") (hn : (parseMethodDescriptor y.desc).map (fun d => d.parameters.length) = some 0) (hR : f + 1 ≤ R.frames ∧ 8 + (maxL + 11) + n ≤ R.locals) (hcs : cells ≤ R.cells ∧ slots ≤ R.slots) (hW : (st.map fun v => v.category).sum ≤ 8) (hd : decode cc pc = .ok (.invokestatic i, 3)) (k : PF p l e R s m args below meth c nL G cells slots Qf (pc + 3) lv (st) h1 o) : PF p l e R s m args below meth c nL G cells slots Qf pc lv (st) h o := f_cs cx [] hM w1 w2 w4 w5 hy hn hR hcs hW hd k
theorem M2.f_cnV0 (cx : CX p s m args c cc nL own G) {y : MethodName} {bytes : ByteArray} {maxL f n i : Nat} {ret : Option FieldType} {h1 : Hp} (hM : Ct l G y bytes maxL ret f n [] h none h1) (w1 : Cond.methodLinkNest own i y "QueueKeeper" ∈ lw_tbl) (w2 : Cond.static y ∈ lw_tbl) (w4 : Cond.initialized y.cls ∈ lw_tbl) (w5 : Cond.code y bytes maxL ret ∈ lw_tbl) (hy : y.cls ≠ "java/lang/invoke/MethodHandle" ∧ y.cls ≠ "java/lang/invoke/VarHandle") (hn : (parseMethodDescriptor y.desc).map (fun d => d.parameters.length) = some 0) (hR : f + 1 ≤ R.frames ∧ 8 + (maxL + 11) + n ≤ R.locals) (hcs : cells ≤ R.cells ∧ slots ≤ R.slots) (hW : (st.map fun v => v.category).sum ≤ 8) (hd : decode cc pc = .ok (.invokestatic i, 3)) (k : PF p l e R s m args below meth c nL G cells slots Qf (pc + 3) lv (st) h1 o) : PF p l e R s m args below meth c nL G cells slots Qf pc lv (st) h o := f_csN cx [] hM w1 w2 w4 w5 hy hn hR hcs hW hd k
theorem M2.f_cvI1 (cx : CX p s m args c cc nL own G) {y : MethodName} {bytes : ByteArray} {maxL f n i ob ci N : Nat} {ret : Option FieldType} {C : String} {T : u_T} {a1 : Value} {v : Value} {h1 : Hp} (hM : Ct l G y bytes maxL ret f n (.ref (gad G ob) :: [a1]) h (some v) h1) (hk : kd ob = ci) (hci : ci < 20) (hc : vwCl[ci]? = some (C, T, N)) (w1 : Cond.methodLink own i y ∈ lw_tbl) (w2 : Cond.instanceMethod y ∈ lw_tbl) (w3 : Cond.selects C y y ∈ lw_tbl) (w4 : Cond.initialized y.cls ∈ lw_tbl) (w5 : Cond.code y bytes maxL ret ∈ lw_tbl) (hy : y.cls ≠ "java/lang/invoke/MethodHandle" ∧ y.cls ≠ "java/lang/invoke/VarHandle") (hn : (parseMethodDescriptor y.desc).map (fun d => d.parameters.length) = some 1) (hR : f + 1 ≤ R.frames ∧ 8 + (maxL + 11) + n ≤ R.locals) (hcs : cells ≤ R.cells ∧ slots ≤ R.slots) (hW : (st.map fun v => v.category).sum ≤ 8) (hd : decode cc pc = .ok (.invokevirtual i, 3)) (k : PF p l e R s m args below meth c nL G cells slots Qf (pc + 3) lv (v :: st) h1 o) : PF p l e R s m args below meth c nL G cells slots Qf pc lv (a1 :: .ref (gad G ob) :: st) h o := f_cv cx [a1] hM hk hci hc w1 w2 w3 w4 w5 hy hn hR hcs hW hd k
theorem M2.f_csI1 (cx : CX p s m args c cc nL own G) {y : MethodName} {bytes : ByteArray} {maxL f n i : Nat} {ret : Option FieldType} {a1 : Value} {v : Value} {h1 : Hp} (hM : Ct l G y bytes maxL ret f n [a1] h (some v) h1) (w1 : Cond.methodLink own i y ∈ lw_tbl) (w2 : Cond.static y ∈ lw_tbl) (w4 : Cond.initialized y.cls ∈ lw_tbl) (w5 : Cond.code y bytes maxL ret ∈ lw_tbl) (hy : y.cls ≠ "java/lang/invoke/MethodHandle" ∧ y.cls ≠ "java/lang/invoke/VarHandle") (hn : (parseMethodDescriptor y.desc).map (fun d => d.parameters.length) = some 1) (hR : f + 1 ≤ R.frames ∧ 8 + (maxL + 11) + n ≤ R.locals) (hcs : cells ≤ R.cells ∧ slots ≤ R.slots) (hW : (st.map fun v => v.category).sum ≤ 8) (hd : decode cc pc = .ok (.invokestatic i, 3)) (k : PF p l e R s m args below meth c nL G cells slots Qf (pc + 3) lv (v :: st) h1 o) : PF p l e R s m args below meth c nL G cells slots Qf pc lv (a1 :: st) h o := f_cs cx [a1] hM w1 w2 w4 w5 hy hn hR hcs hW hd k
theorem M2.f_cnI1 (cx : CX p s m args c cc nL own G) {y : MethodName} {bytes : ByteArray} {maxL f n i : Nat} {ret : Option FieldType} {a1 : Value} {v : Value} {h1 : Hp} (hM : Ct l G y bytes maxL ret f n [a1] h (some v) h1) (w1 : Cond.methodLinkNest own i y "QueueKeeper" ∈ lw_tbl) (w2 : Cond.static y ∈ lw_tbl) (w4 : Cond.initialized y.cls ∈ lw_tbl) (w5 : Cond.code y bytes maxL ret ∈ lw_tbl) (hy : y.cls ≠ "java/lang/invoke/MethodHandle" ∧ y.cls ≠ "java/lang/invoke/VarHandle") (hn : (parseMethodDescriptor y.desc).map (fun d => d.parameters.length) = some 1) (hR : f + 1 ≤ R.frames ∧ 8 + (maxL + 11) + n ≤ R.locals) (hcs : cells ≤ R.cells ∧ slots ≤ R.slots) (hW : (st.map fun v => v.category).sum ≤ 8) (hd : decode cc pc = .ok (.invokestatic i, 3)) (k : PF p l e R s m args below meth c nL G cells slots Qf (pc + 3) lv (v :: st) h1 o) : PF p l e R s m args below meth c nL G cells slots Qf pc lv (a1 :: st) h o := f_csN cx [a1] hM w1 w2 w4 w5 hy hn hR hcs hW hd k
theorem M2.f_cvV1 (cx : CX p s m args c cc nL own G) {y : MethodName} {bytes : ByteArray} {maxL f n i ob ci N : Nat} {ret : Option FieldType} {C : String} {T : u_T} {a1 : Value} {h1 : Hp} (hM : Ct l G y bytes maxL ret f n (.ref (gad G ob) :: [a1]) h none h1) (hk : kd ob = ci) (hci : ci < 20) (hc : vwCl[ci]? = some (C, T, N)) (w1 : Cond.methodLink own i y ∈ lw_tbl) (w2 : Cond.instanceMethod y ∈ lw_tbl) (w3 : Cond.selects C y y ∈ lw_tbl) (w4 : Cond.initialized y.cls ∈ lw_tbl) (w5 : Cond.code y bytes maxL ret ∈ lw_tbl) (hy : y.cls ≠ "java/lang/invoke/MethodHandle" ∧ y.cls ≠ "java/lang/invoke/VarHandle") (hn : (parseMethodDescriptor y.desc).map (fun d => d.parameters.length) = some 1) (hR : f + 1 ≤ R.frames ∧ 8 + (maxL + 11) + n ≤ R.locals) (hcs : cells ≤ R.cells ∧ slots ≤ R.slots) (hW : (st.map fun v => v.category).sum ≤ 8) (hd : decode cc pc = .ok (.invokevirtual i, 3)) (k : PF p l e R s m args below meth c nL G cells slots Qf (pc + 3) lv (st) h1 o) : PF p l e R s m args below meth c nL G cells slots Qf pc lv (a1 :: .ref (gad G ob) :: st) h o := f_cv cx [a1] hM hk hci hc w1 w2 w3 w4 w5 hy hn hR hcs hW hd k
theorem M2.f_csV1 (cx : CX p s m args c cc nL own G) {y : MethodName} {bytes : ByteArray} {maxL f n i : Nat} {ret : Option FieldType} {a1 : Value} {h1 : Hp} (hM : Ct l G y bytes maxL ret f n [a1] h none h1) (w1 : Cond.methodLink own i y ∈ lw_tbl) (w2 : Cond.static y ∈ lw_tbl) (w4 : Cond.initialized y.cls ∈ lw_tbl) (w5 : Cond.code y bytes maxL ret ∈ lw_tbl) (hy : y.cls ≠ "java/lang/invoke/MethodHandle" ∧ y.cls ≠ "java/lang/invoke/VarHandle") (hn : (parseMethodDescriptor y.desc).map (fun d => d.parameters.length) = some 1) (hR : f + 1 ≤ R.frames ∧ 8 + (maxL + 11) + n ≤ R.locals) (hcs : cells ≤ R.cells ∧ slots ≤ R.slots) (hW : (st.map fun v => v.category).sum ≤ 8) (hd : decode cc pc = .ok (.invokestatic i, 3)) (k : PF p l e R s m args below meth c nL G cells slots Qf (pc + 3) lv (st) h1 o) : PF p l e R s m args below meth c nL G cells slots Qf pc lv (a1 :: st) h o := f_cs cx [a1] hM w1 w2 w4 w5 hy hn hR hcs hW hd k
theorem M2.f_cnV1 (cx : CX p s m args c cc nL own G) {y : MethodName} {bytes : ByteArray} {maxL f n i : Nat} {ret : Option FieldType} {a1 : Value} {h1 : Hp} (hM : Ct l G y bytes maxL ret f n [a1] h none h1) (w1 : Cond.methodLinkNest own i y "QueueKeeper" ∈ lw_tbl) (w2 : Cond.static y ∈ lw_tbl) (w4 : Cond.initialized y.cls ∈ lw_tbl) (w5 : Cond.code y bytes maxL ret ∈ lw_tbl) (hy : y.cls ≠ "java/lang/invoke/MethodHandle" ∧ y.cls ≠ "java/lang/invoke/VarHandle") (hn : (parseMethodDescriptor y.desc).map (fun d => d.parameters.length) = some 1) (hR : f + 1 ≤ R.frames ∧ 8 + (maxL + 11) + n ≤ R.locals) (hcs : cells ≤ R.cells ∧ slots ≤ R.slots) (hW : (st.map fun v => v.category).sum ≤ 8) (hd : decode cc pc = .ok (.invokestatic i, 3)) (k : PF p l e R s m args below meth c nL G cells slots Qf (pc + 3) lv (st) h1 o) : PF p l e R s m args below meth c nL G cells slots Qf pc lv (a1 :: st) h o := f_csN cx [a1] hM w1 w2 w4 w5 hy hn hR hcs hW hd k
theorem M2.f_cvI2 (cx : CX p s m args c cc nL own G) {y : MethodName} {bytes : ByteArray} {maxL f n i ob ci N : Nat} {ret : Option FieldType} {C : String} {T : u_T} {a1 a2 : Value} {v : Value} {h1 : Hp} (hM : Ct l G y bytes maxL ret f n (.ref (gad G ob) :: [a1, a2]) h (some v) h1) (hk : kd ob = ci) (hci : ci < 20) (hc : vwCl[ci]? = some (C, T, N)) (w1 : Cond.methodLink own i y ∈ lw_tbl) (w2 : Cond.instanceMethod y ∈ lw_tbl) (w3 : Cond.selects C y y ∈ lw_tbl) (w4 : Cond.initialized y.cls ∈ lw_tbl) (w5 : Cond.code y bytes maxL ret ∈ lw_tbl) (hy : y.cls ≠ "java/lang/invoke/MethodHandle" ∧ y.cls ≠ "java/lang/invoke/VarHandle") (hn : (parseMethodDescriptor y.desc).map (fun d => d.parameters.length) = some 2) (hR : f + 1 ≤ R.frames ∧ 8 + (maxL + 11) + n ≤ R.locals) (hcs : cells ≤ R.cells ∧ slots ≤ R.slots) (hW : (st.map fun v => v.category).sum ≤ 8) (hd : decode cc pc = .ok (.invokevirtual i, 3)) (k : PF p l e R s m args below meth c nL G cells slots Qf (pc + 3) lv (v :: st) h1 o) : PF p l e R s m args below meth c nL G cells slots Qf pc lv (a2 :: a1 :: .ref (gad G ob) :: st) h o := f_cv cx [a1, a2] hM hk hci hc w1 w2 w3 w4 w5 hy hn hR hcs hW hd k
theorem M2.f_csI2 (cx : CX p s m args c cc nL own G) {y : MethodName} {bytes : ByteArray} {maxL f n i : Nat} {ret : Option FieldType} {a1 a2 : Value} {v : Value} {h1 : Hp} (hM : Ct l G y bytes maxL ret f n [a1, a2] h (some v) h1) (w1 : Cond.methodLink own i y ∈ lw_tbl) (w2 : Cond.static y ∈ lw_tbl) (w4 : Cond.initialized y.cls ∈ lw_tbl) (w5 : Cond.code y bytes maxL ret ∈ lw_tbl) (hy : y.cls ≠ "java/lang/invoke/MethodHandle" ∧ y.cls ≠ "java/lang/invoke/VarHandle") (hn : (parseMethodDescriptor y.desc).map (fun d => d.parameters.length) = some 2) (hR : f + 1 ≤ R.frames ∧ 8 + (maxL + 11) + n ≤ R.locals) (hcs : cells ≤ R.cells ∧ slots ≤ R.slots) (hW : (st.map fun v => v.category).sum ≤ 8) (hd : decode cc pc = .ok (.invokestatic i, 3)) (k : PF p l e R s m args below meth c nL G cells slots Qf (pc + 3) lv (v :: st) h1 o) : PF p l e R s m args below meth c nL G cells slots Qf pc lv (a2 :: a1 :: st) h o := f_cs cx [a1, a2] hM w1 w2 w4 w5 hy hn hR hcs hW hd k
theorem M2.f_cnI2 (cx : CX p s m args c cc nL own G) {y : MethodName} {bytes : ByteArray} {maxL f n i : Nat} {ret : Option FieldType} {a1 a2 : Value} {v : Value} {h1 : Hp} (hM : Ct l G y bytes maxL ret f n [a1, a2] h (some v) h1) (w1 : Cond.methodLinkNest own i y "QueueKeeper" ∈ lw_tbl) (w2 : Cond.static y ∈ lw_tbl) (w4 : Cond.initialized y.cls ∈ lw_tbl) (w5 : Cond.code y bytes maxL ret ∈ lw_tbl) (hy : y.cls ≠ "java/lang/invoke/MethodHandle" ∧ y.cls ≠ "java/lang/invoke/VarHandle") (hn : (parseMethodDescriptor y.desc).map (fun d => d.parameters.length) = some 2) (hR : f + 1 ≤ R.frames ∧ 8 + (maxL + 11) + n ≤ R.locals) (hcs : cells ≤ R.cells ∧ slots ≤ R.slots) (hW : (st.map fun v => v.category).sum ≤ 8) (hd : decode cc pc = .ok (.invokestatic i, 3)) (k : PF p l e R s m args below meth c nL G cells slots Qf (pc + 3) lv (v :: st) h1 o) : PF p l e R s m args below meth c nL G cells slots Qf pc lv (a2 :: a1 :: st) h o := f_csN cx [a1, a2] hM w1 w2 w4 w5 hy hn hR hcs hW hd k
theorem M2.f_cvV2 (cx : CX p s m args c cc nL own G) {y : MethodName} {bytes : ByteArray} {maxL f n i ob ci N : Nat} {ret : Option FieldType} {C : String} {T : u_T} {a1 a2 : Value} {h1 : Hp} (hM : Ct l G y bytes maxL ret f n (.ref (gad G ob) :: [a1, a2]) h none h1) (hk : kd ob = ci) (hci : ci < 20) (hc : vwCl[ci]? = some (C, T, N)) (w1 : Cond.methodLink own i y ∈ lw_tbl) (w2 : Cond.instanceMethod y ∈ lw_tbl) (w3 : Cond.selects C y y ∈ lw_tbl) (w4 : Cond.initialized y.cls ∈ lw_tbl) (w5 : Cond.code y bytes maxL ret ∈ lw_tbl) (hy : y.cls ≠ "java/lang/invoke/MethodHandle" ∧ y.cls ≠ "java/lang/invoke/VarHandle") (hn : (parseMethodDescriptor y.desc).map (fun d => d.parameters.length) = some 2) (hR : f + 1 ≤ R.frames ∧ 8 + (maxL + 11) + n ≤ R.locals) (hcs : cells ≤ R.cells ∧ slots ≤ R.slots) (hW : (st.map fun v => v.category).sum ≤ 8) (hd : decode cc pc = .ok (.invokevirtual i, 3)) (k : PF p l e R s m args below meth c nL G cells slots Qf (pc + 3) lv (st) h1 o) : PF p l e R s m args below meth c nL G cells slots Qf pc lv (a2 :: a1 :: .ref (gad G ob) :: st) h o := f_cv cx [a1, a2] hM hk hci hc w1 w2 w3 w4 w5 hy hn hR hcs hW hd k
theorem M2.f_csV2 (cx : CX p s m args c cc nL own G) {y : MethodName} {bytes : ByteArray} {maxL f n i : Nat} {ret : Option FieldType} {a1 a2 : Value} {h1 : Hp} (hM : Ct l G y bytes maxL ret f n [a1, a2] h none h1) (w1 : Cond.methodLink own i y ∈ lw_tbl) (w2 : Cond.static y ∈ lw_tbl) (w4 : Cond.initialized y.cls ∈ lw_tbl) (w5 : Cond.code y bytes maxL ret ∈ lw_tbl) (hy : y.cls ≠ "java/lang/invoke/MethodHandle" ∧ y.cls ≠ "java/lang/invoke/VarHandle") (hn : (parseMethodDescriptor y.desc).map (fun d => d.parameters.length) = some 2) (hR : f + 1 ≤ R.frames ∧ 8 + (maxL + 11) + n ≤ R.locals) (hcs : cells ≤ R.cells ∧ slots ≤ R.slots) (hW : (st.map fun v => v.category).sum ≤ 8) (hd : decode cc pc = .ok (.invokestatic i, 3)) (k : PF p l e R s m args below meth c nL G cells slots Qf (pc + 3) lv (st) h1 o) : PF p l e R s m args below meth c nL G cells slots Qf pc lv (a2 :: a1 :: st) h o := f_cs cx [a1, a2] hM w1 w2 w4 w5 hy hn hR hcs hW hd k
theorem M2.f_cnV2 (cx : CX p s m args c cc nL own G) {y : MethodName} {bytes : ByteArray} {maxL f n i : Nat} {ret : Option FieldType} {a1 a2 : Value} {h1 : Hp} (hM : Ct l G y bytes maxL ret f n [a1, a2] h none h1) (w1 : Cond.methodLinkNest own i y "QueueKeeper" ∈ lw_tbl) (w2 : Cond.static y ∈ lw_tbl) (w4 : Cond.initialized y.cls ∈ lw_tbl) (w5 : Cond.code y bytes maxL ret ∈ lw_tbl) (hy : y.cls ≠ "java/lang/invoke/MethodHandle" ∧ y.cls ≠ "java/lang/invoke/VarHandle") (hn : (parseMethodDescriptor y.desc).map (fun d => d.parameters.length) = some 2) (hR : f + 1 ≤ R.frames ∧ 8 + (maxL + 11) + n ≤ R.locals) (hcs : cells ≤ R.cells ∧ slots ≤ R.slots) (hW : (st.map fun v => v.category).sum ≤ 8) (hd : decode cc pc = .ok (.invokestatic i, 3)) (k : PF p l e R s m args below meth c nL G cells slots Qf (pc + 3) lv (st) h1 o) : PF p l e R s m args below meth c nL G cells slots Qf pc lv (a2 :: a1 :: st) h o := f_csN cx [a1, a2] hM w1 w2 w4 w5 hy hn hR hcs hW hd k
theorem M2.f_cvI3 (cx : CX p s m args c cc nL own G) {y : MethodName} {bytes : ByteArray} {maxL f n i ob ci N : Nat} {ret : Option FieldType} {C : String} {T : u_T} {a1 a2 a3 : Value} {v : Value} {h1 : Hp} (hM : Ct l G y bytes maxL ret f n (.ref (gad G ob) :: [a1, a2, a3]) h (some v) h1) (hk : kd ob = ci) (hci : ci < 20) (hc : vwCl[ci]? = some (C, T, N)) (w1 : Cond.methodLink own i y ∈ lw_tbl) (w2 : Cond.instanceMethod y ∈ lw_tbl) (w3 : Cond.selects C y y ∈ lw_tbl) (w4 : Cond.initialized y.cls ∈ lw_tbl) (w5 : Cond.code y bytes maxL ret ∈ lw_tbl) (hy : y.cls ≠ "java/lang/invoke/MethodHandle" ∧ y.cls ≠ "java/lang/invoke/VarHandle") (hn : (parseMethodDescriptor y.desc).map (fun d => d.parameters.length) = some 3) (hR : f + 1 ≤ R.frames ∧ 8 + (maxL + 11) + n ≤ R.locals) (hcs : cells ≤ R.cells ∧ slots ≤ R.slots) (hW : (st.map fun v => v.category).sum ≤ 8) (hd : decode cc pc = .ok (.invokevirtual i, 3)) (k : PF p l e R s m args below meth c nL G cells slots Qf (pc + 3) lv (v :: st) h1 o) : PF p l e R s m args below meth c nL G cells slots Qf pc lv (a3 :: a2 :: a1 :: .ref (gad G ob) :: st) h o := f_cv cx [a1, a2, a3] hM hk hci hc w1 w2 w3 w4 w5 hy hn hR hcs hW hd k
theorem M2.f_csI3 (cx : CX p s m args c cc nL own G) {y : MethodName} {bytes : ByteArray} {maxL f n i : Nat} {ret : Option FieldType} {a1 a2 a3 : Value} {v : Value} {h1 : Hp} (hM : Ct l G y bytes maxL ret f n [a1, a2, a3] h (some v) h1) (w1 : Cond.methodLink own i y ∈ lw_tbl) (w2 : Cond.static y ∈ lw_tbl) (w4 : Cond.initialized y.cls ∈ lw_tbl) (w5 : Cond.code y bytes maxL ret ∈ lw_tbl) (hy : y.cls ≠ "java/lang/invoke/MethodHandle" ∧ y.cls ≠ "java/lang/invoke/VarHandle") (hn : (parseMethodDescriptor y.desc).map (fun d => d.parameters.length) = some 3) (hR : f + 1 ≤ R.frames ∧ 8 + (maxL + 11) + n ≤ R.locals) (hcs : cells ≤ R.cells ∧ slots ≤ R.slots) (hW : (st.map fun v => v.category).sum ≤ 8) (hd : decode cc pc = .ok (.invokestatic i, 3)) (k : PF p l e R s m args below meth c nL G cells slots Qf (pc + 3) lv (v :: st) h1 o) : PF p l e R s m args below meth c nL G cells slots Qf pc lv (a3 :: a2 :: a1 :: st) h o := f_cs cx [a1, a2, a3] hM w1 w2 w4 w5 hy hn hR hcs hW hd k
theorem M2.f_cnI3 (cx : CX p s m args c cc nL own G) {y : MethodName} {bytes : ByteArray} {maxL f n i : Nat} {ret : Option FieldType} {a1 a2 a3 : Value} {v : Value} {h1 : Hp} (hM : Ct l G y bytes maxL ret f n [a1, a2, a3] h (some v) h1) (w1 : Cond.methodLinkNest own i y "QueueKeeper" ∈ lw_tbl) (w2 : Cond.static y ∈ lw_tbl) (w4 : Cond.initialized y.cls ∈ lw_tbl) (w5 : Cond.code y bytes maxL ret ∈ lw_tbl) (hy : y.cls ≠ "java/lang/invoke/MethodHandle" ∧ y.cls ≠ "java/lang/invoke/VarHandle") (hn : (parseMethodDescriptor y.desc).map (fun d => d.parameters.length) = some 3) (hR : f + 1 ≤ R.frames ∧ 8 + (maxL + 11) + n ≤ R.locals) (hcs : cells ≤ R.cells ∧ slots ≤ R.slots) (hW : (st.map fun v => v.category).sum ≤ 8) (hd : decode cc pc = .ok (.invokestatic i, 3)) (k : PF p l e R s m args below meth c nL G cells slots Qf (pc + 3) lv (v :: st) h1 o) : PF p l e R s m args below meth c nL G cells slots Qf pc lv (a3 :: a2 :: a1 :: st) h o := f_csN cx [a1, a2, a3] hM w1 w2 w4 w5 hy hn hR hcs hW hd k
theorem M2.f_cvV3 (cx : CX p s m args c cc nL own G) {y : MethodName} {bytes : ByteArray} {maxL f n i ob ci N : Nat} {ret : Option FieldType} {C : String} {T : u_T} {a1 a2 a3 : Value} {h1 : Hp} (hM : Ct l G y bytes maxL ret f n (.ref (gad G ob) :: [a1, a2, a3]) h none h1) (hk : kd ob = ci) (hci : ci < 20) (hc : vwCl[ci]? = some (C, T, N)) (w1 : Cond.methodLink own i y ∈ lw_tbl) (w2 : Cond.instanceMethod y ∈ lw_tbl) (w3 : Cond.selects C y y ∈ lw_tbl) (w4 : Cond.initialized y.cls ∈ lw_tbl) (w5 : Cond.code y bytes maxL ret ∈ lw_tbl) (hy : y.cls ≠ "java/lang/invoke/MethodHandle" ∧ y.cls ≠ "java/lang/invoke/VarHandle") (hn : (parseMethodDescriptor y.desc).map (fun d => d.parameters.length) = some 3) (hR : f + 1 ≤ R.frames ∧ 8 + (maxL + 11) + n ≤ R.locals) (hcs : cells ≤ R.cells ∧ slots ≤ R.slots) (hW : (st.map fun v => v.category).sum ≤ 8) (hd : decode cc pc = .ok (.invokevirtual i, 3)) (k : PF p l e R s m args below meth c nL G cells slots Qf (pc + 3) lv (st) h1 o) : PF p l e R s m args below meth c nL G cells slots Qf pc lv (a3 :: a2 :: a1 :: .ref (gad G ob) :: st) h o := f_cv cx [a1, a2, a3] hM hk hci hc w1 w2 w3 w4 w5 hy hn hR hcs hW hd k
theorem M2.f_csV3 (cx : CX p s m args c cc nL own G) {y : MethodName} {bytes : ByteArray} {maxL f n i : Nat} {ret : Option FieldType} {a1 a2 a3 : Value} {h1 : Hp} (hM : Ct l G y bytes maxL ret f n [a1, a2, a3] h none h1) (w1 : Cond.methodLink own i y ∈ lw_tbl) (w2 : Cond.static y ∈ lw_tbl) (w4 : Cond.initialized y.cls ∈ lw_tbl) (w5 : Cond.code y bytes maxL ret ∈ lw_tbl) (hy : y.cls ≠ "java/lang/invoke/MethodHandle" ∧ y.cls ≠ "java/lang/invoke/VarHandle") (hn : (parseMethodDescriptor y.desc).map (fun d => d.parameters.length) = some 3) (hR : f + 1 ≤ R.frames ∧ 8 + (maxL + 11) + n ≤ R.locals) (hcs : cells ≤ R.cells ∧ slots ≤ R.slots) (hW : (st.map fun v => v.category).sum ≤ 8) (hd : decode cc pc = .ok (.invokestatic i, 3)) (k : PF p l e R s m args below meth c nL G cells slots Qf (pc + 3) lv (st) h1 o) : PF p l e R s m args below meth c nL G cells slots Qf pc lv (a3 :: a2 :: a1 :: st) h o := f_cs cx [a1, a2, a3] hM w1 w2 w4 w5 hy hn hR hcs hW hd k
theorem M2.f_cnV3 (cx : CX p s m args c cc nL own G) {y : MethodName} {bytes : ByteArray} {maxL f n i : Nat} {ret : Option FieldType} {a1 a2 a3 : Value} {h1 : Hp} (hM : Ct l G y bytes maxL ret f n [a1, a2, a3] h none h1) (w1 : Cond.methodLinkNest own i y "QueueKeeper" ∈ lw_tbl) (w2 : Cond.static y ∈ lw_tbl) (w4 : Cond.initialized y.cls ∈ lw_tbl) (w5 : Cond.code y bytes maxL ret ∈ lw_tbl) (hy : y.cls ≠ "java/lang/invoke/MethodHandle" ∧ y.cls ≠ "java/lang/invoke/VarHandle") (hn : (parseMethodDescriptor y.desc).map (fun d => d.parameters.length) = some 3) (hR : f + 1 ≤ R.frames ∧ 8 + (maxL + 11) + n ≤ R.locals) (hcs : cells ≤ R.cells ∧ slots ≤ R.slots) (hW : (st.map fun v => v.category).sum ≤ 8) (hd : decode cc pc = .ok (.invokestatic i, 3)) (k : PF p l e R s m args below meth c nL G cells slots Qf (pc + 3) lv (st) h1 o) : PF p l e R s m args below meth c nL G cells slots Qf pc lv (a3 :: a2 :: a1 :: st) h o := f_csN cx [a1, a2, a3] hM w1 w2 w4 w5 hy hn hR hcs hW hd k
theorem M2.f_cvI4 (cx : CX p s m args c cc nL own G) {y : MethodName} {bytes : ByteArray} {maxL f n i ob ci N : Nat} {ret : Option FieldType} {C : String} {T : u_T} {a1 a2 a3 a4 : Value} {v : Value} {h1 : Hp} (hM : Ct l G y bytes maxL ret f n (.ref (gad G ob) :: [a1, a2, a3, a4]) h (some v) h1) (hk : kd ob = ci) (hci : ci < 20) (hc : vwCl[ci]? = some (C, T, N)) (w1 : Cond.methodLink own i y ∈ lw_tbl) (w2 : Cond.instanceMethod y ∈ lw_tbl) (w3 : Cond.selects C y y ∈ lw_tbl) (w4 : Cond.initialized y.cls ∈ lw_tbl) (w5 : Cond.code y bytes maxL ret ∈ lw_tbl) (hy : y.cls ≠ "java/lang/invoke/MethodHandle" ∧ y.cls ≠ "java/lang/invoke/VarHandle") (hn : (parseMethodDescriptor y.desc).map (fun d => d.parameters.length) = some 4) (hR : f + 1 ≤ R.frames ∧ 8 + (maxL + 11) + n ≤ R.locals) (hcs : cells ≤ R.cells ∧ slots ≤ R.slots) (hW : (st.map fun v => v.category).sum ≤ 8) (hd : decode cc pc = .ok (.invokevirtual i, 3)) (k : PF p l e R s m args below meth c nL G cells slots Qf (pc + 3) lv (v :: st) h1 o) : PF p l e R s m args below meth c nL G cells slots Qf pc lv (a4 :: a3 :: a2 :: a1 :: .ref (gad G ob) :: st) h o := f_cv cx [a1, a2, a3, a4] hM hk hci hc w1 w2 w3 w4 w5 hy hn hR hcs hW hd k
theorem M2.f_csI4 (cx : CX p s m args c cc nL own G) {y : MethodName} {bytes : ByteArray} {maxL f n i : Nat} {ret : Option FieldType} {a1 a2 a3 a4 : Value} {v : Value} {h1 : Hp} (hM : Ct l G y bytes maxL ret f n [a1, a2, a3, a4] h (some v) h1) (w1 : Cond.methodLink own i y ∈ lw_tbl) (w2 : Cond.static y ∈ lw_tbl) (w4 : Cond.initialized y.cls ∈ lw_tbl) (w5 : Cond.code y bytes maxL ret ∈ lw_tbl) (hy : y.cls ≠ "java/lang/invoke/MethodHandle" ∧ y.cls ≠ "java/lang/invoke/VarHandle") (hn : (parseMethodDescriptor y.desc).map (fun d => d.parameters.length) = some 4) (hR : f + 1 ≤ R.frames ∧ 8 + (maxL + 11) + n ≤ R.locals) (hcs : cells ≤ R.cells ∧ slots ≤ R.slots) (hW : (st.map fun v => v.category).sum ≤ 8) (hd : decode cc pc = .ok (.invokestatic i, 3)) (k : PF p l e R s m args below meth c nL G cells slots Qf (pc + 3) lv (v :: st) h1 o) : PF p l e R s m args below meth c nL G cells slots Qf pc lv (a4 :: a3 :: a2 :: a1 :: st) h o := f_cs cx [a1, a2, a3, a4] hM w1 w2 w4 w5 hy hn hR hcs hW hd k
theorem M2.f_cnI4 (cx : CX p s m args c cc nL own G) {y : MethodName} {bytes : ByteArray} {maxL f n i : Nat} {ret : Option FieldType} {a1 a2 a3 a4 : Value} {v : Value} {h1 : Hp} (hM : Ct l G y bytes maxL ret f n [a1, a2, a3, a4] h (some v) h1) (w1 : Cond.methodLinkNest own i y "QueueKeeper" ∈ lw_tbl) (w2 : Cond.static y ∈ lw_tbl) (w4 : Cond.initialized y.cls ∈ lw_tbl) (w5 : Cond.code y bytes maxL ret ∈ lw_tbl) (hy : y.cls ≠ "java/lang/invoke/MethodHandle" ∧ y.cls ≠ "java/lang/invoke/VarHandle") (hn : (parseMethodDescriptor y.desc).map (fun d => d.parameters.length) = some 4) (hR : f + 1 ≤ R.frames ∧ 8 + (maxL + 11) + n ≤ R.locals) (hcs : cells ≤ R.cells ∧ slots ≤ R.slots) (hW : (st.map fun v => v.category).sum ≤ 8) (hd : decode cc pc = .ok (.invokestatic i, 3)) (k : PF p l e R s m args below meth c nL G cells slots Qf (pc + 3) lv (v :: st) h1 o) : PF p l e R s m args below meth c nL G cells slots Qf pc lv (a4 :: a3 :: a2 :: a1 :: st) h o := f_csN cx [a1, a2, a3, a4] hM w1 w2 w4 w5 hy hn hR hcs hW hd k
theorem M2.f_cvV4 (cx : CX p s m args c cc nL own G) {y : MethodName} {bytes : ByteArray} {maxL f n i ob ci N : Nat} {ret : Option FieldType} {C : String} {T : u_T} {a1 a2 a3 a4 : Value} {h1 : Hp} (hM : Ct l G y bytes maxL ret f n (.ref (gad G ob) :: [a1, a2, a3, a4]) h none h1) (hk : kd ob = ci) (hci : ci < 20) (hc : vwCl[ci]? = some (C, T, N)) (w1 : Cond.methodLink own i y ∈ lw_tbl) (w2 : Cond.instanceMethod y ∈ lw_tbl) (w3 : Cond.selects C y y ∈ lw_tbl) (w4 : Cond.initialized y.cls ∈ lw_tbl) (w5 : Cond.code y bytes maxL ret ∈ lw_tbl) (hy : y.cls ≠ "java/lang/invoke/MethodHandle" ∧ y.cls ≠ "java/lang/invoke/VarHandle") (hn : (parseMethodDescriptor y.desc).map (fun d => d.parameters.length) = some 4) (hR : f + 1 ≤ R.frames ∧ 8 + (maxL + 11) + n ≤ R.locals) (hcs : cells ≤ R.cells ∧ slots ≤ R.slots) (hW : (st.map fun v => v.category).sum ≤ 8) (hd : decode cc pc = .ok (.invokevirtual i, 3)) (k : PF p l e R s m args below meth c nL G cells slots Qf (pc + 3) lv (st) h1 o) : PF p l e R s m args below meth c nL G cells slots Qf pc lv (a4 :: a3 :: a2 :: a1 :: .ref (gad G ob) :: st) h o := f_cv cx [a1, a2, a3, a4] hM hk hci hc w1 w2 w3 w4 w5 hy hn hR hcs hW hd k
theorem M2.f_csV4 (cx : CX p s m args c cc nL own G) {y : MethodName} {bytes : ByteArray} {maxL f n i : Nat} {ret : Option FieldType} {a1 a2 a3 a4 : Value} {h1 : Hp} (hM : Ct l G y bytes maxL ret f n [a1, a2, a3, a4] h none h1) (w1 : Cond.methodLink own i y ∈ lw_tbl) (w2 : Cond.static y ∈ lw_tbl) (w4 : Cond.initialized y.cls ∈ lw_tbl) (w5 : Cond.code y bytes maxL ret ∈ lw_tbl) (hy : y.cls ≠ "java/lang/invoke/MethodHandle" ∧ y.cls ≠ "java/lang/invoke/VarHandle") (hn : (parseMethodDescriptor y.desc).map (fun d => d.parameters.length) = some 4) (hR : f + 1 ≤ R.frames ∧ 8 + (maxL + 11) + n ≤ R.locals) (hcs : cells ≤ R.cells ∧ slots ≤ R.slots) (hW : (st.map fun v => v.category).sum ≤ 8) (hd : decode cc pc = .ok (.invokestatic i, 3)) (k : PF p l e R s m args below meth c nL G cells slots Qf (pc + 3) lv (st) h1 o) : PF p l e R s m args below meth c nL G cells slots Qf pc lv (a4 :: a3 :: a2 :: a1 :: st) h o := f_cs cx [a1, a2, a3, a4] hM w1 w2 w4 w5 hy hn hR hcs hW hd k
theorem M2.f_cnV4 (cx : CX p s m args c cc nL own G) {y : MethodName} {bytes : ByteArray} {maxL f n i : Nat} {ret : Option FieldType} {a1 a2 a3 a4 : Value} {h1 : Hp} (hM : Ct l G y bytes maxL ret f n [a1, a2, a3, a4] h none h1) (w1 : Cond.methodLinkNest own i y "QueueKeeper" ∈ lw_tbl) (w2 : Cond.static y ∈ lw_tbl) (w4 : Cond.initialized y.cls ∈ lw_tbl) (w5 : Cond.code y bytes maxL ret ∈ lw_tbl) (hy : y.cls ≠ "java/lang/invoke/MethodHandle" ∧ y.cls ≠ "java/lang/invoke/VarHandle") (hn : (parseMethodDescriptor y.desc).map (fun d => d.parameters.length) = some 4) (hR : f + 1 ≤ R.frames ∧ 8 + (maxL + 11) + n ≤ R.locals) (hcs : cells ≤ R.cells ∧ slots ≤ R.slots) (hW : (st.map fun v => v.category).sum ≤ 8) (hd : decode cc pc = .ok (.invokestatic i, 3)) (k : PF p l e R s m args below meth c nL G cells slots Qf (pc + 3) lv (st) h1 o) : PF p l e R s m args below meth c nL G cells slots Qf pc lv (a4 :: a3 :: a2 :: a1 :: st) h o := f_csN cx [a1, a2, a3, a4] hM w1 w2 w4 w5 hy hn hR hcs hW hd k
theorem M2.f_cvI5 (cx : CX p s m args c cc nL own G) {y : MethodName} {bytes : ByteArray} {maxL f n i ob ci N : Nat} {ret : Option FieldType} {C : String} {T : u_T} {a1 a2 a3 a4 a5 : Value} {v : Value} {h1 : Hp} (hM : Ct l G y bytes maxL ret f n (.ref (gad G ob) :: [a1, a2, a3, a4, a5]) h (some v) h1) (hk : kd ob = ci) (hci : ci < 20) (hc : vwCl[ci]? = some (C, T, N)) (w1 : Cond.methodLink own i y ∈ lw_tbl) (w2 : Cond.instanceMethod y ∈ lw_tbl) (w3 : Cond.selects C y y ∈ lw_tbl) (w4 : Cond.initialized y.cls ∈ lw_tbl) (w5 : Cond.code y bytes maxL ret ∈ lw_tbl) (hy : y.cls ≠ "java/lang/invoke/MethodHandle" ∧ y.cls ≠ "java/lang/invoke/VarHandle") (hn : (parseMethodDescriptor y.desc).map (fun d => d.parameters.length) = some 5) (hR : f + 1 ≤ R.frames ∧ 8 + (maxL + 11) + n ≤ R.locals) (hcs : cells ≤ R.cells ∧ slots ≤ R.slots) (hW : (st.map fun v => v.category).sum ≤ 8) (hd : decode cc pc = .ok (.invokevirtual i, 3)) (k : PF p l e R s m args below meth c nL G cells slots Qf (pc + 3) lv (v :: st) h1 o) : PF p l e R s m args below meth c nL G cells slots Qf pc lv (a5 :: a4 :: a3 :: a2 :: a1 :: .ref (gad G ob) :: st) h o := f_cv cx [a1, a2, a3, a4, a5] hM hk hci hc w1 w2 w3 w4 w5 hy hn hR hcs hW hd k
theorem M2.f_csI5 (cx : CX p s m args c cc nL own G) {y : MethodName} {bytes : ByteArray} {maxL f n i : Nat} {ret : Option FieldType} {a1 a2 a3 a4 a5 : Value} {v : Value} {h1 : Hp} (hM : Ct l G y bytes maxL ret f n [a1, a2, a3, a4, a5] h (some v) h1) (w1 : Cond.methodLink own i y ∈ lw_tbl) (w2 : Cond.static y ∈ lw_tbl) (w4 : Cond.initialized y.cls ∈ lw_tbl) (w5 : Cond.code y bytes maxL ret ∈ lw_tbl) (hy : y.cls ≠ "java/lang/invoke/MethodHandle" ∧ y.cls ≠ "java/lang/invoke/VarHandle") (hn : (parseMethodDescriptor y.desc).map (fun d => d.parameters.length) = some 5) (hR : f + 1 ≤ R.frames ∧ 8 + (maxL + 11) + n ≤ R.locals) (hcs : cells ≤ R.cells ∧ slots ≤ R.slots) (hW : (st.map fun v => v.category).sum ≤ 8) (hd : decode cc pc = .ok (.invokestatic i, 3)) (k : PF p l e R s m args below meth c nL G cells slots Qf (pc + 3) lv (v :: st) h1 o) : PF p l e R s m args below meth c nL G cells slots Qf pc lv (a5 :: a4 :: a3 :: a2 :: a1 :: st) h o := f_cs cx [a1, a2, a3, a4, a5] hM w1 w2 w4 w5 hy hn hR hcs hW hd k
theorem M2.f_cnI5 (cx : CX p s m args c cc nL own G) {y : MethodName} {bytes : ByteArray} {maxL f n i : Nat} {ret : Option FieldType} {a1 a2 a3 a4 a5 : Value} {v : Value} {h1 : Hp} (hM : Ct l G y bytes maxL ret f n [a1, a2, a3, a4, a5] h (some v) h1) (w1 : Cond.methodLinkNest own i y "QueueKeeper" ∈ lw_tbl) (w2 : Cond.static y ∈ lw_tbl) (w4 : Cond.initialized y.cls ∈ lw_tbl) (w5 : Cond.code y bytes maxL ret ∈ lw_tbl) (hy : y.cls ≠ "java/lang/invoke/MethodHandle" ∧ y.cls ≠ "java/lang/invoke/VarHandle") (hn : (parseMethodDescriptor y.desc).map (fun d => d.parameters.length) = some 5) (hR : f + 1 ≤ R.frames ∧ 8 + (maxL + 11) + n ≤ R.locals) (hcs : cells ≤ R.cells ∧ slots ≤ R.slots) (hW : (st.map fun v => v.category).sum ≤ 8) (hd : decode cc pc = .ok (.invokestatic i, 3)) (k : PF p l e R s m args below meth c nL G cells slots Qf (pc + 3) lv (v :: st) h1 o) : PF p l e R s m args below meth c nL G cells slots Qf pc lv (a5 :: a4 :: a3 :: a2 :: a1 :: st) h o := f_csN cx [a1, a2, a3, a4, a5] hM w1 w2 w4 w5 hy hn hR hcs hW hd k
theorem M2.f_cvV5 (cx : CX p s m args c cc nL own G) {y : MethodName} {bytes : ByteArray} {maxL f n i ob ci N : Nat} {ret : Option FieldType} {C : String} {T : u_T} {a1 a2 a3 a4 a5 : Value} {h1 : Hp} (hM : Ct l G y bytes maxL ret f n (.ref (gad G ob) :: [a1, a2, a3, a4, a5]) h none h1) (hk : kd ob = ci) (hci : ci < 20) (hc : vwCl[ci]? = some (C, T, N)) (w1 : Cond.methodLink own i y ∈ lw_tbl) (w2 : Cond.instanceMethod y ∈ lw_tbl) (w3 : Cond.selects C y y ∈ lw_tbl) (w4 : Cond.initialized y.cls ∈ lw_tbl) (w5 : Cond.code y bytes maxL ret ∈ lw_tbl) (hy : y.cls ≠ "java/lang/invoke/MethodHandle" ∧ y.cls ≠ "java/lang/invoke/VarHandle") (hn : (parseMethodDescriptor y.desc).map (fun d => d.parameters.length) = some 5) (hR : f + 1 ≤ R.frames ∧ 8 + (maxL + 11) + n ≤ R.locals) (hcs : cells ≤ R.cells ∧ slots ≤ R.slots) (hW : (st.map fun v => v.category).sum ≤ 8) (hd : decode cc pc = .ok (.invokevirtual i, 3)) (k : PF p l e R s m args below meth c nL G cells slots Qf (pc + 3) lv (st) h1 o) : PF p l e R s m args below meth c nL G cells slots Qf pc lv (a5 :: a4 :: a3 :: a2 :: a1 :: .ref (gad G ob) :: st) h o := f_cv cx [a1, a2, a3, a4, a5] hM hk hci hc w1 w2 w3 w4 w5 hy hn hR hcs hW hd k
theorem M2.f_csV5 (cx : CX p s m args c cc nL own G) {y : MethodName} {bytes : ByteArray} {maxL f n i : Nat} {ret : Option FieldType} {a1 a2 a3 a4 a5 : Value} {h1 : Hp} (hM : Ct l G y bytes maxL ret f n [a1, a2, a3, a4, a5] h none h1) (w1 : Cond.methodLink own i y ∈ lw_tbl) (w2 : Cond.static y ∈ lw_tbl) (w4 : Cond.initialized y.cls ∈ lw_tbl) (w5 : Cond.code y bytes maxL ret ∈ lw_tbl) (hy : y.cls ≠ "java/lang/invoke/MethodHandle" ∧ y.cls ≠ "java/lang/invoke/VarHandle") (hn : (parseMethodDescriptor y.desc).map (fun d => d.parameters.length) = some 5) (hR : f + 1 ≤ R.frames ∧ 8 + (maxL + 11) + n ≤ R.locals) (hcs : cells ≤ R.cells ∧ slots ≤ R.slots) (hW : (st.map fun v => v.category).sum ≤ 8) (hd : decode cc pc = .ok (.invokestatic i, 3)) (k : PF p l e R s m args below meth c nL G cells slots Qf (pc + 3) lv (st) h1 o) : PF p l e R s m args below meth c nL G cells slots Qf pc lv (a5 :: a4 :: a3 :: a2 :: a1 :: st) h o := f_cs cx [a1, a2, a3, a4, a5] hM w1 w2 w4 w5 hy hn hR hcs hW hd k
theorem M2.f_cnV5 (cx : CX p s m args c cc nL own G) {y : MethodName} {bytes : ByteArray} {maxL f n i : Nat} {ret : Option FieldType} {a1 a2 a3 a4 a5 : Value} {h1 : Hp} (hM : Ct l G y bytes maxL ret f n [a1, a2, a3, a4, a5] h none h1) (w1 : Cond.methodLinkNest own i y "QueueKeeper" ∈ lw_tbl) (w2 : Cond.static y ∈ lw_tbl) (w4 : Cond.initialized y.cls ∈ lw_tbl) (w5 : Cond.code y bytes maxL ret ∈ lw_tbl) (hy : y.cls ≠ "java/lang/invoke/MethodHandle" ∧ y.cls ≠ "java/lang/invoke/VarHandle") (hn : (parseMethodDescriptor y.desc).map (fun d => d.parameters.length) = some 5) (hR : f + 1 ≤ R.frames ∧ 8 + (maxL + 11) + n ≤ R.locals) (hcs : cells ≤ R.cells ∧ slots ≤ R.slots) (hW : (st.map fun v => v.category).sum ≤ 8) (hd : decode cc pc = .ok (.invokestatic i, 3)) (k : PF p l e R s m args below meth c nL G cells slots Qf (pc + 3) lv (st) h1 o) : PF p l e R s m args below meth c nL G cells slots Qf pc lv (a5 :: a4 :: a3 :: a2 :: a1 :: st) h o := f_csN cx [a1, a2, a3, a4, a5] hM w1 w2 w4 w5 hy hn hR hcs hW hd k
theorem M2.f_cvI6 (cx : CX p s m args c cc nL own G) {y : MethodName} {bytes : ByteArray} {maxL f n i ob ci N : Nat} {ret : Option FieldType} {C : String} {T : u_T} {a1 a2 a3 a4 a5 a6 : Value} {v : Value} {h1 : Hp} (hM : Ct l G y bytes maxL ret f n (.ref (gad G ob) :: [a1, a2, a3, a4, a5, a6]) h (some v) h1) (hk : kd ob = ci) (hci : ci < 20) (hc : vwCl[ci]? = some (C, T, N)) (w1 : Cond.methodLink own i y ∈ lw_tbl) (w2 : Cond.instanceMethod y ∈ lw_tbl) (w3 : Cond.selects C y y ∈ lw_tbl) (w4 : Cond.initialized y.cls ∈ lw_tbl) (w5 : Cond.code y bytes maxL ret ∈ lw_tbl) (hy : y.cls ≠ "java/lang/invoke/MethodHandle" ∧ y.cls ≠ "java/lang/invoke/VarHandle") (hn : (parseMethodDescriptor y.desc).map (fun d => d.parameters.length) = some 6) (hR : f + 1 ≤ R.frames ∧ 8 + (maxL + 11) + n ≤ R.locals) (hcs : cells ≤ R.cells ∧ slots ≤ R.slots) (hW : (st.map fun v => v.category).sum ≤ 8) (hd : decode cc pc = .ok (.invokevirtual i, 3)) (k : PF p l e R s m args below meth c nL G cells slots Qf (pc + 3) lv (v :: st) h1 o) : PF p l e R s m args below meth c nL G cells slots Qf pc lv (a6 :: a5 :: a4 :: a3 :: a2 :: a1 :: .ref (gad G ob) :: st) h o := f_cv cx [a1, a2, a3, a4, a5, a6] hM hk hci hc w1 w2 w3 w4 w5 hy hn hR hcs hW hd k
theorem M2.f_csI6 (cx : CX p s m args c cc nL own G) {y : MethodName} {bytes : ByteArray} {maxL f n i : Nat} {ret : Option FieldType} {a1 a2 a3 a4 a5 a6 : Value} {v : Value} {h1 : Hp} (hM : Ct l G y bytes maxL ret f n [a1, a2, a3, a4, a5, a6] h (some v) h1) (w1 : Cond.methodLink own i y ∈ lw_tbl) (w2 : Cond.static y ∈ lw_tbl) (w4 : Cond.initialized y.cls ∈ lw_tbl) (w5 : Cond.code y bytes maxL ret ∈ lw_tbl) (hy : y.cls ≠ "java/lang/invoke/MethodHandle" ∧ y.cls ≠ "java/lang/invoke/VarHandle") (hn : (parseMethodDescriptor y.desc).map (fun d => d.parameters.length) = some 6) (hR : f + 1 ≤ R.frames ∧ 8 + (maxL + 11) + n ≤ R.locals) (hcs : cells ≤ R.cells ∧ slots ≤ R.slots) (hW : (st.map fun v => v.category).sum ≤ 8) (hd : decode cc pc = .ok (.invokestatic i, 3)) (k : PF p l e R s m args below meth c nL G cells slots Qf (pc + 3) lv (v :: st) h1 o) : PF p l e R s m args below meth c nL G cells slots Qf pc lv (a6 :: a5 :: a4 :: a3 :: a2 :: a1 :: st) h o := f_cs cx [a1, a2, a3, a4, a5, a6] hM w1 w2 w4 w5 hy hn hR hcs hW hd k
theorem M2.f_cnI6 (cx : CX p s m args c cc nL own G) {y : MethodName} {bytes : ByteArray} {maxL f n i : Nat} {ret : Option FieldType} {a1 a2 a3 a4 a5 a6 : Value} {v : Value} {h1 : Hp} (hM : Ct l G y bytes maxL ret f n [a1, a2, a3, a4, a5, a6] h (some v) h1) (w1 : Cond.methodLinkNest own i y "QueueKeeper" ∈ lw_tbl) (w2 : Cond.static y ∈ lw_tbl) (w4 : Cond.initialized y.cls ∈ lw_tbl) (w5 : Cond.code y bytes maxL ret ∈ lw_tbl) (hy : y.cls ≠ "java/lang/invoke/MethodHandle" ∧ y.cls ≠ "java/lang/invoke/VarHandle") (hn : (parseMethodDescriptor y.desc).map (fun d => d.parameters.length) = some 6) (hR : f + 1 ≤ R.frames ∧ 8 + (maxL + 11) + n ≤ R.locals) (hcs : cells ≤ R.cells ∧ slots ≤ R.slots) (hW : (st.map fun v => v.category).sum ≤ 8) (hd : decode cc pc = .ok (.invokestatic i, 3)) (k : PF p l e R s m args below meth c nL G cells slots Qf (pc + 3) lv (v :: st) h1 o) : PF p l e R s m args below meth c nL G cells slots Qf pc lv (a6 :: a5 :: a4 :: a3 :: a2 :: a1 :: st) h o := f_csN cx [a1, a2, a3, a4, a5, a6] hM w1 w2 w4 w5 hy hn hR hcs hW hd k
theorem M2.f_cvV6 (cx : CX p s m args c cc nL own G) {y : MethodName} {bytes : ByteArray} {maxL f n i ob ci N : Nat} {ret : Option FieldType} {C : String} {T : u_T} {a1 a2 a3 a4 a5 a6 : Value} {h1 : Hp} (hM : Ct l G y bytes maxL ret f n (.ref (gad G ob) :: [a1, a2, a3, a4, a5, a6]) h none h1) (hk : kd ob = ci) (hci : ci < 20) (hc : vwCl[ci]? = some (C, T, N)) (w1 : Cond.methodLink own i y ∈ lw_tbl) (w2 : Cond.instanceMethod y ∈ lw_tbl) (w3 : Cond.selects C y y ∈ lw_tbl) (w4 : Cond.initialized y.cls ∈ lw_tbl) (w5 : Cond.code y bytes maxL ret ∈ lw_tbl) (hy : y.cls ≠ "java/lang/invoke/MethodHandle" ∧ y.cls ≠ "java/lang/invoke/VarHandle") (hn : (parseMethodDescriptor y.desc).map (fun d => d.parameters.length) = some 6) (hR : f + 1 ≤ R.frames ∧ 8 + (maxL + 11) + n ≤ R.locals) (hcs : cells ≤ R.cells ∧ slots ≤ R.slots) (hW : (st.map fun v => v.category).sum ≤ 8) (hd : decode cc pc = .ok (.invokevirtual i, 3)) (k : PF p l e R s m args below meth c nL G cells slots Qf (pc + 3) lv (st) h1 o) : PF p l e R s m args below meth c nL G cells slots Qf pc lv (a6 :: a5 :: a4 :: a3 :: a2 :: a1 :: .ref (gad G ob) :: st) h o := f_cv cx [a1, a2, a3, a4, a5, a6] hM hk hci hc w1 w2 w3 w4 w5 hy hn hR hcs hW hd k
theorem M2.f_csV6 (cx : CX p s m args c cc nL own G) {y : MethodName} {bytes : ByteArray} {maxL f n i : Nat} {ret : Option FieldType} {a1 a2 a3 a4 a5 a6 : Value} {h1 : Hp} (hM : Ct l G y bytes maxL ret f n [a1, a2, a3, a4, a5, a6] h none h1) (w1 : Cond.methodLink own i y ∈ lw_tbl) (w2 : Cond.static y ∈ lw_tbl) (w4 : Cond.initialized y.cls ∈ lw_tbl) (w5 : Cond.code y bytes maxL ret ∈ lw_tbl) (hy : y.cls ≠ "java/lang/invoke/MethodHandle" ∧ y.cls ≠ "java/lang/invoke/VarHandle") (hn : (parseMethodDescriptor y.desc).map (fun d => d.parameters.length) = some 6) (hR : f + 1 ≤ R.frames ∧ 8 + (maxL + 11) + n ≤ R.locals) (hcs : cells ≤ R.cells ∧ slots ≤ R.slots) (hW : (st.map fun v => v.category).sum ≤ 8) (hd : decode cc pc = .ok (.invokestatic i, 3)) (k : PF p l e R s m args below meth c nL G cells slots Qf (pc + 3) lv (st) h1 o) : PF p l e R s m args below meth c nL G cells slots Qf pc lv (a6 :: a5 :: a4 :: a3 :: a2 :: a1 :: st) h o := f_cs cx [a1, a2, a3, a4, a5, a6] hM w1 w2 w4 w5 hy hn hR hcs hW hd k
theorem M2.f_cnV6 (cx : CX p s m args c cc nL own G) {y : MethodName} {bytes : ByteArray} {maxL f n i : Nat} {ret : Option FieldType} {a1 a2 a3 a4 a5 a6 : Value} {h1 : Hp} (hM : Ct l G y bytes maxL ret f n [a1, a2, a3, a4, a5, a6] h none h1) (w1 : Cond.methodLinkNest own i y "QueueKeeper" ∈ lw_tbl) (w2 : Cond.static y ∈ lw_tbl) (w4 : Cond.initialized y.cls ∈ lw_tbl) (w5 : Cond.code y bytes maxL ret ∈ lw_tbl) (hy : y.cls ≠ "java/lang/invoke/MethodHandle" ∧ y.cls ≠ "java/lang/invoke/VarHandle") (hn : (parseMethodDescriptor y.desc).map (fun d => d.parameters.length) = some 6) (hR : f + 1 ≤ R.frames ∧ 8 + (maxL + 11) + n ≤ R.locals) (hcs : cells ≤ R.cells ∧ slots ≤ R.slots) (hW : (st.map fun v => v.category).sum ≤ 8) (hd : decode cc pc = .ok (.invokestatic i, 3)) (k : PF p l e R s m args below meth c nL G cells slots Qf (pc + 3) lv (st) h1 o) : PF p l e R s m args below meth c nL G cells slots Qf pc lv (a6 :: a5 :: a4 :: a3 :: a2 :: a1 :: st) h o := f_csN cx [a1, a2, a3, a4, a5, a6] hM w1 w2 w4 w5 hy hn hR hcs hW hd k
theorem M2.f_cvI7 (cx : CX p s m args c cc nL own G) {y : MethodName} {bytes : ByteArray} {maxL f n i ob ci N : Nat} {ret : Option FieldType} {C : String} {T : u_T} {a1 a2 a3 a4 a5 a6 a7 : Value} {v : Value} {h1 : Hp} (hM : Ct l G y bytes maxL ret f n (.ref (gad G ob) :: [a1, a2, a3, a4, a5, a6, a7]) h (some v) h1) (hk : kd ob = ci) (hci : ci < 20) (hc : vwCl[ci]? = some (C, T, N)) (w1 : Cond.methodLink own i y ∈ lw_tbl) (w2 : Cond.instanceMethod y ∈ lw_tbl) (w3 : Cond.selects C y y ∈ lw_tbl) (w4 : Cond.initialized y.cls ∈ lw_tbl) (w5 : Cond.code y bytes maxL ret ∈ lw_tbl) (hy : y.cls ≠ "java/lang/invoke/MethodHandle" ∧ y.cls ≠ "java/lang/invoke/VarHandle") (hn : (parseMethodDescriptor y.desc).map (fun d => d.parameters.length) = some 7) (hR : f + 1 ≤ R.frames ∧ 8 + (maxL + 11) + n ≤ R.locals) (hcs : cells ≤ R.cells ∧ slots ≤ R.slots) (hW : (st.map fun v => v.category).sum ≤ 8) (hd : decode cc pc = .ok (.invokevirtual i, 3)) (k : PF p l e R s m args below meth c nL G cells slots Qf (pc + 3) lv (v :: st) h1 o) : PF p l e R s m args below meth c nL G cells slots Qf pc lv (a7 :: a6 :: a5 :: a4 :: a3 :: a2 :: a1 :: .ref (gad G ob) :: st) h o := f_cv cx [a1, a2, a3, a4, a5, a6, a7] hM hk hci hc w1 w2 w3 w4 w5 hy hn hR hcs hW hd k
theorem M2.f_csI7 (cx : CX p s m args c cc nL own G) {y : MethodName} {bytes : ByteArray} {maxL f n i : Nat} {ret : Option FieldType} {a1 a2 a3 a4 a5 a6 a7 : Value} {v : Value} {h1 : Hp} (hM : Ct l G y bytes maxL ret f n [a1, a2, a3, a4, a5, a6, a7] h (some v) h1) (w1 : Cond.methodLink own i y ∈ lw_tbl) (w2 : Cond.static y ∈ lw_tbl) (w4 : Cond.initialized y.cls ∈ lw_tbl) (w5 : Cond.code y bytes maxL ret ∈ lw_tbl) (hy : y.cls ≠ "java/lang/invoke/MethodHandle" ∧ y.cls ≠ "java/lang/invoke/VarHandle") (hn : (parseMethodDescriptor y.desc).map (fun d => d.parameters.length) = some 7) (hR : f + 1 ≤ R.frames ∧ 8 + (maxL + 11) + n ≤ R.locals) (hcs : cells ≤ R.cells ∧ slots ≤ R.slots) (hW : (st.map fun v => v.category).sum ≤ 8) (hd : decode cc pc = .ok (.invokestatic i, 3)) (k : PF p l e R s m args below meth c nL G cells slots Qf (pc + 3) lv (v :: st) h1 o) : PF p l e R s m args below meth c nL G cells slots Qf pc lv (a7 :: a6 :: a5 :: a4 :: a3 :: a2 :: a1 :: st) h o := f_cs cx [a1, a2, a3, a4, a5, a6, a7] hM w1 w2 w4 w5 hy hn hR hcs hW hd k
theorem M2.f_cnI7 (cx : CX p s m args c cc nL own G) {y : MethodName} {bytes : ByteArray} {maxL f n i : Nat} {ret : Option FieldType} {a1 a2 a3 a4 a5 a6 a7 : Value} {v : Value} {h1 : Hp} (hM : Ct l G y bytes maxL ret f n [a1, a2, a3, a4, a5, a6, a7] h (some v) h1) (w1 : Cond.methodLinkNest own i y "QueueKeeper" ∈ lw_tbl) (w2 : Cond.static y ∈ lw_tbl) (w4 : Cond.initialized y.cls ∈ lw_tbl) (w5 : Cond.code y bytes maxL ret ∈ lw_tbl) (hy : y.cls ≠ "java/lang/invoke/MethodHandle" ∧ y.cls ≠ "java/lang/invoke/VarHandle") (hn : (parseMethodDescriptor y.desc).map (fun d => d.parameters.length) = some 7) (hR : f + 1 ≤ R.frames ∧ 8 + (maxL + 11) + n ≤ R.locals) (hcs : cells ≤ R.cells ∧ slots ≤ R.slots) (hW : (st.map fun v => v.category).sum ≤ 8) (hd : decode cc pc = .ok (.invokestatic i, 3)) (k : PF p l e R s m args below meth c nL G cells slots Qf (pc + 3) lv (v :: st) h1 o) : PF p l e R s m args below meth c nL G cells slots Qf pc lv (a7 :: a6 :: a5 :: a4 :: a3 :: a2 :: a1 :: st) h o := f_csN cx [a1, a2, a3, a4, a5, a6, a7] hM w1 w2 w4 w5 hy hn hR hcs hW hd k
theorem M2.f_cvV7 (cx : CX p s m args c cc nL own G) {y : MethodName} {bytes : ByteArray} {maxL f n i ob ci N : Nat} {ret : Option FieldType} {C : String} {T : u_T} {a1 a2 a3 a4 a5 a6 a7 : Value} {h1 : Hp} (hM : Ct l G y bytes maxL ret f n (.ref (gad G ob) :: [a1, a2, a3, a4, a5, a6, a7]) h none h1) (hk : kd ob = ci) (hci : ci < 20) (hc : vwCl[ci]? = some (C, T, N)) (w1 : Cond.methodLink own i y ∈ lw_tbl) (w2 : Cond.instanceMethod y ∈ lw_tbl) (w3 : Cond.selects C y y ∈ lw_tbl) (w4 : Cond.initialized y.cls ∈ lw_tbl) (w5 : Cond.code y bytes maxL ret ∈ lw_tbl) (hy : y.cls ≠ "java/lang/invoke/MethodHandle" ∧ y.cls ≠ "java/lang/invoke/VarHandle") (hn : (parseMethodDescriptor y.desc).map (fun d => d.parameters.length) = some 7) (hR : f + 1 ≤ R.frames ∧ 8 + (maxL + 11) + n ≤ R.locals) (hcs : cells ≤ R.cells ∧ slots ≤ R.slots) (hW : (st.map fun v => v.category).sum ≤ 8) (hd : decode cc pc = .ok (.invokevirtual i, 3)) (k : PF p l e R s m args below meth c nL G cells slots Qf (pc + 3) lv (st) h1 o) : PF p l e R s m args below meth c nL G cells slots Qf pc lv (a7 :: a6 :: a5 :: a4 :: a3 :: a2 :: a1 :: .ref (gad G ob) :: st) h o := f_cv cx [a1, a2, a3, a4, a5, a6, a7] hM hk hci hc w1 w2 w3 w4 w5 hy hn hR hcs hW hd k
theorem M2.f_csV7 (cx : CX p s m args c cc nL own G) {y : MethodName} {bytes : ByteArray} {maxL f n i : Nat} {ret : Option FieldType} {a1 a2 a3 a4 a5 a6 a7 : Value} {h1 : Hp} (hM : Ct l G y bytes maxL ret f n [a1, a2, a3, a4, a5, a6, a7] h none h1) (w1 : Cond.methodLink own i y ∈ lw_tbl) (w2 : Cond.static y ∈ lw_tbl) (w4 : Cond.initialized y.cls ∈ lw_tbl) (w5 : Cond.code y bytes maxL ret ∈ lw_tbl) (hy : y.cls ≠ "java/lang/invoke/MethodHandle" ∧ y.cls ≠ "java/lang/invoke/VarHandle") (hn : (parseMethodDescriptor y.desc).map (fun d => d.parameters.length) = some 7) (hR : f + 1 ≤ R.frames ∧ 8 + (maxL + 11) + n ≤ R.locals) (hcs : cells ≤ R.cells ∧ slots ≤ R.slots) (hW : (st.map fun v => v.category).sum ≤ 8) (hd : decode cc pc = .ok (.invokestatic i, 3)) (k : PF p l e R s m args below meth c nL G cells slots Qf (pc + 3) lv (st) h1 o) : PF p l e R s m args below meth c nL G cells slots Qf pc lv (a7 :: a6 :: a5 :: a4 :: a3 :: a2 :: a1 :: st) h o := f_cs cx [a1, a2, a3, a4, a5, a6, a7] hM w1 w2 w4 w5 hy hn hR hcs hW hd k
theorem M2.f_cnV7 (cx : CX p s m args c cc nL own G) {y : MethodName} {bytes : ByteArray} {maxL f n i : Nat} {ret : Option FieldType} {a1 a2 a3 a4 a5 a6 a7 : Value} {h1 : Hp} (hM : Ct l G y bytes maxL ret f n [a1, a2, a3, a4, a5, a6, a7] h none h1) (w1 : Cond.methodLinkNest own i y "QueueKeeper" ∈ lw_tbl) (w2 : Cond.static y ∈ lw_tbl) (w4 : Cond.initialized y.cls ∈ lw_tbl) (w5 : Cond.code y bytes maxL ret ∈ lw_tbl) (hy : y.cls ≠ "java/lang/invoke/MethodHandle" ∧ y.cls ≠ "java/lang/invoke/VarHandle") (hn : (parseMethodDescriptor y.desc).map (fun d => d.parameters.length) = some 7) (hR : f + 1 ≤ R.frames ∧ 8 + (maxL + 11) + n ≤ R.locals) (hcs : cells ≤ R.cells ∧ slots ≤ R.slots) (hW : (st.map fun v => v.category).sum ≤ 8) (hd : decode cc pc = .ok (.invokestatic i, 3)) (k : PF p l e R s m args below meth c nL G cells slots Qf (pc + 3) lv (st) h1 o) : PF p l e R s m args below meth c nL G cells slots Qf pc lv (a7 :: a6 :: a5 :: a4 :: a3 :: a2 :: a1 :: st) h o := f_csN cx [a1, a2, a3, a4, a5, a6, a7] hM w1 w2 w4 w5 hy hn hR hcs hW hd k

end Rows

section M2L
variable {p : Program} {l : Launch} {e : Env} {R : Room} {s : State} {m : MethodId} {args : Array Value} {below : List Frame} {meth : Method} {c : Code} {cc : ByteArray} {nL : Nat} {G : GT} {cells slots : Nat} {α : Type} {Qf : α → State → Prop} {pc : Nat} {lv : List (Option Value)} {st : List Value} {h : Hp} {o : Option α}
theorem M2.g_X10_13 (cx : CX p s m args c cc nL RX10 G) {ob : Nat} (hk : kd ob = 9) (hd : decode cc pc = .ok (.getfield 13, 3)) (kk : PF p l e R s m args below meth c nL G cells slots Qf (pc + 3) lv (.ref (gad G (ob + 2)) :: st) h o) : PF p l e R s m args below meth c nL G cells slots Qf pc lv (.ref (gad G ob) :: st) h o := f_get (k := 3) cx hk (by decide) rfl inX10 (by decide) rfl w_1318 rfl hd kk
theorem M2.g_X10_16 (cx : CX p s m args c cc nL RX10 G) {ob : Nat} (hk : kd ob = 9) (hd : decode cc pc = .ok (.getfield 16, 3)) (kk : PF p l e R s m args below meth c nL G cells slots Qf (pc + 3) lv (.ref (gad G (ob + 3)) :: st) h o) : PF p l e R s m args below meth c nL G cells slots Qf pc lv (.ref (gad G ob) :: st) h o := f_get (k := 4) cx hk (by decide) rfl inX10 (by decide) rfl w_1319 rfl hd kk
theorem M2.g_X10_20 (cx : CX p s m args c cc nL RX10 G) {ob : Nat} (hk : kd ob = 9) (hd : decode cc pc = .ok (.getfield 20, 3)) (kk : PF p l e R s m args below meth c nL G cells slots Qf (pc + 3) lv (.ref (gad G (ob + 4)) :: st) h o) : PF p l e R s m args below meth c nL G cells slots Qf pc lv (.ref (gad G ob) :: st) h o := f_get (k := 5) cx hk (by decide) rfl inX10 (by decide) rfl w_1320 rfl hd kk
theorem M2.g_X10_128 (cx : CX p s m args c cc nL RX10 G) {ob : Nat} (hk : kd ob = 9) (hd : decode cc pc = .ok (.getfield 128, 3)) (kk : PF p l e R s m args below meth c nL G cells slots Qf (pc + 3) lv (.int (h ob 6) :: st) h o) : PF p l e R s m args below meth c nL G cells slots Qf pc lv (.ref (gad G ob) :: st) h o := f_get (k := 6) cx hk (by decide) rfl inX10 (by decide) rfl w_1321 rfl hd kk
theorem M2.u_X10_128 (cx : CX p s m args c cc nL RX10 G) {ob : Nat} {v : Int32} (hk : kd ob = 9) (hd : decode cc pc = .ok (.putfield 128, 3)) (kk : PF p l e R s m args below meth c nL G cells slots Qf (pc + 3) lv st (hp h ob 6 v) o) : PF p l e R s m args below meth c nL G cells slots Qf pc lv (.int v :: .ref (gad G ob) :: st) h o := f_put (k := 6) (ty := .int) (ty0 := tyX10) cx hk (by decide) rfl inX10 tyX10_ok nmX10 (by decide) (fu_9_6 _ _ _ _) (Nat.le_of_ble_eq_true rfl) w_1321 rfl rfl rfl rfl rfl hd kk
theorem M2.u_X10_108 (cx : CX p s m args c cc nL RX10 G) {ob : Nat} {v : Int32} (hk : kd ob = 9) (hd : decode cc pc = .ok (.putfield 108, 3)) (kk : PF p l e R s m args below meth c nL G cells slots Qf (pc + 3) lv st (hp h ob 8 v) o) : PF p l e R s m args below meth c nL G cells slots Qf pc lv (.int v :: .ref (gad G ob) :: st) h o := f_put (k := 8) (ty := .int) (ty0 := tyX10) cx hk (by decide) rfl inX10 tyX10_ok nmX10 (by decide) (fu_9_8 _ _ _ _) (Nat.le_of_ble_eq_true rfl) w_1323 rfl rfl rfl rfl rfl hd kk
theorem M2.u_X10_122 (cx : CX p s m args c cc nL RX10 G) {ob : Nat} {v : Int32} (hk : kd ob = 9) (hd : decode cc pc = .ok (.putfield 122, 3)) (kk : PF p l e R s m args below meth c nL G cells slots Qf (pc + 3) lv st (hp h ob 9 v) o) : PF p l e R s m args below meth c nL G cells slots Qf pc lv (.int v :: .ref (gad G ob) :: st) h o := f_put (k := 9) (ty := .int) (ty0 := tyX10) cx hk (by decide) rfl inX10 tyX10_ok nmX10 (by decide) (fu_9_9 _ _ _ _) (Nat.le_of_ble_eq_true rfl) w_1324 rfl rfl rfl rfl rfl hd kk
theorem M2.g_X10_30 (cx : CX p s m args c cc nL RX10 G) {ob : Nat} (hk : kd ob = 9) (hd : decode cc pc = .ok (.getfield 30, 3)) (kk : PF p l e R s m args below meth c nL G cells slots Qf (pc + 3) lv (.ref (gad G (ob + 6)) :: st) h o) : PF p l e R s m args below meth c nL G cells slots Qf pc lv (.ref (gad G ob) :: st) h o := f_get (k := 20) cx hk (by decide) rfl inX10 (by decide) rfl w_1335 rfl hd kk
theorem M2.k_X10_165 (cx : CX p s m args c cc nL RX10 G) {ob : Nat} {a1 a2 a3 : Value} {h1 : Hp} {f n : Nat} (hM : Ct l G yX10_puts cX10_puts 4 none f n [.ref (gad G ob), a1, a2, a3] h none h1) (hk : kd ob = 9) (hR : f + 1 ≤ R.frames ∧ 8 + (4 + 11) + n ≤ R.locals) (hcs : cells ≤ R.cells ∧ slots ≤ R.slots) (hW : (st.map fun v => v.category).sum ≤ 8) (hd : decode cc pc = .ok (.invokevirtual 165, 3)) (kk : PF p l e R s m args below meth c nL G cells slots Qf (pc + 3) lv (st) h1 o) : PF p l e R s m args below meth c nL G cells slots Qf pc lv (a3 :: a2 :: a1 :: .ref (gad G ob) :: st) h o := f_cvV3 cx hM hk (by decide) rfl w_1306 w_1308 w_33 w_104 w_1309 (by decide +kernel) (by decide +kernel) hR hcs hW hd kk
theorem M2.k_X10_170 (cx : CX p s m args c cc nL RX10 G) {ob : Nat} {a1 a2 a3 : Value} {h1 : Hp} {f n : Nat} (hM : Ct l G yX10_sends0 cX10_sends0 4 none f n [.ref (gad G ob), a1, a2, a3] h none h1) (hk : kd ob = 9) (hR : f + 1 ≤ R.frames ∧ 8 + (4 + 11) + n ≤ R.locals) (hcs : cells ≤ R.cells ∧ slots ≤ R.slots) (hW : (st.map fun v => v.category).sum ≤ 8) (hd : decode cc pc = .ok (.invokevirtual 170, 3)) (kk : PF p l e R s m args below meth c nL G cells slots Qf (pc + 3) lv (st) h1 o) : PF p l e R s m args below meth c nL G cells slots Qf pc lv (a3 :: a2 :: a1 :: .ref (gad G ob) :: st) h o := f_cvV3 cx hM hk (by decide) rfl w_1311 w_1313 w_34 w_104 w_1314 (by decide +kernel) (by decide +kernel) hR hcs hW hd kk
theorem M2.f_lp {β : Type} {b : (β → Option α) → β → Option α} {lvf : β → List (Option Value)} {hf : β → Hp} (hb : ∀ k : β → Option α, (∀ q, PF p l e R s m args below meth c nL G cells slots Qf pc (lvf q) [] (hf q) (k q)) → ∀ q, PF p l e R s m args below meth c nL G cells slots Qf pc (lvf q) [] (hf q) (b k q)) : ∀ n q, PF p l e R s m args below meth c nL G cells slots Qf pc (lvf q) [] (hf q) (lp b n q) := by
  intro n
  induction n with
  | zero => exact fun q => f_none
  | succ n ih => exact fun q => hb _ ih q
end M2L
abbrev M2.QI (below : List Frame) (G : GT) (args : Array Value) (s : State) : Int32 × Hp → State → Prop := fun a => MQ below (CtQ G (some (.int a.1)) a.2 s.heap.size) args s 0 0 (AG G s.heap.size)
abbrev M2.QV (below : List Frame) (G : GT) (args : Array Value) (s : State) : Hp → State → Prop := fun a => MQ below (CtQ G none a s.heap.size) args s 0 0 (AG G s.heap.size)

section M2R
variable {p : Program} {l : Launch} {e : Env} {R : Room} {s : State} {m : MethodId} {args : Array Value} {below : List Frame} {meth : Method} {c : Code} {cc : ByteArray} {nL : Nat} {own : String} {G : GT} {cells slots : Nat} {α : Type} {Qf : α → State → Prop} {pc : Nat} {lv : List (Option Value)} {st : List Value} {h : Hp} {o : Option α}
theorem M2.f_nvh {K : Hp → Option α} (k : ∀ z, PF p l e R s m args below meth c nL G cells slots Qf pc lv st z (K z)) : PF p l e R s m args below meth c nL G cells slots Qf pc lv st h (nv h K) := k h
theorem M2.f_nvi {x : Int32} {K : Int32 → Option α} (k : ∀ z, PF p l e R s m args below meth c nL G cells slots Qf pc lv (.int z :: st) h (K z)) : PF p l e R s m args below meth c nL G cells slots Qf pc lv (.int x :: st) h (nv x K) := k x
theorem M2.f_nvl {x : Int64} {K : Int64 → Option α} (k : ∀ z, PF p l e R s m args below meth c nL G cells slots Qf pc lv (.long z :: st) h (K z)) : PF p l e R s m args below meth c nL G cells slots Qf pc lv (.long x :: st) h (nv x K) := k x
theorem M2.f_ialdk (cx : CX p s m args c cc nL own G) {ob n j : Nat} {i : Int32} (hk : kd ob = 10000 + n) (hn : n < 10000) (hi : ib i n) (hj : i.toNatClampNeg = j) (hd : decode cc pc = .ok (.iaload, 1)) (k : PF p l e R s m args below meth c nL G cells slots Qf (pc + 1) lv (.int (h ob j) :: st) h o) : PF p l e R s m args below meth c nL G cells slots Qf pc lv (.int i :: .ref (gad G ob) :: st) h o := by
  subst hj
  exact f_iald cx hk hn hi hd k
theorem M2.f_zaldk (cx : CX p s m args c cc nL own G) {ob n j : Nat} {i : Int32} (hk : kd ob = 20000 + n) (hn : n < 10000) (hi : ib i n) (hj : i.toNatClampNeg = j) (hd : decode cc pc = .ok (.baload, 1)) (k : PF p l e R s m args below meth c nL G cells slots Qf (pc + 1) lv (.int (h ob j) :: st) h o) : PF p l e R s m args below meth c nL G cells slots Qf pc lv (.int i :: .ref (gad G ob) :: st) h o := by
  subst hj
  exact f_zald cx hk hn hi hd k
theorem M2.f_iastk (cx : CX p s m args c cc nL own G) {ob n j : Nat} {i x : Int32} (hk : kd ob = 10000 + n) (hn : n < 10000) (hi : ib i n) (hj : i.toNatClampNeg = j) (hd : decode cc pc = .ok (.iastore, 1)) (k : PF p l e R s m args below meth c nL G cells slots Qf (pc + 1) lv st (hp h ob j x) o) : PF p l e R s m args below meth c nL G cells slots Qf pc lv (.int x :: .int i :: .ref (gad G ob) :: st) h o := by
  subst hj
  exact f_iast cx hk hn hi hd k
theorem M2.f_zastk (cx : CX p s m args c cc nL own G) {ob n j : Nat} {i x : Int32} (hk : kd ob = 20000 + n) (hn : n < 10000) (hi : ib i n) (hj : i.toNatClampNeg = j) (hx : vp_nar .boolean x = x) (hd : decode cc pc = .ok (.bastore, 1)) (k : PF p l e R s m args below meth c nL G cells slots Qf (pc + 1) lv st (hp h ob j x) o) : PF p l e R s m args below meth c nL G cells slots Qf pc lv (.int x :: .int i :: .ref (gad G ob) :: st) h o := by
  subst hj
  exact f_zast cx hk hn hi hx hd k
end M2R
set_option maxRecDepth 4000 in
theorem M2.s_X10_puts {p : Program} {l : Launch} {e : Env} {s : State} {m : MethodId} {args : Array Value} {below : List Frame} {meth : Method} {c : Code} {G : GT} (cx : CX p s m args c cX10_puts 4 RX10 G) (hr : meth.sig.returnType = none) (hlk : meth.locks = false) (h : Hp) (o0 : Nat) (x1 : Int32) (x2 : Int32) (x3 : Int32) (hk_o0 : kd o0 = 9) : PF p l e (rmc 0 0) s m args below meth c 4 G 0 0 (QV below G args s) 0 [some (.ref (gad G o0)), some (.int x1), some (.int x2), some (.int x3)] [] h (p_X10_puts h o0 x1 x2 x3) := by
  unfold p_X10_puts
  refine f_aload_n (pc := 0) cx dX10_puts_0 rfl rfl ?_
  refine g_X10_30 (pc := 1) cx hk_o0 dX10_puts_1 ?_
  refine f_bipush (pc := 4) cx dX10_puts_4 kc_bipush_68 ?_
  refine f_bipush (pc := 6) cx dX10_puts_6 kc_bipush_13 ?_
  refine f_iload_n (pc := 8) cx dX10_puts_8 rfl rfl ?_
  refine f_imul (pc := 9) cx dX10_puts_9 ?_
  refine f_iadd (pc := 10) cx dX10_puts_10 ?_
  refine f_iload_n (pc := 11) cx dX10_puts_11 rfl rfl ?_
  refine f_iadd (pc := 12) cx dX10_puts_12 ?_
  refine f_iload_n (pc := 13) cx dX10_puts_13 rfl rfl ?_
  refine f_need (fun c1 => ?_)
  refine f_iast (pc := 14) (n := 3715) cx (kf_9_20 hk_o0) (by decide) c1 dX10_puts_14 ?_
  refine f_nvh (fun h2 => ?_)
  exact f_vret cx hr hlk dX10_puts_15
set_option maxRecDepth 4000 in
theorem M2.c_X10_puts (l : Launch) (G : GT) (h : Hp) (o0 : Nat) (x1 : Int32) (x2 : Int32) (x3 : Int32) (hk_o0 : kd o0 = 9) : CtV l G yX10_puts cX10_puts 4 none 0 0 [.ref (gad G o0), .int x1, .int x2, .int x3] h (p_X10_puts h o0 x1 x2 x3) := fun a ha => Ct.of (lv := [some (.ref (gad G o0)), some (.int x1), some (.int x2), some (.int x3)]) (by decide) rfl (Nat.le_of_ble_eq_true rfl) rfl (fun p e s m args below meth c cx hr hlk => s_X10_puts cx hr hlk h o0 x1 x2 x3 hk_o0 a ha)
set_option maxRecDepth 4000 in
theorem M2.s_X10_sends0 {p : Program} {l : Launch} {e : Env} {s : State} {m : MethodId} {args : Array Value} {below : List Frame} {meth : Method} {c : Code} {G : GT} (cx : CX p s m args c cX10_sends0 4 RX10 G) (hr : meth.sig.returnType = none) (hlk : meth.locks = false) (h : Hp) (o0 : Nat) (x1 : Int32) (x2 : Int32) (x3 : Int32) (hk_o0 : kd o0 = 9) : PF p l e (rmc 0 0) s m args below meth c 4 G 0 0 (QV below G args s) 0 [some (.ref (gad G o0)), some (.int x1), some (.int x2), some (.int x3)] [] h (p_X10_sends0 h o0 x1 x2 x3) := by
  unfold p_X10_sends0
  refine f_aload_n (pc := 0) cx dX10_sends0_0 rfl rfl ?_
  refine g_X10_30 (pc := 1) cx hk_o0 dX10_sends0_1 ?_
  refine f_sipush (pc := 4) cx dX10_sends0_4 kc_sipush_3478 ?_
  refine f_bipush (pc := 7) cx dX10_sends0_7 kc_bipush_9 ?_
  refine f_iload_n (pc := 9) cx dX10_sends0_9 rfl rfl ?_
  refine f_imul (pc := 10) cx dX10_sends0_10 ?_
  refine f_iadd (pc := 11) cx dX10_sends0_11 ?_
  refine f_iload_n (pc := 12) cx dX10_sends0_12 rfl rfl ?_
  refine f_iadd (pc := 13) cx dX10_sends0_13 ?_
  refine f_iload_n (pc := 14) cx dX10_sends0_14 rfl rfl ?_
  refine f_need (fun c1 => ?_)
  refine f_iast (pc := 15) (n := 3715) cx (kf_9_20 hk_o0) (by decide) c1 dX10_sends0_15 ?_
  refine f_nvh (fun h2 => ?_)
  exact f_vret cx hr hlk dX10_sends0_16
set_option maxRecDepth 4000 in
theorem M2.c_X10_sends0 (l : Launch) (G : GT) (h : Hp) (o0 : Nat) (x1 : Int32) (x2 : Int32) (x3 : Int32) (hk_o0 : kd o0 = 9) : CtV l G yX10_sends0 cX10_sends0 4 none 0 0 [.ref (gad G o0), .int x1, .int x2, .int x3] h (p_X10_sends0 h o0 x1 x2 x3) := fun a ha => Ct.of (lv := [some (.ref (gad G o0)), some (.int x1), some (.int x2), some (.int x3)]) (by decide) rfl (Nat.le_of_ble_eq_true rfl) rfl (fun p e s m args below meth c cx hr hlk => s_X10_sends0 cx hr hlk h o0 x1 x2 x3 hk_o0 a ha)
set_option maxRecDepth 4000 in
theorem M2.s_X10_freshText_64 {p : Program} {l : Launch} {e : Env} {s : State} {m : MethodId} {args : Array Value} {below : List Frame} {meth : Method} {c : Code} {G : GT} (cx : CX p s m args c cX10_freshText 2 RX10 G) (hr : meth.sig.returnType = none) (hlk : meth.locks = false) (o0 : Nat) (hk_o0 : kd o0 = 9) : ∀ (n : Nat) (q : Hp × Int32), PF p l e (rmc 0 0) s m args below meth c 2 G 0 0 (QV below G args s) 64 [some (.ref (gad G o0)), some (.int q.2)] [] q.1 (lp (b_X10_freshText_64 o0) n q) := by
  refine f_lp (lvf := fun (q : Hp × Int32) => [some (.ref (gad G o0)), some (.int q.2)]) (hf := fun (q : Hp × Int32) => q.1) (fun k64 hk64 q => ?_)
  show PF p l e (rmc 0 0) s m args below meth c 2 G 0 0 (QV below G args s) 64 [some (.ref (gad G o0)), some (.int q.2)] [] q.1 (b_X10_freshText_64 o0 k64 q)
  unfold b_X10_freshText_64
  refine f_iload_n (pc := 64) cx dX10_freshText_64 rfl rfl ?_
  refine f_bipush (pc := 65) cx dX10_freshText_65 kc_bipush_8 ?_
  refine f_icmp_ge (pc := 67) (tgt := 83) cx dX10_freshText_67 (by decide) (fun _ => ?_) (fun _ => ?_)
  · refine f_aload_n (pc := 83) cx dX10_freshText_83 rfl rfl ?_
    refine f_iconst (pc := 84) cx dX10_freshText_84 kc_iconst_0 ?_
    refine u_X10_128 (pc := 85) cx hk_o0 dX10_freshText_85 ?_
    refine f_nvh (fun h1 => ?_)
    refine f_aload_n (pc := 88) cx dX10_freshText_88 rfl rfl ?_
    refine f_iconst (pc := 89) cx dX10_freshText_89 kc_iconst_0 ?_
    refine u_X10_108 (pc := 90) cx hk_o0 dX10_freshText_90 ?_
    refine f_nvh (fun h2 => ?_)
    refine f_aload_n (pc := 93) cx dX10_freshText_93 rfl rfl ?_
    refine f_iconst (pc := 94) cx dX10_freshText_94 kc_iconst_0 ?_
    refine u_X10_122 (pc := 95) cx hk_o0 dX10_freshText_95 ?_
    refine f_nvh (fun h3 => ?_)
    exact f_vret cx hr hlk dX10_freshText_98
  · refine f_aload_n (pc := 70) cx dX10_freshText_70 rfl rfl ?_
    refine g_X10_16 (pc := 71) cx hk_o0 dX10_freshText_71 ?_
    refine f_iload_n (pc := 74) cx dX10_freshText_74 rfl rfl ?_
    refine f_iconst (pc := 75) cx dX10_freshText_75 kc_iconst_0 ?_
    refine f_need (fun c4 => ?_)
    refine f_zast (pc := 76) (n := 8) cx (kf_9_4 hk_o0) (by decide) c4 (bb_v bb_0) dX10_freshText_76 ?_
    refine f_nvh (fun h5 => ?_)
    refine f_iinc1 (pc := 77) cx dX10_freshText_77 kc_iconst_1 (by decide) rfl ?_
    refine f_goto (pc := 80) (tgt := 64) cx dX10_freshText_80 (by decide) ?_
    exact f_weak (LSb.s (LSb.s LSb.e)) (hk64 (h5, q.2 + 1))
set_option maxRecDepth 4000 in
theorem M2.s_X10_freshText {p : Program} {l : Launch} {e : Env} {s : State} {m : MethodId} {args : Array Value} {below : List Frame} {meth : Method} {c : Code} {G : GT} (cx : CX p s m args c cX10_freshText 2 RX10 G) (hr : meth.sig.returnType = none) (hlk : meth.locks = false) (h : Hp) (o0 : Nat) (hk_o0 : kd o0 = 9) : PF p l e (rmc 0 0) s m args below meth c 2 G 0 0 (QV below G args s) 0 [some (.ref (gad G o0)), none] [] h (p_X10_freshText h o0) := by
  unfold p_X10_freshText
  refine f_aload_n (pc := 0) cx dX10_freshText_0 rfl rfl ?_
  refine g_X10_13 (pc := 1) cx hk_o0 dX10_freshText_1 ?_
  refine f_iconst (pc := 4) cx dX10_freshText_4 kc_iconst_0 ?_
  refine f_iconst (pc := 5) cx dX10_freshText_5 kc_iconst_5 ?_
  refine f_iastk (pc := 6) (j := 0) (n := 8) cx (kf_9_3 hk_o0) (by decide) (by decide) kl_0 dX10_freshText_6 ?_
  refine f_nvh (fun h6 => ?_)
  refine f_aload_n (pc := 7) cx dX10_freshText_7 rfl rfl ?_
  refine g_X10_13 (pc := 8) cx hk_o0 dX10_freshText_8 ?_
  refine f_iconst (pc := 11) cx dX10_freshText_11 kc_iconst_1 ?_
  refine f_bipush (pc := 12) cx dX10_freshText_12 kc_bipush_100 ?_
  refine f_iastk (pc := 14) (j := 1) (n := 8) cx (kf_9_3 hk_o0) (by decide) (by decide) kl_1 dX10_freshText_14 ?_
  refine f_nvh (fun h7 => ?_)
  refine f_aload_n (pc := 15) cx dX10_freshText_15 rfl rfl ?_
  refine g_X10_13 (pc := 16) cx hk_o0 dX10_freshText_16 ?_
  refine f_iconst (pc := 19) cx dX10_freshText_19 kc_iconst_2 ?_
  refine f_sipush (pc := 20) cx dX10_freshText_20 kc_sipush_300 ?_
  refine f_iastk (pc := 23) (j := 2) (n := 8) cx (kf_9_3 hk_o0) (by decide) (by decide) kl_2 dX10_freshText_23 ?_
  refine f_nvh (fun h8 => ?_)
  refine f_aload_n (pc := 24) cx dX10_freshText_24 rfl rfl ?_
  refine g_X10_13 (pc := 25) cx hk_o0 dX10_freshText_25 ?_
  refine f_iconst (pc := 28) cx dX10_freshText_28 kc_iconst_3 ?_
  refine f_bipush (pc := 29) cx dX10_freshText_29 kc_bipush_40 ?_
  refine f_iastk (pc := 31) (j := 3) (n := 8) cx (kf_9_3 hk_o0) (by decide) (by decide) kl_3 dX10_freshText_31 ?_
  refine f_nvh (fun h9 => ?_)
  refine f_aload_n (pc := 32) cx dX10_freshText_32 rfl rfl ?_
  refine g_X10_13 (pc := 33) cx hk_o0 dX10_freshText_33 ?_
  refine f_iconst (pc := 36) cx dX10_freshText_36 kc_iconst_4 ?_
  refine f_iconst (pc := 37) cx dX10_freshText_37 kc_iconst_0 ?_
  refine f_iastk (pc := 38) (j := 4) (n := 8) cx (kf_9_3 hk_o0) (by decide) (by decide) kl_4 dX10_freshText_38 ?_
  refine f_nvh (fun h10 => ?_)
  refine f_aload_n (pc := 39) cx dX10_freshText_39 rfl rfl ?_
  refine g_X10_13 (pc := 40) cx hk_o0 dX10_freshText_40 ?_
  refine f_iconst (pc := 43) cx dX10_freshText_43 kc_iconst_5 ?_
  refine f_iconst (pc := 44) cx dX10_freshText_44 kc_iconst_0 ?_
  refine f_iastk (pc := 45) (j := 5) (n := 8) cx (kf_9_3 hk_o0) (by decide) (by decide) kl_5 dX10_freshText_45 ?_
  refine f_nvh (fun h11 => ?_)
  refine f_aload_n (pc := 46) cx dX10_freshText_46 rfl rfl ?_
  refine g_X10_13 (pc := 47) cx hk_o0 dX10_freshText_47 ?_
  refine f_bipush (pc := 50) cx dX10_freshText_50 kc_bipush_6 ?_
  refine f_iconst (pc := 52) cx dX10_freshText_52 kc_iconst_2 ?_
  refine f_iastk (pc := 53) (j := 6) (n := 8) cx (kf_9_3 hk_o0) (by decide) (by decide) kl_6 dX10_freshText_53 ?_
  refine f_nvh (fun h12 => ?_)
  refine f_aload_n (pc := 54) cx dX10_freshText_54 rfl rfl ?_
  refine g_X10_13 (pc := 55) cx hk_o0 dX10_freshText_55 ?_
  refine f_bipush (pc := 58) cx dX10_freshText_58 kc_bipush_7 ?_
  refine f_iconst (pc := 60) cx dX10_freshText_60 kc_iconst_2 ?_
  refine f_iastk (pc := 61) (j := 7) (n := 8) cx (kf_9_3 hk_o0) (by decide) (by decide) kl_7 dX10_freshText_61 ?_
  refine f_nvh (fun h13 => ?_)
  refine f_iconst (pc := 62) cx dX10_freshText_62 kc_iconst_0 ?_
  refine f_istore1 (pc := 63) cx dX10_freshText_63 (by decide) rfl ?_
  exact f_weak (LSb.s (LSb.s LSb.e)) (s_X10_freshText_64 cx hr hlk o0 hk_o0 FU (h13, 0))
set_option maxRecDepth 4000 in
theorem M2.c_X10_freshText (l : Launch) (G : GT) (h : Hp) (o0 : Nat) (hk_o0 : kd o0 = 9) : CtV l G yX10_freshText cX10_freshText 2 none 0 0 [.ref (gad G o0)] h (p_X10_freshText h o0) := fun a ha => Ct.of (lv := [some (.ref (gad G o0)), none]) (by decide) rfl (Nat.le_of_ble_eq_true rfl) rfl (fun p e s m args below meth c cx hr hlk => s_X10_freshText cx hr hlk h o0 hk_o0 a ha)
set_option maxRecDepth 4000 in
theorem M2.s_X10_begins_142 {p : Program} {l : Launch} {e : Env} {s : State} {m : MethodId} {args : Array Value} {below : List Frame} {meth : Method} {c : Code} {G : GT} (cx : CX p s m args c cX10_begins 3 RX10 G) (hr : meth.sig.returnType = none) (hlk : meth.locks = false) (o0 : Nat) (x1 : Int32) (hk_o0 : kd o0 = 9) (k132 : Hp × Int32 → Option Hp) (hk132 : ∀ (q : Hp × Int32), PF p l e (rmc 1 23) s m args below meth c 3 G 0 0 (QV below G args s) 132 [some (.ref (gad G o0)), some (.int q.2), none] [] q.1 (k132 q)) : ∀ (n : Nat) (q : Hp × Int32), PF p l e (rmc 1 23) s m args below meth c 3 G 0 0 (QV below G args s) 142 [some (.ref (gad G o0)), some (.int x1), some (.int q.2)] [] q.1 (lp (b_X10_begins_142 k132 o0 x1) n q) := by
  refine f_lp (lvf := fun (q : Hp × Int32) => [some (.ref (gad G o0)), some (.int x1), some (.int q.2)]) (hf := fun (q : Hp × Int32) => q.1) (fun k142 hk142 q => ?_)
  show PF p l e (rmc 1 23) s m args below meth c 3 G 0 0 (QV below G args s) 142 [some (.ref (gad G o0)), some (.int x1), some (.int q.2)] [] q.1 (b_X10_begins_142 k132 o0 x1 k142 q)
  unfold b_X10_begins_142
  refine f_iload_n (pc := 142) cx dX10_begins_142 rfl rfl ?_
  refine f_iconst (pc := 143) cx dX10_begins_143 kc_iconst_5 ?_
  refine f_icmp_ge (pc := 144) (tgt := 169) cx dX10_begins_144 (by decide) (fun _ => ?_) (fun _ => ?_)
  · refine f_aload_n (pc := 169) cx dX10_begins_169 rfl rfl ?_
    refine f_iload_n (pc := 170) cx dX10_begins_170 rfl rfl ?_
    refine f_bipush (pc := 171) cx dX10_begins_171 kc_bipush_7 ?_
    refine f_bipush (pc := 173) cx dX10_begins_173 kc_bipush_m2 ?_
    refine f_bind (fun r1 hr1 => ?_)
    refine k_X10_170 (pc := 175) cx (c_X10_sends0 l G _ o0 x1 7 (-2) hk_o0 r1 hr1) hk_o0 ⟨by decide, by decide⟩ ⟨Nat.zero_le _, Nat.zero_le _⟩ (Nat.le_of_ble_eq_true rfl) dX10_begins_175 ?_
    refine f_iinc1 (pc := 178) cx dX10_begins_178 kc_iconst_1 (by decide) rfl ?_
    refine f_goto (pc := 181) (tgt := 132) cx dX10_begins_181 (by decide) ?_
    exact f_weak (LSb.s (LSb.s (LSb.n LSb.e))) (hk132 (r1, x1 + 1))
  · refine f_aload_n (pc := 147) cx dX10_begins_147 rfl rfl ?_
    refine f_iload_n (pc := 148) cx dX10_begins_148 rfl rfl ?_
    refine f_iload_n (pc := 149) cx dX10_begins_149 rfl rfl ?_
    refine f_aload_n (pc := 150) cx dX10_begins_150 rfl rfl ?_
    refine g_X10_20 (pc := 151) cx hk_o0 dX10_begins_151 ?_
    refine f_iconst (pc := 154) cx dX10_begins_154 kc_iconst_5 ?_
    refine f_iload_n (pc := 155) cx dX10_begins_155 rfl rfl ?_
    refine f_imul (pc := 156) cx dX10_begins_156 ?_
    refine f_iload_n (pc := 157) cx dX10_begins_157 rfl rfl ?_
    refine f_iadd (pc := 158) cx dX10_begins_158 ?_
    refine f_need (fun c2 => ?_)
    refine f_iald (pc := 159) (n := 20) cx (kf_9_5 hk_o0) (by decide) c2 dX10_begins_159 ?_
    refine f_bind (fun r3 hr3 => ?_)
    refine k_X10_170 (pc := 160) cx (c_X10_sends0 l G _ o0 x1 q.2 (q.1 (o0 + 4) (Int32.toNatClampNeg ((5 * x1) + q.2))) hk_o0 r3 hr3) hk_o0 ⟨by decide, by decide⟩ ⟨Nat.zero_le _, Nat.zero_le _⟩ (Nat.le_of_ble_eq_true rfl) dX10_begins_160 ?_
    refine f_iinc2 (pc := 163) cx dX10_begins_163 kc_iconst_1 (by decide) rfl ?_
    refine f_goto (pc := 166) (tgt := 142) cx dX10_begins_166 (by decide) ?_
    exact f_weak (LSb.s (LSb.s (LSb.s LSb.e))) (hk142 (r3, q.2 + 1))
set_option maxRecDepth 4000 in
theorem M2.s_X10_begins_132 {p : Program} {l : Launch} {e : Env} {s : State} {m : MethodId} {args : Array Value} {below : List Frame} {meth : Method} {c : Code} {G : GT} (cx : CX p s m args c cX10_begins 3 RX10 G) (hr : meth.sig.returnType = none) (hlk : meth.locks = false) (o0 : Nat) (hk_o0 : kd o0 = 9) : ∀ (n : Nat) (q : Hp × Int32), PF p l e (rmc 1 23) s m args below meth c 3 G 0 0 (QV below G args s) 132 [some (.ref (gad G o0)), some (.int q.2), none] [] q.1 (lp (b_X10_begins_132 o0) n q) := by
  refine f_lp (lvf := fun (q : Hp × Int32) => [some (.ref (gad G o0)), some (.int q.2), none]) (hf := fun (q : Hp × Int32) => q.1) (fun k132 hk132 q => ?_)
  show PF p l e (rmc 1 23) s m args below meth c 3 G 0 0 (QV below G args s) 132 [some (.ref (gad G o0)), some (.int q.2), none] [] q.1 (b_X10_begins_132 o0 k132 q)
  unfold b_X10_begins_132
  refine f_iload_n (pc := 132) cx dX10_begins_132 rfl rfl ?_
  refine f_aload_n (pc := 133) cx dX10_begins_133 rfl rfl ?_
  refine g_X10_128 (pc := 134) cx hk_o0 dX10_begins_134 ?_
  refine f_icmp_ge (pc := 137) (tgt := 184) cx dX10_begins_137 (by decide) (fun _ => ?_) (fun _ => ?_)
  · exact f_vret cx hr hlk dX10_begins_184
  · refine f_iconst (pc := 140) cx dX10_begins_140 kc_iconst_0 ?_
    refine f_istore2 (pc := 141) cx dX10_begins_141 (by decide) rfl ?_
    exact f_weak (LSb.s (LSb.s (LSb.s LSb.e))) (s_X10_begins_142 cx hr hlk o0 q.2 hk_o0 k132 hk132 FU (q.1, 0))
set_option maxRecDepth 4000 in
theorem M2.s_X10_begins_80 {p : Program} {l : Launch} {e : Env} {s : State} {m : MethodId} {args : Array Value} {below : List Frame} {meth : Method} {c : Code} {G : GT} (cx : CX p s m args c cX10_begins 3 RX10 G) (hr : meth.sig.returnType = none) (hlk : meth.locks = false) (o0 : Nat) (hk_o0 : kd o0 = 9) : ∀ (n : Nat) (q : Hp × Int32), PF p l e (rmc 1 23) s m args below meth c 3 G 0 0 (QV below G args s) 80 [some (.ref (gad G o0)), some (.int q.2), none] [] q.1 (lp (b_X10_begins_80 o0) n q) := by
  refine f_lp (lvf := fun (q : Hp × Int32) => [some (.ref (gad G o0)), some (.int q.2), none]) (hf := fun (q : Hp × Int32) => q.1) (fun k80 hk80 q => ?_)
  show PF p l e (rmc 1 23) s m args below meth c 3 G 0 0 (QV below G args s) 80 [some (.ref (gad G o0)), some (.int q.2), none] [] q.1 (b_X10_begins_80 o0 k80 q)
  unfold b_X10_begins_80
  refine f_iload_n (pc := 80) cx dX10_begins_80 rfl rfl ?_
  refine f_bipush (pc := 81) cx dX10_begins_81 kc_bipush_16 ?_
  refine f_icmp_ge (pc := 83) (tgt := 118) cx dX10_begins_83 (by decide) (fun _ => ?_) (fun _ => ?_)
  · refine f_aload_n (pc := 118) cx dX10_begins_118 rfl rfl ?_
    refine g_X10_30 (pc := 119) cx hk_o0 dX10_begins_119 ?_
    refine f_sipush (pc := 122) cx dX10_begins_122 kc_sipush_3477 ?_
    refine f_aload_n (pc := 125) cx dX10_begins_125 rfl rfl ?_
    refine g_X10_128 (pc := 126) cx hk_o0 dX10_begins_126 ?_
    refine f_iastk (pc := 129) (j := 3477) (n := 3715) cx (kf_9_20 hk_o0) (by decide) (by decide) kl_3477 dX10_begins_129 ?_
    refine f_nvh (fun h4 => ?_)
    refine f_iconst (pc := 130) cx dX10_begins_130 kc_iconst_0 ?_
    refine f_istore1 (pc := 131) cx dX10_begins_131 (by decide) rfl ?_
    exact f_weak (LSb.s (LSb.s (LSb.n LSb.e))) (s_X10_begins_132 cx hr hlk o0 hk_o0 FU (h4, 0))
  · refine f_aload_n (pc := 86) cx dX10_begins_86 rfl rfl ?_
    refine f_iload_n (pc := 87) cx dX10_begins_87 rfl rfl ?_
    refine f_iconst (pc := 88) cx dX10_begins_88 kc_iconst_0 ?_
    refine f_bipush (pc := 89) cx dX10_begins_89 kc_bipush_m2 ?_
    refine f_bind (fun r5 hr5 => ?_)
    refine k_X10_165 (pc := 91) cx (c_X10_puts l G _ o0 q.2 0 (-2) hk_o0 r5 hr5) hk_o0 ⟨by decide, by decide⟩ ⟨Nat.zero_le _, Nat.zero_le _⟩ (Nat.le_of_ble_eq_true rfl) dX10_begins_91 ?_
    refine f_aload_n (pc := 94) cx dX10_begins_94 rfl rfl ?_
    refine f_iload_n (pc := 95) cx dX10_begins_95 rfl rfl ?_
    refine f_bipush (pc := 96) cx dX10_begins_96 kc_bipush_7 ?_
    refine f_bipush (pc := 98) cx dX10_begins_98 kc_bipush_m2 ?_
    refine f_bind (fun r6 hr6 => ?_)
    refine k_X10_165 (pc := 100) cx (c_X10_puts l G _ o0 q.2 7 (-2) hk_o0 r6 hr6) hk_o0 ⟨by decide, by decide⟩ ⟨Nat.zero_le _, Nat.zero_le _⟩ (Nat.le_of_ble_eq_true rfl) dX10_begins_100 ?_
    refine f_aload_n (pc := 103) cx dX10_begins_103 rfl rfl ?_
    refine f_iload_n (pc := 104) cx dX10_begins_104 rfl rfl ?_
    refine f_bipush (pc := 105) cx dX10_begins_105 kc_bipush_8 ?_
    refine f_ldc (pc := 107) cx w_1310 dX10_begins_107 ?_
    refine f_bind (fun r7 hr7 => ?_)
    refine k_X10_165 (pc := 109) cx (c_X10_puts l G _ o0 q.2 8 65535 hk_o0 r7 hr7) hk_o0 ⟨by decide, by decide⟩ ⟨Nat.zero_le _, Nat.zero_le _⟩ (Nat.le_of_ble_eq_true rfl) dX10_begins_109 ?_
    refine f_iinc1 (pc := 112) cx dX10_begins_112 kc_iconst_1 (by decide) rfl ?_
    refine f_goto (pc := 115) (tgt := 80) cx dX10_begins_115 (by decide) ?_
    exact f_weak (LSb.s (LSb.s (LSb.n LSb.e))) (hk80 (r7, q.2 + 1))
set_option maxRecDepth 4000 in
theorem M2.s_X10_begins_24 {p : Program} {l : Launch} {e : Env} {s : State} {m : MethodId} {args : Array Value} {below : List Frame} {meth : Method} {c : Code} {G : GT} (cx : CX p s m args c cX10_begins 3 RX10 G) (hr : meth.sig.returnType = none) (hlk : meth.locks = false) (o0 : Nat) (hk_o0 : kd o0 = 9) : ∀ (n : Nat) (q : Hp × Int32), PF p l e (rmc 1 23) s m args below meth c 3 G 0 0 (QV below G args s) 24 [some (.ref (gad G o0)), some (.int q.2), none] [] q.1 (lp (b_X10_begins_24 o0) n q) := by
  refine f_lp (lvf := fun (q : Hp × Int32) => [some (.ref (gad G o0)), some (.int q.2), none]) (hf := fun (q : Hp × Int32) => q.1) (fun k24 hk24 q => ?_)
  show PF p l e (rmc 1 23) s m args below meth c 3 G 0 0 (QV below G args s) 24 [some (.ref (gad G o0)), some (.int q.2), none] [] q.1 (b_X10_begins_24 o0 k24 q)
  unfold b_X10_begins_24
  refine f_iload_n (pc := 24) cx dX10_begins_24 rfl rfl ?_
  refine f_bipush (pc := 25) cx dX10_begins_25 kc_bipush_6 ?_
  refine f_icmp_ge (pc := 27) (tgt := 50) cx dX10_begins_27 (by decide) (fun _ => ?_) (fun _ => ?_)
  · refine f_aload_n (pc := 50) cx dX10_begins_50 rfl rfl ?_
    refine g_X10_30 (pc := 51) cx hk_o0 dX10_begins_51 ?_
    refine f_bipush (pc := 54) cx dX10_begins_54 kc_bipush_10 ?_
    refine f_aload_n (pc := 56) cx dX10_begins_56 rfl rfl ?_
    refine g_X10_13 (pc := 57) cx hk_o0 dX10_begins_57 ?_
    refine f_bipush (pc := 60) cx dX10_begins_60 kc_bipush_6 ?_
    refine f_ialdk (pc := 62) (j := 6) (n := 8) cx (kf_9_3 hk_o0) (by decide) (by decide) kl_6 dX10_begins_62 ?_
    refine f_iastk (pc := 63) (j := 10) (n := 3715) cx (kf_9_20 hk_o0) (by decide) (by decide) kl_10 dX10_begins_63 ?_
    refine f_nvh (fun h8 => ?_)
    refine f_aload_n (pc := 64) cx dX10_begins_64 rfl rfl ?_
    refine g_X10_30 (pc := 65) cx hk_o0 dX10_begins_65 ?_
    refine f_bipush (pc := 68) cx dX10_begins_68 kc_bipush_11 ?_
    refine f_aload_n (pc := 70) cx dX10_begins_70 rfl rfl ?_
    refine g_X10_13 (pc := 71) cx hk_o0 dX10_begins_71 ?_
    refine f_bipush (pc := 74) cx dX10_begins_74 kc_bipush_7 ?_
    refine f_ialdk (pc := 76) (j := 7) (n := 8) cx (kf_9_3 hk_o0) (by decide) (by decide) kl_7 dX10_begins_76 ?_
    refine f_iastk (pc := 77) (j := 11) (n := 3715) cx (kf_9_20 hk_o0) (by decide) (by decide) kl_11 dX10_begins_77 ?_
    refine f_nvh (fun h9 => ?_)
    refine f_iconst (pc := 78) cx dX10_begins_78 kc_iconst_0 ?_
    refine f_istore1 (pc := 79) cx dX10_begins_79 (by decide) rfl ?_
    exact f_weak (LSb.s (LSb.s (LSb.n LSb.e))) (s_X10_begins_80 cx hr hlk o0 hk_o0 FU (h9, 0))
  · refine f_aload_n (pc := 30) cx dX10_begins_30 rfl rfl ?_
    refine g_X10_30 (pc := 31) cx hk_o0 dX10_begins_31 ?_
    refine f_iconst (pc := 34) cx dX10_begins_34 kc_iconst_4 ?_
    refine f_iload_n (pc := 35) cx dX10_begins_35 rfl rfl ?_
    refine f_iadd (pc := 36) cx dX10_begins_36 ?_
    refine f_aload_n (pc := 37) cx dX10_begins_37 rfl rfl ?_
    refine g_X10_13 (pc := 38) cx hk_o0 dX10_begins_38 ?_
    refine f_iload_n (pc := 41) cx dX10_begins_41 rfl rfl ?_
    refine f_need (fun c10 => ?_)
    refine f_iald (pc := 42) (n := 8) cx (kf_9_3 hk_o0) (by decide) c10 dX10_begins_42 ?_
    refine f_need (fun c11 => ?_)
    refine f_iast (pc := 43) (n := 3715) cx (kf_9_20 hk_o0) (by decide) c11 dX10_begins_43 ?_
    refine f_nvh (fun h12 => ?_)
    refine f_iinc1 (pc := 44) cx dX10_begins_44 kc_iconst_1 (by decide) rfl ?_
    refine f_goto (pc := 47) (tgt := 24) cx dX10_begins_47 (by decide) ?_
    exact f_weak (LSb.s (LSb.s (LSb.n LSb.e))) (hk24 (h12, q.2 + 1))
set_option maxRecDepth 4000 in
theorem M2.s_X10_begins_2 {p : Program} {l : Launch} {e : Env} {s : State} {m : MethodId} {args : Array Value} {below : List Frame} {meth : Method} {c : Code} {G : GT} (cx : CX p s m args c cX10_begins 3 RX10 G) (hr : meth.sig.returnType = none) (hlk : meth.locks = false) (o0 : Nat) (hk_o0 : kd o0 = 9) : ∀ (n : Nat) (q : Hp × Int32), PF p l e (rmc 1 23) s m args below meth c 3 G 0 0 (QV below G args s) 2 [some (.ref (gad G o0)), some (.int q.2), none] [] q.1 (lp (b_X10_begins_2 o0) n q) := by
  refine f_lp (lvf := fun (q : Hp × Int32) => [some (.ref (gad G o0)), some (.int q.2), none]) (hf := fun (q : Hp × Int32) => q.1) (fun k2 hk2 q => ?_)
  show PF p l e (rmc 1 23) s m args below meth c 3 G 0 0 (QV below G args s) 2 [some (.ref (gad G o0)), some (.int q.2), none] [] q.1 (b_X10_begins_2 o0 k2 q)
  unfold b_X10_begins_2
  refine f_iload_n (pc := 2) cx dX10_begins_2 rfl rfl ?_
  refine f_sipush (pc := 3) cx dX10_begins_3 kc_sipush_3715 ?_
  refine f_icmp_ge (pc := 6) (tgt := 22) cx dX10_begins_6 (by decide) (fun _ => ?_) (fun _ => ?_)
  · refine f_iconst (pc := 22) cx dX10_begins_22 kc_iconst_0 ?_
    refine f_istore1 (pc := 23) cx dX10_begins_23 (by decide) rfl ?_
    exact f_weak (LSb.s (LSb.s (LSb.n LSb.e))) (s_X10_begins_24 cx hr hlk o0 hk_o0 FU (q.1, 0))
  · refine f_aload_n (pc := 9) cx dX10_begins_9 rfl rfl ?_
    refine g_X10_30 (pc := 10) cx hk_o0 dX10_begins_10 ?_
    refine f_iload_n (pc := 13) cx dX10_begins_13 rfl rfl ?_
    refine f_iconst (pc := 14) cx dX10_begins_14 kc_iconst_0 ?_
    refine f_need (fun c13 => ?_)
    refine f_iast (pc := 15) (n := 3715) cx (kf_9_20 hk_o0) (by decide) c13 dX10_begins_15 ?_
    refine f_nvh (fun h14 => ?_)
    refine f_iinc1 (pc := 16) cx dX10_begins_16 kc_iconst_1 (by decide) rfl ?_
    refine f_goto (pc := 19) (tgt := 2) cx dX10_begins_19 (by decide) ?_
    exact f_weak (LSb.s (LSb.s (LSb.n LSb.e))) (hk2 (h14, q.2 + 1))
set_option maxRecDepth 4000 in
theorem M2.s_X10_begins {p : Program} {l : Launch} {e : Env} {s : State} {m : MethodId} {args : Array Value} {below : List Frame} {meth : Method} {c : Code} {G : GT} (cx : CX p s m args c cX10_begins 3 RX10 G) (hr : meth.sig.returnType = none) (hlk : meth.locks = false) (h : Hp) (o0 : Nat) (hk_o0 : kd o0 = 9) : PF p l e (rmc 1 23) s m args below meth c 3 G 0 0 (QV below G args s) 0 [some (.ref (gad G o0)), none, none] [] h (p_X10_begins h o0) := by
  unfold p_X10_begins
  refine f_iconst (pc := 0) cx dX10_begins_0 kc_iconst_0 ?_
  refine f_istore1 (pc := 1) cx dX10_begins_1 (by decide) rfl ?_
  exact f_weak (LSb.s (LSb.s (LSb.n LSb.e))) (s_X10_begins_2 cx hr hlk o0 hk_o0 FU (h, 0))
set_option maxRecDepth 4000 in
theorem M2.c_X10_begins (l : Launch) (G : GT) (h : Hp) (o0 : Nat) (hk_o0 : kd o0 = 9) : CtV l G yX10_begins cX10_begins 3 none 1 23 [.ref (gad G o0)] h (p_X10_begins h o0) := fun a ha => Ct.of (lv := [some (.ref (gad G o0)), none, none]) (by decide) rfl (Nat.le_of_ble_eq_true rfl) rfl (fun p e s m args below meth c cx hr hlk => s_X10_begins cx hr hlk h o0 hk_o0 a ha)
