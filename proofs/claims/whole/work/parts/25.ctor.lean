theorem w_oi : Cond.instanceMethod objectInit ∈ lw_tbl := wi 122 (by decide +kernel)
theorem w_oc : Cond.code objectInit object_method_1_code 1 none ∈ lw_tbl := wi 123 (by decide +kernel)
theorem w_ai : Cond.arrayClass .int ∈ lw_tbl := wi 186 (by decide +kernel)
theorem w_az : Cond.arrayClass .boolean ∈ lw_tbl := wi 1385 (by decide +kernel)
theorem w_al : Cond.arrayClass .long ∈ lw_tbl := wi 1830 (by decide +kernel)
def AO2 (U : State) : Prop := va_AO "QueueKeeper$Bucket" U ∧ va_AO "QueueKeeper$Sender" U
/-! constructors: a walk over the cells that a constructor has in hand -/
def CC (p : Program) (s : State) (m : MethodId) (args : Array Value) (meth : Method) (c : Code) (cc : ByteArray) (nL : Nat) (own : String) (G : GT) (A : Nat → Prop) : Prop :=
  p.tables.exec = Jvm.exec ∧ c.code = cc ∧ c.maxLocals = nL ∧ s.vm.findClass own = some m.cls ∧ GE s ∧ va_K G.1 vwCl (tysG G) s ∧ (∀ q, s.heap.size ≤ q → A q) ∧ ST G A s s.heap ∧ (meth.name = "<init>" ∨ own = RL) ∧ AO2 s
def PC (p : Program) (l : Launch) (e : Env) (R : Room) (s : State) (m : MethodId) (args : Array Value) (below : List Frame) (meth : Method) (c : Code) (nL : Nat) (G : GT) (A : Nat → Prop) (cells slots : Nat) (Q : State → Prop) (pc : Nat) (lv : List (Option Value)) (st : List Value) (ws : va_W) : Prop :=
  ∀ (H : Heap) (locs : List Loc) (ls : Array Slot), LV ls nL lv → va_P G.1 vwCl ws H → va_D A ws → va_S A s.heap H locs → W p l e R s m args below meth c H locs cells slots Q (F0 m pc ls st)
def PreC (G : GT) (wc : va_W) (sz : Nat) (U : State) : Prop := U.heap.size = sz ∧ GE U ∧ va_K G.1 vwCl (tysG G) U ∧ ST G (va_A wc sz) U U.heap ∧ va_P G.1 vwCl wc U.heap ∧ va_D (fun _ => True) wc ∧ AO2 U
def rmk (f k n o : Nat) : Room := { frames := f, cells := k, slots := n, locals := o }
def QC (G : GT) (wc : va_W) (w1 : (Nat → Nat) → va_W) (sz : Nat) : Array Value → State → Outcome → State → Prop := va_Qv (fun _ : Nat → Nat => True) (fun u t => va_P G.1 vwCl (w1 u) t.heap ∧ va_D (va_A wc sz) (w1 u)) (va_A wc sz)
def CtN (l : Launch) (G : GT) (y : MethodName) (cc : ByteArray) (maxL : Nat) (f k n o : Nat) (a : Nat) (wc : va_W) (w1 : (Nat → Nat) → va_W) : Prop :=
  ∀ sz, Met l y [.code y cc maxL none] (rmk f k n o) (va_Pc [.ref a] (PreC G wc sz)) (QC G wc w1 sz) k n (va_A wc sz)
theorem AO2.moved {u U : State} (hvm : u.vm.Alike U.vm) (h : AO2 u) : AO2 U := ⟨h.1.moved hvm, h.2.moved hvm⟩
theorem PreC.blind {G : GT} {wc : va_W} {sz : Nat} {av : List Value} : FrameBlind (va_Pc av (PreC G wc sz)) := by
  intro a U g mk q
  obtain ⟨q0, q1, q2, q3, q4, q5, q6, q7⟩ := q
  exact ⟨q0, q1, GE.warm (U := U.calling g mk a) (State.WarmedH.refl U) q2, va_K.moved (u := U) (U := U.calling g mk a) (Vm.Alike.refl U.vm) q3, ST.warm (U := U.calling g mk a) (State.WarmedH.refl U) q4, q5, q6, AO2.moved (u := U) (U := U.calling g mk a) (Vm.Alike.refl U.vm) q7⟩
theorem CtN.of {l : Launch} {G : GT} {y : MethodName} {cc : ByteArray} {maxL f k n o a : Nat} {raw : va_E} {w1 : (Nat → Nat) → va_W} {lv : List (Option Value)} (hy : plainName y.cls = true) (hi : y.name = "<init>") (hm : (lg_sl [.ref a]).length ≤ maxL) (hlv : lv = [.ref a].map some ++ List.replicate (maxL - [Value.ref a].length) none)
    (body : ∀ (p : Program) (e : Env) (s : State) (m : MethodId) (args : Array Value) (below : List Frame) (meth : Method) (c : Code), CC p s m args meth c cc maxL y.cls G (va_A [(a, raw)] s.heap.size) → meth.sig.returnType = none → meth.locks = false →
      PC p l e (rmk f k n o) s m args below meth c maxL G (va_A [(a, raw)] s.heap.size) 0 0 (MQ below (QC G [(a, raw)] w1 s.heap.size) args s k n (va_A [(a, raw)] s.heap.size)) 0 lv [] [(a, raw)]) : CtN l G y cc maxL f k n o a [(a, raw)] w1 := by
  intro sz
  refine Met.ofW (cc := cc) (maxL := maxL) (ret := none) hy rfl ?_
  intro p e s m args below meth c s₁ B hml hv
  obtain ⟨rfl, hsz, hg, hk, hst, hP, hD, hao⟩ := hv
  subst hsz
  have hl := lv_entry [.ref a] (n := maxL) hm
  rw [lg_entry_eq]
  have hin : meth.name = "<init>" := by rw [← hi]; exact (name_of_methodNamed B.named B.method).1
  exact body p e s m [Value.ref a].toArray below meth c ⟨B.exec, B.bytes, hml, findClass_of_methodNamed B.named, hg, hk, fun q h => Or.inr h, hst, Or.inl hin, hao⟩ B.returns B.notSynchronized s.heap [] _ (lv_init (av := [.ref a]) rfl hlv hl) hP (hD.self (sz := s.heap.size)) va_S.rf
section CtRows
variable {p : Program} {l : Launch} {e : Env} {R : Room} {s : State} {m : MethodId} {args : Array Value} {below : List Frame} {meth : Method} {c : Code} {cc : ByteArray} {nL : Nat} {own : String} {G : GT} {A : Nat → Prop} {cells slots : Nat} {Q : State → Prop} {pc : Nat} {lv : List (Option Value)} {st : List Value} {ws ws' : va_W}
theorem n_aload {v : Nat} (cx : CC p s m args meth c cc nL own G A) {i : Fin 4} (hd : decode cc pc = .ok (.aload_n i, 1)) (hv : lv[i.val]? = some (some (.ref v))) (k : PC p l e R s m args below meth c nL G A cells slots Q (pc + 1) lv (.ref v :: st) ws) : PC p l e R s m args below meth c nL G A cells slots Q pc lv st ws :=
  fun H locs ls hl hP hD hS => lv_aload_n cx.1 cx.2.1 hd rfl (hl.2.2 _ _ hv) (k H locs ls hl hP hD hS)
theorem n_iload {v : Int32} (cx : CC p s m args meth c cc nL own G A) {i : Fin 4} (hd : decode cc pc = .ok (.iload_n i, 1)) (hv : lv[i.val]? = some (some (.int v))) (k : PC p l e R s m args below meth c nL G A cells slots Q (pc + 1) lv (.int v :: st) ws) : PC p l e R s m args below meth c nL G A cells slots Q pc lv st ws :=
  fun H locs ls hl hP hD hS => lv_iload_n cx.1 cx.2.1 hd rfl (hl.2.2 _ _ hv) (k H locs ls hl hP hD hS)
theorem n_iconst (cx : CC p s m args meth c cc nL own G A) {i : Int} {v : Int32} (hd : decode cc pc = .ok (.iconst i, 1)) (hv : Int32.ofInt i = v) (k : PC p l e R s m args below meth c nL G A cells slots Q (pc + 1) lv (.int v :: st) ws) : PC p l e R s m args below meth c nL G A cells slots Q pc lv st ws :=
  fun H locs ls hl hP hD hS => lv_iconst cx.1 cx.2.1 hd hv (k H locs ls hl hP hD hS)
theorem n_bipush (cx : CC p s m args meth c cc nL own G A) {i : Int} {v : Int32} (hd : decode cc pc = .ok (.bipush i, 2)) (hv : (Int8.ofInt i).toInt32 = v) (k : PC p l e R s m args below meth c nL G A cells slots Q (pc + 2) lv (.int v :: st) ws) : PC p l e R s m args below meth c nL G A cells slots Q pc lv st ws :=
  fun H locs ls hl hP hD hS => lv_bipush cx.1 cx.2.1 hd hv (k H locs ls hl hP hD hS)
theorem n_sipush (cx : CC p s m args meth c cc nL own G A) {i : Int} {v : Int32} (hd : decode cc pc = .ok (.sipush i, 3)) (hv : (Int16.ofInt i).toInt32 = v) (k : PC p l e R s m args below meth c nL G A cells slots Q (pc + 3) lv (.int v :: st) ws) : PC p l e R s m args below meth c nL G A cells slots Q pc lv st ws :=
  fun H locs ls hl hP hD hS => lv_sipush cx.1 cx.2.1 hd hv (k H locs ls hl hP hD hS)
theorem n_dup {v : Value} (cx : CC p s m args meth c cc nL own G A) (hd : decode cc pc = .ok (.dup, 1)) (hv : v.category = 1) (k : PC p l e R s m args below meth c nL G A cells slots Q (pc + 1) lv (v :: v :: st) ws) : PC p l e R s m args below meth c nL G A cells slots Q pc lv (v :: st) ws :=
  fun H locs ls hl hP hD hS => lv_dup cx.1 cx.2.1 hd hv (k H locs ls hl hP hD hS)
theorem n_goto {t : Nat} {d : Int} (cx : CC p s m args meth c cc nL own G A) (hd : decode cc pc = .ok (.goto d, 3)) (ht : (pc : Int) + d = (t : Int)) (k : PC p l e R s m args below meth c nL G A cells slots Q t lv st ws) : PC p l e R s m args below meth c nL G A cells slots Q pc lv st ws :=
  fun H locs ls hl hP hD hS => lv_goto (tgt := t) cx.1 cx.2.1 hd ht (k H locs ls hl hP hD hS)
theorem n_ge_t {t : Nat} {d : Int} {x y : Int32} (cx : CC p s m args meth c cc nL own G A) (hd : decode cc pc = .ok (.if_icmp .ge d, 3)) (ht : (pc : Int) + d = (t : Int)) (hc : y ≤ x) (k : PC p l e R s m args below meth c nL G A cells slots Q t lv st ws) : PC p l e R s m args below meth c nL G A cells slots Q pc lv (.int y :: .int x :: st) ws :=
  fun H locs ls hl hP hD hS => lv_icmp_ge (tgt := t) cx.1 cx.2.1 hd ht (fun _ => k H locs ls hl hP hD hS) (fun n => absurd hc n)
theorem n_ge_f {t : Nat} {d : Int} {x y : Int32} (cx : CC p s m args meth c cc nL own G A) (hd : decode cc pc = .ok (.if_icmp .ge d, 3)) (ht : (pc : Int) + d = (t : Int)) (hc : ¬ y ≤ x) (k : PC p l e R s m args below meth c nL G A cells slots Q (pc + 3) lv st ws) : PC p l e R s m args below meth c nL G A cells slots Q pc lv (.int y :: .int x :: st) ws :=
  fun H locs ls hl hP hD hS => lv_icmp_ge (tgt := t) cx.1 cx.2.1 hd ht (fun n => absurd n hc) (fun _ => k H locs ls hl hP hD hS)
theorem n_obj (cx : CC p s m args meth c cc nL own G A) {i : Nat} {v : Nat} (hw : Cond.methodLink own i objectInit ∈ lw_tbl) (hd : decode cc pc = .ok (.invokespecial i, 3)) (hR : 1 ≤ R.frames ∧ 20 ≤ R.locals) (hW : (st.map fun v => v.category).sum ≤ 8) (k : PC p l e R s m args below meth c nL G A cells slots Q (pc + 3) lv st ws) : PC p l e R s m args below meth c nL G A cells slots Q pc lv (.ref v :: st) ws := by
  intro H locs ls hl hP hD hS
  have g := cx.2.2.2.2.1
  refine W.objInit cx.1 cx.2.1 cx.2.2.2.1 (g.use hw rfl _) (g.use w_oi rfl _) (g.use w_oc rfl _) rfl (by rw [cx.2.2.1]; exact hl.1) rfl hd hR.1 (by show 2 * 0 + _ + 12 ≤ _; omega) ?_
  exact W.eq (g2 := F0 m (pc + 3) ls st) rfl (k H locs ls hl hP hD hS)
theorem n_istore1 {x : Int32} {b0 b1 : Option Value} {tl : List (Option Value)} (cx : CC p s m args meth c cc nL own G A) (hd : decode cc pc = .ok (.istore_n 1, 1)) (hi : 1 < nL) (hp1 : nolong (some b0) = true) (k : PC p l e R s m args below meth c nL G A cells slots Q (pc + 1) (b0 :: some (.int x) :: tl) st ws) : PC p l e R s m args below meth c nL G A cells slots Q pc (b0 :: b1 :: tl) (.int x :: st) ws :=
  fun H locs ls hl hP hD hS => lv_istore_n cx.1 cx.2.1 hd rfl hl.has hi rfl (fun ls1 hl1 => k H locs ls1 (LV.st1 (lv := b0 :: b1 :: tl) (i := 1) hp1 hl1) hP hD hS)
theorem n_iinc1 {x y : Int32} {b0 : Option Value} {tl : List (Option Value)} {n : Int} (cx : CC p s m args meth c cc nL own G A) (hd : decode cc pc = .ok (.iinc 1 n, 3)) (hy : x + Int32.ofInt n = y) (hi : 1 < nL) (hp1 : nolong (some b0) = true) (k : PC p l e R s m args below meth c nL G A cells slots Q (pc + 3) (b0 :: some (.int y) :: tl) st ws) : PC p l e R s m args below meth c nL G A cells slots Q pc (b0 :: some (.int x) :: tl) st ws := by
  intro H locs ls hl hP hD hS
  obtain ⟨j, hj⟩ := List.getElem?_of_mem ((lpr_mem (b0 :: some (.int x) :: tl) 0 (1, .int x)).mpr ⟨1, by simp, rfl⟩)
  exact lv_iinc (v := y) cx.1 cx.2.1 hd hl.has hj hy hi rfl (fun ls' hl' => k H locs ls' (LV.st1 (lv := b0 :: some (.int x) :: tl) (i := 1) hp1 hl') hP hD hS)
theorem n_ldc (cx : CC p s m args meth c cc nL own G A) {i : Nat} {v : Int32} (hw : Cond.constant own i v ∈ lw_tbl) (hd : decode cc pc = .ok (.ldc i, 2)) (k : PC p l e R s m args below meth c nL G A cells slots Q (pc + 2) lv (.int v :: st) ws) : PC p l e R s m args below meth c nL G A cells slots Q pc lv st ws :=
  fun H locs ls hl hP hD hS => lv_ldc cx.1 cx.2.1 cx.2.2.2.1 (cx.2.2.2.2.1.use hw rfl _) hd (k H locs ls hl hP hD hS)
theorem n_get (cx : CC p s m args meth c cc nL own G A) {ref C : String} {T : u_T} {N ci i k a q : Nat} {fs : List Value} {v : Value} (he : ws[q]? = some (a, .inr (ci, fs))) (hc : vwCl[ci]? = some (C, T, N)) (hin : ∀ w ∈ u_ws C T N, w ∈ lw_tbl ∧ okw w = true) (hkN : k < N) (hv : fs[k]? = some v) (hw : Cond.fieldLink own i ref (T k).2.1 (T k).2.2.1 ∈ lw_tbl) (hr : ref = (T k).1) (hd : decode cc pc = .ok (.getfield i, 3)) (kk : PC p l e R s m args below meth c nL G A cells slots Q (pc + 3) lv (v :: st) ws) : PC p l e R s m args below meth c nL G A cells slots Q pc lv (.ref a :: st) ws :=
  fun H locs ls hl hP hD hS => va_get (Ts := u_ws C T N) cx.1 cx.2.1 (fun w hw => cx.2.2.2.2.1.use (hin w hw).1 (hin w hw).2 _) (fun _ z => z) cx.2.2.2.1 cx.2.2.2.2.2.1 hP q he hc k hkN (cx.2.2.2.2.1.use hw rfl _) (fun x hx => by rw [hr]; exact hx) hv hd (kk H locs ls hl hP hD hS)
theorem n_put (cx : CC p s m args meth c cc nL own G A) {ref C : String} {T : u_T} {N ci i k a q : Nat} {fs : List Value} {ty : FieldType} {ty0 : Nat → FieldType} {v : Value} (he : ws[q]? = some (a, .inr (ci, fs))) (hs : ws.set q (a, .inr (ci, fs.set k v)) = ws') (hc : vwCl[ci]? = some (C, T, N)) (hin : ∀ w ∈ u_ws C T N, w ∈ lw_tbl ∧ okw w = true) (hty : ∀ k, k < N → parseFieldDescriptor (T k).2.2.1 = some (ty0 k)) (hnm : ∀ a, a < N → ∀ b, b < N → a ≠ b → (T a).2.1 ≠ (T b).2.1) (hkN : k < N) (hlen : k < fs.length) (hw : Cond.fieldLink own i ref (T k).2.1 (T k).2.2.1 ∈ lw_tbl) (hr : ref = (T k).1) (hfin : (T k).2.2.2 = false) (hdd : parseFieldDescriptor (T k).2.2.1 = some ty) (hn : narrow ty v = v) (hf : fits ty v = true) (hd : decode cc pc = .ok (.putfield i, 3)) (kk : PC p l e R s m args below meth c nL G A cells slots Q (pc + 3) lv st ws') : PC p l e R s m args below meth c nL G A cells slots Q pc lv (v :: .ref a :: st) ws := by
  intro H locs ls hl hP hD hS
  refine va_put (Ts := u_ws C T N) cx.1 cx.2.1 (fun w hw => cx.2.2.2.2.1.use (hin w hw).1 (hin w hw).2 _) (fun _ z => z) ty0 hty hnm cx.2.2.2.1 cx.2.2.2.2.2.1 hP hD hS q he hc k hkN (cx.2.2.2.2.1.use hw rfl _) (fun x hx => by rw [hr]; exact hx) hfin hdd hn hf hlen hd (fun H1 locs1 hP hD hS => ?_)
  rw [hs] at hP hD
  exact kk H1 locs1 ls hl hP hD hS
theorem n_putF (cx : CC p s m args meth c cc nL own G A) (hne : own ≠ RL) {ref C : String} {T : u_T} {N ci i k a q : Nat} {fs : List Value} {ty : FieldType} {ty0 : Nat → FieldType} {v : Value} (he : ws[q]? = some (a, .inr (ci, fs))) (hs : ws.set q (a, .inr (ci, fs.set k v)) = ws') (hc : vwCl[ci]? = some (C, T, N)) (hin : ∀ w ∈ u_ws C T N, w ∈ lw_tbl ∧ okw w = true) (hty : ∀ k, k < N → parseFieldDescriptor (T k).2.2.1 = some (ty0 k)) (hnm : ∀ a, a < N → ∀ b, b < N → a ≠ b → (T a).2.1 ≠ (T b).2.1) (hkN : k < N) (hlen : k < fs.length) (hw : Cond.fieldLink own i ref (T k).2.1 (T k).2.2.1 ∈ lw_tbl) (hr : ref = (T k).1) (hfin : (T k).2.2.2 = true) (hdc : (T k).1 = own) (hdd : parseFieldDescriptor (T k).2.2.1 = some ty) (hn : narrow ty v = v) (hf : fits ty v = true) (hd : decode cc pc = .ok (.putfield i, 3)) (kk : PC p l e R s m args below meth c nL G A cells slots Q (pc + 3) lv st ws') : PC p l e R s m args below meth c nL G A cells slots Q pc lv (v :: .ref a :: st) ws := by
  intro H locs ls hl hP hD hS
  refine va_putF (Ts := u_ws C T N) cx.1 cx.2.1 (fun w hw => cx.2.2.2.2.1.use (hin w hw).1 (hin w hw).2 _) (fun _ z => z) ty0 hty hnm cx.2.2.2.1 cx.2.2.2.2.2.1 hP hD hS q he hc k hkN (cx.2.2.2.2.1.use hw rfl _) (fun x hx => by rw [hr]; exact hx) hfin (cx.2.2.2.2.2.2.2.2.1.resolve_right hne) hdc hdd hn hf hlen hd (fun H1 locs1 hP hD hS => ?_)
  rw [hs] at hP hD
  exact kk H1 locs1 ls hl hP hD hS
theorem n_new (cx : CC p s m args meth c cc nL own G A) {C : String} {T : u_T} {N ci i : Nat} {fs : List Value} {ty0 : Nat → FieldType} (hc : vwCl[ci]? = some (C, T, N)) (hin : ∀ w ∈ u_ws C T N, w ∈ lw_tbl ∧ okw w = true) (hty : ∀ k, k < N → parseFieldDescriptor (T k).2.2.1 = some (ty0 k)) (hfs : ∀ j, j < N → defaultValue (ty0 j) = vp_V fs j) (w1 : Cond.classLink own i C ∈ lw_tbl) (w2 : Cond.instantiable C N ∈ lw_tbl) (w3 : Cond.initialized C ∈ lw_tbl) (hcs : cells + 1 ≤ R.cells ∧ slots + N ≤ R.slots) (hd : decode cc pc = .ok (.new i, 3)) (kk : ∀ q, PC p l e R s m args below meth c nL G A (cells + 1) (slots + N) Q (pc + 3) lv (.ref q :: st) (ws ++ [(q, .inr (ci, fs))])) : PC p l e R s m args below meth c nL G A cells slots Q pc lv st ws := by
  intro H locs ls hl hP hD hS
  have g := cx.2.2.2.2.1
  exact va_new (Ts := u_ws C T N) cx.1 cx.2.1 (fun w hw => g.use (hin w hw).1 (hin w hw).2 _) (fun _ z => z) ty0 hty cx.2.2.2.1 (g.use w1 rfl _) (g.use w2 rfl _) (g.use w3 rfl _) cx.2.2.2.2.2.1 hP hD hS cx.2.2.2.2.2.2.1 hc hfs hcs.1 hcs.2 hd (fun q H1 hP hD hS => kk q H1 locs ls hl hP hD hS)
theorem n_newi (cx : CC p s m args meth c cc nL own G A) {n : Int32} {N : Nat} (hn : ¬ n < 0) (hN : n.toNatClampNeg = N) (hb : N * componentBytes .int ≤ 536870912) (hcs : cells + 1 ≤ R.cells ∧ slots + N ≤ R.slots) (hd : decode cc pc = .ok (.newarray .int, 2)) (kk : ∀ q, PC p l e R s m args below meth c nL G A (cells + 1) (slots + N) Q (pc + 2) lv (.ref q :: st) (ws ++ [(q, .inl (gca G 0, N, .inl (fun _ => 0)))])) : PC p l e R s m args below meth c nL G A cells slots Q pc lv (.int n :: st) ws := by
  intro H locs ls hl hP hD hS
  have g := cx.2.2.2.2.1
  refine va_newa (atype := .int) (a0 := (N, .inl (fun _ => 0))) cx.1 cx.2.1 (g.use w_ai rfl _) rfl cx.2.2.2.2.2.1 hP hD hS cx.2.2.2.2.2.2.1 (fun _ => rfl) hn hN hb hcs.1 hcs.2 hd (fun q cA H1 hK hP hD hS => ?_)
  have e1 : cA = gca G 0 := Option.some.inj (Eq.trans (Eq.symm (show s.vm.findClass ("[" ++ FieldType.int.toString) = some cA from (hK.2 5 _ rfl).2)) (show s.vm.findClass ("[" ++ FieldType.int.toString) = some (gca G 0) from (cx.2.2.2.2.2.1.2 0 _ rfl).2))
  rw [e1] at hP hD
  exact kk q H1 locs ls hl hP hD hS
theorem n_newz (cx : CC p s m args meth c cc nL own G A) {n : Int32} {N : Nat} (hn : ¬ n < 0) (hN : n.toNatClampNeg = N) (hb : N * componentBytes .boolean ≤ 536870912) (hcs : cells + 1 ≤ R.cells ∧ slots + N ≤ R.slots) (hd : decode cc pc = .ok (.newarray .boolean, 2)) (kk : ∀ q, PC p l e R s m args below meth c nL G A (cells + 1) (slots + N) Q (pc + 2) lv (.ref q :: st) (ws ++ [(q, .inl (gca G 1, N, .inl (fun _ => 0)))])) : PC p l e R s m args below meth c nL G A cells slots Q pc lv (.int n :: st) ws := by
  intro H locs ls hl hP hD hS
  have g := cx.2.2.2.2.1
  refine va_newa (atype := .boolean) (a0 := (N, .inl (fun _ => 0))) cx.1 cx.2.1 (g.use w_az rfl _) rfl cx.2.2.2.2.2.1 hP hD hS cx.2.2.2.2.2.2.1 (fun _ => rfl) hn hN hb hcs.1 hcs.2 hd (fun q cA H1 hK hP hD hS => ?_)
  have e1 : cA = gca G 1 := Option.some.inj (Eq.trans (Eq.symm (show s.vm.findClass ("[" ++ FieldType.boolean.toString) = some cA from (hK.2 5 _ rfl).2)) (show s.vm.findClass ("[" ++ FieldType.boolean.toString) = some (gca G 1) from (cx.2.2.2.2.2.1.2 1 _ rfl).2))
  rw [e1] at hP hD
  exact kk q H1 locs ls hl hP hD hS
theorem n_newq (cx : CC p s m args meth c cc nL own G A) {C : String} {i j : Nat} (hj : (tysG G)[j]? = some (gca G j, .object C)) (w1 : Cond.classLink own i C ∈ lw_tbl) (w2 : va_AO C s) {n : Int32} {N : Nat} (hn : ¬ n < 0) (hN : n.toNatClampNeg = N) (hb : N * 4 ≤ 536870912) (hcs : cells + 1 ≤ R.cells ∧ slots + N ≤ R.slots) (hd : decode cc pc = .ok (.anewarray i, 3)) (kk : ∀ q, PC p l e R s m args below meth c nL G A (cells + 1) (slots + N) Q (pc + 3) lv (.ref q :: st) (ws ++ [(q, .inl (gca G j, N, .inr (.inr (.inr (.inr (fun _ => none))))))])) : PC p l e R s m args below meth c nL G A cells slots Q pc lv (.int n :: st) ws := by
  intro H locs ls hl hP hD hS
  have g := cx.2.2.2.2.1
  refine va_newq cx.1 cx.2.1 cx.2.2.2.1 (g.use w1 rfl _) w2 cx.2.2.2.2.2.1 hP hD hS cx.2.2.2.2.2.2.1 hn hN hb hcs.1 hcs.2 hd (fun q cA H1 hK hP hD hS => ?_)
  obtain ⟨kA, comp, -, -, -, e1⟩ : ∃ (kA : Class) (comp : ClassId), s.vm.classes[cA]? = some kA ∧ kA.kind = .array comp (.object C) ∧ s.vm.findClass C = some comp ∧ s.vm.findClass ("[" ++ (FieldType.object C).toString) = some cA := (hK.2 5 _ rfl).2
  obtain ⟨kA, comp, -, -, -, e2⟩ : ∃ (kA : Class) (comp : ClassId), s.vm.classes[gca G j]? = some kA ∧ kA.kind = .array comp (.object C) ∧ s.vm.findClass C = some comp ∧ s.vm.findClass ("[" ++ (FieldType.object C).toString) = some (gca G j) := (cx.2.2.2.2.2.1.2 j _ hj).2
  have e3 : cA = gca G j := Option.some.inj (e1.symm.trans e2)
  rw [e3] at hP hD
  exact kk q H1 locs ls hl hP hD hS
theorem n_aast (cx : CC p s m args meth c cc nL own G A) {q0 j qk ci a n v : Nat} {r : vw_C} {vs : List Value} {f : Nat → Option Nat} (hj : (tysG G)[j]? = some (gca G j, .object r.1)) (ha : ws[q0]? = some (a, .inl (gca G j, n, .inr (.inr (.inr (.inr f)))))) (hv : ws[qk]? = some (v, .inr (ci, vs))) (hc : vwCl[ci]? = some r) {i : Int32} (hin : vp_in i n) (hs : ws.set q0 (a, .inl (gca G j, n, .inr (.inr (.inr (.inr (va_up f i.toNatClampNeg (some v))))))) = ws') (hd : decode cc pc = .ok (.aastore, 1)) (kk : PC p l e R s m args below meth c nL G A cells slots Q (pc + 1) lv st ws') : PC p l e R s m args below meth c nL G A cells slots Q pc lv (.ref v :: .int i :: .ref a :: st) ws := by
  intro H locs ls hl hP hD hS
  refine va_astq cx.1 cx.2.1 cx.2.2.2.2.2.1 hP hD hS q0 j qk ci ha hj hv hc hin hd (fun H1 locs1 hP hD hS => ?_)
  rw [hs] at hP hD
  exact kk H1 locs1 ls hl hP hD hS
theorem n_call {y : MethodName} {bytes : ByteArray} {maxL f kc n o i b : Nat} {wc wr : va_W} {w1 : (Nat → Nat) → va_W} (cx : CC p s m args meth c cc nL own G A) (hM : CtN l G y bytes maxL f kc n o b wc w1) (isC isR : List Nat) (hC : isC.map (fun i => ws[i]?) = wc.map some) (hC2 : isC.filterMap (fun i => ws[i]?) = wc) (hCn : va_nd isC = true) (hR : isR.map (fun i => ws[i]?) = wr.map some) (hRn : va_nd isR = true) (hdis : ∀ i ∈ isR, i ∉ isC) (hl1 : Cond.methodLink own i y ∈ lw_tbl ∨ Cond.methodLinkNest own i y "QueueKeeper" ∈ lw_tbl) (hl2 : Cond.instanceMethod y ∈ lw_tbl) (hl3 : Cond.initialized y.cls ∈ lw_tbl) (hl4 : Cond.code y bytes maxL none ∈ lw_tbl) (hy : y.cls ≠ "java/lang/invoke/MethodHandle" ∧ y.cls ≠ "java/lang/invoke/VarHandle") (hi : y.name = "<init>") (hn : (parseMethodDescriptor y.desc).map (fun d => d.parameters.length) = some 0) (hRm : f + 1 ≤ R.frames ∧ 8 + (maxL + 11) + o ≤ R.locals) (hcs : cells + kc ≤ R.cells ∧ slots + n ≤ R.slots) (hW : (st.map fun v => v.category).sum ≤ 8) (hd : decode cc pc = .ok (.invokespecial i, 3)) (kk : ∀ u, PC p l e R s m args below meth c nL G A (cells + kc) (slots + n) Q (pc + 3) lv st (wr ++ w1 u)) : PC p l e R s m args below meth c nL G A cells slots Q pc lv (.ref b :: st) ws := by
  intro H locs ls hl hP hD hS
  have g := cx.2.2.2.2.1
  have hPc := hP.sub (ws' := wc) isC hC2
  have hDc := hD.sub (ws' := wc) isC hCn hC
  have hFc := va_free (wc := wc) hD hS cx.2.2.2.2.2.2.1 isC hC
  have hw5 : ∀ w ∈ [Cond.code y bytes maxL none], ∀ (a' : Array Value) (U : State), s.WarmedH U.vm → w.before a' U = true := fun w hw a1 U hU => by
    rw [List.mem_singleton.mp hw]
    exact okw_at rfl hU (g.use hl4 rfl #[])
  have hsg : ∀ sig, parseMethodDescriptor y.desc = some sig → 0 = sig.parameters.length := fun sig hs => by
    rw [hs] at hn
    exact (Option.some.inj hn).symm
  have hpre : PreS s H (va_Pc [.ref b] (PreC G wc H.size)) [.ref b] := ⟨PreC.blind, fun U hU hW => ⟨rfl, by rw [hU], g.warm hW, va_K.moved hW.alike cx.2.2.2.2.2.1, by rw [hU]; exact ((cx.2.2.2.2.2.2.2.1.kept hS.2.1).warm hW).narrow hFc, by rw [hU]; exact hPc, hDc.weaken (fun _ _ _ _ => trivial), cx.2.2.2.2.2.2.2.2.2.moved hW.alike⟩⟩
  have hr : va_Run p l e R s m args below meth c H locs cells slots kc n (F0 m pc ls (.ref b :: st)) st (QC G wc w1 H.size (Value.ref b :: []).toArray) (va_A wc H.size) := by
    rcases hl1 with h1 | h1
    · exact va_runI (Ts := []) (As := []) (rest := st) (bytes := bytes) (maxL := maxL) ⟨cx.1, cx.2.1, cx.2.2.1, cx.2.2.2.1, fun w hw => by cases hw⟩ (hM H.size) ⟨⟨rfl, rfl, hRm.1, hRm.2, hw5, List.mem_cons_self, g.use hl4 rfl _, g.use hl3 rfl _, hy, hsg, g.use h1 rfl _⟩, hi, g.use hl2 rfl _⟩ hpre rfl rfl hl.1 rfl (lv_room hW) hd hcs
    · exact va_runIN (Ts := []) (As := []) (rest := st) (host := "QueueKeeper") (bytes := bytes) (maxL := maxL) ⟨cx.1, cx.2.1, cx.2.2.1, cx.2.2.2.1, fun w hw => by cases hw⟩ (hM H.size) ⟨⟨⟨rfl, rfl, hRm.1, hRm.2, hw5, List.mem_cons_self⟩, g.use hl4 rfl _, g.use hl3 rfl _, hy, hsg, g.use h1 rfl _⟩, hi, g.use hl2 rfl _⟩ hpre rfl rfl hl.1 rfl (lv_room hW) hd hcs
  refine va_callv hr hS (fun q _ h => hFc q h) hFc (fun u t H1 locs1 ht hvm _ hB hz1 hk1 hS1 => ?_)
  obtain ⟨hP1, hD1⟩ := hB
  rw [ht] at hP1
  obtain ⟨hP2, hD2⟩ := va_join (wr := wr) (w1 := w1 u) hP hD isC isR hC hR hRn hdis hk1 hFc hP1 hD1
  exact kk u H1 locs1 ls hl hP2 hD2 hS1
theorem n_ret {wc : va_W} {w1 : (Nat → Nat) → va_W} {k n : Nat} (cx : CC p s m args meth c cc nL own G (va_A wc s.heap.size)) (hr : meth.sig.returnType = none) (hlk : meth.locks = false) (u : Nat → Nat) (hu : w1 u = ws) (hk : cells ≤ k) (hn : slots ≤ n) (hd : decode cc pc = .ok (.return_, 1)) : PC p l e R s m args below meth c nL G (va_A wc s.heap.size) cells slots (MQ below (QC G wc w1 s.heap.size) args s k n (va_A wc s.heap.size)) pc lv [] ws := by
  intro H locs ls hl hP hD hS
  refine W.widen (k := k) (n := n) hk hn ?_
  exact W.vret cx.1 cx.2.1 hr (fun t ht hW => ⟨⟨u, rfl, trivial, by rw [hu, ht]; exact hP, by rw [hu]; exact hD⟩, hS.F ht⟩) hS.2.2 hd hlk
theorem n_gets (cx : CC p s m args meth c cc nL own G A) {j i : Nat} (hj : j < 6) (hw : Cond.fieldLinkNest own i "QueueKeeper" (tbn j) "[I" "QueueKeeper" ∈ lw_tbl) (hd : decode cc pc = .ok (.getstatic i, 3)) (k : PC p l e R s m args below meth c nL G A cells slots Q (pc + 3) lv (.ref (gsa G j) :: st) ws) : PC p l e R s m args below meth c nL G A cells slots Q pc lv st ws :=
  fun H locs ls hl hP hD hS => va_getsN cx.1 cx.2.1 (cx.2.2.2.2.2.2.2.1.1 j hj).1 hS cx.2.2.2.1 (cx.2.2.2.2.1.use hw rfl _) (fun _ z => z) hd (k H locs ls hl hP hD hS)
theorem n_acT (cx : CC p s m args meth c cc nL own G A) {j a q1 n1 i : Nat} {n : Int32} {f : Nat → Int32} (hj : j < 6) (he1 : ws[q1]? = some (a, .inl (gca G 0, n1, .inl f))) (hn : cpk n (tbl j).length n1) (hs : ws.set q1 (a, .inl (gca G 0, n1, .inl (va_cpy (tbv j) f 0 0 n.toNatClampNeg))) = ws') (w1 : Cond.methodLink own i arraycopyName ∈ lw_tbl) (w2 : Cond.native arraycopyName ∈ lw_tbl) (w3 : Cond.static arraycopyName ∈ lw_tbl) (w4 : Cond.initialized "java/lang/System" ∈ lw_tbl) (hR : 1 ≤ R.frames ∧ 27 ≤ R.locals) (hW : (st.map fun v => v.category).sum ≤ 8) (hd : decode cc pc = .ok (.invokestatic i, 3)) (k : PC p l e R s m args below meth c nL G A cells slots Q (pc + 3) lv st ws') : PC p l e R s m args below meth c nL G A cells slots Q pc lv (.int n :: .int 0 :: .ref a :: .int 0 :: .ref (gsa G j) :: st) ws := by
  intro H locs ls hl hP hD hS T hT X
  have g := cx.2.2.2.2.1
  obtain ⟨scr, hs1, hs2, hs3, hs4, -, hs5, hs7⟩ := (cx.2.2.2.2.2.2.2.1.1 j hj).2
  have hc0 : H[gsa G j]? = some scr := by rw [hS.2.1 _ (Array.getElem?_eq_some_iff.mp hs1).1 hs7]; exact hs1
  have hc1 : H[a]? = some (vp_cell (gca G 0) (n1, .inl f)) := hP q1 _ he1
  obtain ⟨hs6, k0, hk0, cm0, hkk0⟩ := hs2
  obtain ⟨-, k1, hkk, cm1, hkk1⟩ := (cx.2.2.2.2.2.1.2 0 _ rfl).1 n1 (fun j => .int (f j))
  obtain ⟨vm1, X1, step⟩ := X.arraycopy cx.1 cx.2.2.2.1 (g.use w1 rfl _) (g.use w2 rfl _) (g.use w3 rfl _) (g.use w4 rfl _) (src := gsa G j) (dst := a) (cs := scr) (cd := vp_cell (gca G 0) (n1, .inl f)) (srcPos := 0) (destPos := 0) (n := n) (by rw [hT]; exact hc0) (by rw [hT]; exact hc1)
    hs6 (fun _ h => by cases h) hs3 (fun h => by cases h) hk0 hkk hkk0 hkk1 (by simp [refKind]) (by decide) (by decide) hn.1
    (by rw [i_nn (z := 0) (by decide), i_nn hn.1, cl00]; omega)
    (by rw [i_nn (z := 0) (by decide), i_nn hn.1, cl00]; show ¬ _ > ((arrV (gca G 0) n1 (fun j => .int (f j))).slots.size : Int); rw [arrV_size]; omega)
    (fun _ _ z hz => by
      have e0 : scr.slots.getD ((0 : Int32).toNatClampNeg + z) .null = .int (tbv j ((0 : Int32).toNatClampNeg + z)) := by
        rw [Array.getD_eq_getD_getElem?, cl00, hs5 _ (by omega)]
        rfl
      refine ⟨?_, ?_⟩
      · rw [e0]
        rfl
      · rw [e0]
        exact trivial)
    (g := F0 m pc ls (.int n :: .int 0 :: .ref a :: .int 0 :: .ref (gsa G j) :: st)) rfl (by rw [cx.2.2.1, hl.1]) (rest := st) rfl (by rw [cx.2.1]; exact hd) hR.1 (by show 2 * 0 + _ + (7 + 11) ≤ _; omega)
  have e1 : copied scr (vp_cell (gca G 0) (n1, .inl f)) 0 0 n = vp_cell (gca G 0) (n1, .inl (va_cpy (tbv j) f 0 0 n.toNatClampNeg)) := by
    have := va_copiedX (sp := (0 : Int32).toNatClampNeg) (dp := (0 : Int32).toNatClampNeg) (n := n.toNatClampNeg) (n1 := n1) (fun z => .int z) scr (gca G 0) (tbv j) f hs5 (by rw [cl00]; omega)
    rw [cl00] at this
    exact this
  rw [e1] at X1 step
  have hlt : a < H.size := (Array.getElem?_eq_some_iff.mp hc1).1
  have oq : ∀ q : Nat, q ≠ a → (H.setIfInBounds a (vp_cell (gca G 0) (n1, .inl (va_cpy (tbv j) f 0 0 n.toNatClampNeg))))[q]? = H[q]? := fun q hq => by simp [Array.getElem?_setIfInBounds, Ne.symm hq]
  have hA1 : A a := hD.2 q1 _ he1
  obtain ⟨t, a1, b1⟩ := k (H.setIfInBounds a (vp_cell (gca G 0) (n1, .inl (va_cpy (tbv j) f 0 0 n.toNatClampNeg)))) _ ls hl (by
      rw [← hs]
      exact hP.set hD he1 (show (H.setIfInBounds a _)[a]? = some _ by simp [Array.getElem?_setIfInBounds, hlt]) oq) (by
      rw [← hs]
      exact hD.set he1) (by
      refine ⟨by simp; exact hS.1, fun q g1 g2 => ?_, fun q hq => ?_⟩
      · rw [oq q (fun e => g2 (by rw [e]; exact hA1))]
        exact hS.2.1 q g1 g2
      · rcases List.mem_append.mp hq with h | h
        · exact hS.2.2 q h
        · obtain ⟨z, -, hz⟩ := List.mem_map.mp h
          rw [← hz]
          exact hA1) _ (by rw [← hT]; rfl) X1
  exact ⟨t, step t a1, b1⟩
theorem n_astore1 {x : Nat} {b0 b1 : Option Value} {tl : List (Option Value)} (cx : CC p s m args meth c cc nL own G A) (hd : decode cc pc = .ok (.astore_n 1, 1)) (hi : 1 < nL) (hp1 : nolong (some b0) = true) (k : PC p l e R s m args below meth c nL G A cells slots Q (pc + 1) (b0 :: some (.ref x) :: tl) st ws) : PC p l e R s m args below meth c nL G A cells slots Q pc (b0 :: b1 :: tl) (.ref x :: st) ws :=
  fun H locs ls hl hP hD hS => lv_astore_n cx.1 cx.2.1 hd rfl hl.has hi rfl (fun ls1 hl1 => k H locs ls1 (LV.st1 (lv := b0 :: b1 :: tl) (i := 1) hp1 hl1) hP hD hS)
theorem n_astore2 {x : Nat} {b0 b1 b2 : Option Value} {tl : List (Option Value)} (cx : CC p s m args meth c cc nL own G A) (hd : decode cc pc = .ok (.astore_n 2, 1)) (hi : 2 < nL) (hp1 : nolong (some b1) = true) (k : PC p l e R s m args below meth c nL G A cells slots Q (pc + 1) (b0 :: b1 :: some (.ref x) :: tl) st ws) : PC p l e R s m args below meth c nL G A cells slots Q pc (b0 :: b1 :: b2 :: tl) (.ref x :: st) ws :=
  fun H locs ls hl hP hD hS => lv_astore_n cx.1 cx.2.1 hd rfl hl.has hi rfl (fun ls1 hl1 => k H locs ls1 (LV.st1 (lv := b0 :: b1 :: b2 :: tl) (i := 2) hp1 hl1) hP hD hS)
theorem n_astore3 {x : Nat} {b0 b1 b2 b3 : Option Value} {tl : List (Option Value)} (cx : CC p s m args meth c cc nL own G A) (hd : decode cc pc = .ok (.astore_n 3, 1)) (hi : 3 < nL) (hp1 : nolong (some b2) = true) (k : PC p l e R s m args below meth c nL G A cells slots Q (pc + 1) (b0 :: b1 :: b2 :: some (.ref x) :: tl) st ws) : PC p l e R s m args below meth c nL G A cells slots Q pc (b0 :: b1 :: b2 :: b3 :: tl) (.ref x :: st) ws :=
  fun H locs ls hl hP hD hS => lv_astore_n cx.1 cx.2.1 hd rfl hl.has hi rfl (fun ls1 hl1 => k H locs ls1 (LV.st1 (lv := b0 :: b1 :: b2 :: b3 :: tl) (i := 3) hp1 hl1) hP hD hS)
theorem n_istore4 {x : Int32} {b0 b1 b2 b3 b4 : Option Value} {tl : List (Option Value)} (cx : CC p s m args meth c cc nL own G A) (hd : decode cc pc = .ok (.istore 4, 2)) (hi : 4 < nL) (hp1 : nolong (some b3) = true) (k : PC p l e R s m args below meth c nL G A cells slots Q (pc + 2) (b0 :: b1 :: b2 :: b3 :: some (.int x) :: tl) st ws) : PC p l e R s m args below meth c nL G A cells slots Q pc (b0 :: b1 :: b2 :: b3 :: b4 :: tl) (.int x :: st) ws :=
  fun H locs ls hl hP hD hS => lv_istore cx.1 cx.2.1 hd hl.has hi rfl (fun ls1 hl1 => k H locs ls1 (LV.st1 (lv := b0 :: b1 :: b2 :: b3 :: b4 :: tl) (i := 4) hp1 hl1) hP hD hS)
theorem n_newl (cx : CC p s m args meth c cc nL own G A) {n : Int32} {N : Nat} (hn : ¬ n < 0) (hN : n.toNatClampNeg = N) (hb : N * componentBytes .long ≤ 536870912) (hcs : cells + 1 ≤ R.cells ∧ slots + N ≤ R.slots) (hd : decode cc pc = .ok (.newarray .long, 2)) (kk : ∀ q, PC p l e R s m args below meth c nL G A (cells + 1) (slots + N) Q (pc + 2) lv (.ref q :: st) (ws ++ [(q, .inl (gca G 4, N, .inr (.inl (fun _ => 0))))])) : PC p l e R s m args below meth c nL G A cells slots Q pc lv (.int n :: st) ws := by
  intro H locs ls hl hP hD hS
  have g := cx.2.2.2.2.1
  refine va_newa (atype := .long) (a0 := (N, .inr (.inl (fun _ => 0)))) cx.1 cx.2.1 (g.use w_al rfl _) rfl cx.2.2.2.2.2.1 hP hD hS cx.2.2.2.2.2.2.1 (fun _ => rfl) hn hN hb hcs.1 hcs.2 hd (fun q cA H1 hK hP hD hS => ?_)
  have e1 : cA = gca G 4 := Option.some.inj (Eq.trans (Eq.symm (show s.vm.findClass ("[" ++ FieldType.long.toString) = some cA from (hK.2 5 _ rfl).2)) (show s.vm.findClass ("[" ++ FieldType.long.toString) = some (gca G 4) from (cx.2.2.2.2.2.1.2 4 _ rfl).2))
  rw [e1] at hP hD
  exact kk q H1 locs ls hl hP hD hS
end CtRows
theorem n_lit {p : Program} {l : Launch} {e : Env} {R : Room} {s : State} {m : MethodId} {args : Array Value} {below : List Frame} {meth : Method} {c : Code} {nL : Nat} {G : GT} {A : Nat → Prop} {cells slots : Nat} {Q : State → Prop} {pc : Nat} {lv : List (Option Value)} {st : List Value} {ws ws' : va_W} (h : ws' = ws) (k : PC p l e R s m args below meth c nL G A cells slots Q pc lv st ws) : PC p l e R s m args below meth c nL G A cells slots Q pc lv st ws' := by
  rw [h]
  exact k
