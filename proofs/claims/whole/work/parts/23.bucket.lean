/-! a throw whose class's own <init>(String) links its super by another index: the chain's first pass with index and bytes of its own; the proofs follow those of the library's row for the usual chain -/
abbrev xI : String := "java/lang/IndexOutOfBoundsException"
abbrev xN : String := "java/util/NoSuchElementException"
def xRx : ByteArray := ⟨#[0x2a, 0x2b, 0xb7, 0, 13, 0xb1]⟩
theorem xRx0 : decode xRx 0 = .ok (.aload_n 0, 1) := by decide +kernel
theorem xRx1 : decode xRx 1 = .ok (.aload_n 1, 1) := by decide +kernel
theorem xRx2 : decode xRx 2 = .ok (.invokespecial 13, 3) := by decide +kernel
theorem xRx5 : decode xRx 5 = .ok (.return_, 1) := by decide +kernel
abbrev xR : String := "java/lang/RuntimeException"
abbrev xE : String := "java/lang/Exception"
def xAt (own : String) (ic : Nat) : List Cond :=
  Bundle.throwableAtoms ++ Bundle.throwableSAtoms ++ (Bundle.passSAtoms xN xR 13 xRx ++ Bundle.chainSAtoms xR [xE]) ++
  [.methodLink own ic (Bundle.initS xN), .instantiable xN 6, .selects xN Bundle.tFill0 Bundle.tFill0, .selects xN Bundle.tFill Bundle.tFill,
   .lays xN Bundle.tN "cause" "Ljava/lang/Throwable;", .lays xN Bundle.tN "stackTrace" Bundle.steD, .lays xN Bundle.tN "suppressedExceptions" Bundle.listD, .lays xN Bundle.tN "detailMessage" "Ljava/lang/String;",
   .isRef (.static Bundle.tN "UNASSIGNED_STACK" Bundle.steD), .isRef (.static Bundle.tN "SUPPRESSED_SENTINEL" Bundle.listD),
   .fieldLink Bundle.tN 198 Bundle.tN "backtrace" "Ljava/lang/Object;", .lays Bundle.tN Bundle.tN "backtrace" "Ljava/lang/Object;", .lays xN Bundle.tN "backtrace" "Ljava/lang/Object;"]
theorem xfitN : Bundle.fit xN = true := by decide +kernel
theorem xfitR : Bundle.fit xR = true := by decide +kernel
theorem xfitE : Bundle.fit xE = true := by decide +kernel
section ThrX
variable {p : Program} {l : Launch} {e : Env} {R : Room} {s : State} {m₀ : MethodId} {args : Array Value} {below : List Frame} {meth : Method} {c : Code}
set_option maxHeartbeats 1000000 in
theorem x_ctor {V : State} {locs : List Loc} {cells slots : Nat} (X : Stand p l e R s m₀ args below meth c V locs cells slots) (hexec : p.tables.exec = Jvm.exec) (htr : e.platform.stackTraces = false) {own : String} {ic : Nat}
    (hown : s.vm.findClass own = some m₀.cls) (h : ∀ a ∈ xAt own ic, a.before args s = true)
    (hlocs : ∀ x ∈ locs, ∀ cell, s.heap[x.base]? = some cell → cell.vm.isStatics = false)
    {a : Addr} {cX : ClassId} {kX : Class} (hfoundX : s.vm.findClass xN = some cX) (hkX : s.vm.classes[cX]? = some kX) (hcell : V.heap[a]? = some (freshCell cX kX)) (hnew : s.heap.size ≤ a)
    {msg : Value} (hmsg : msg.isRef = true)
    {g : JFrame} (hg : g.method = m₀) (hsize : g.locals.size = c.maxLocals) (hlocked : g.locked = none) (hentered : g.entered = []) {rest : List Value} (hstack : g.stack = msg :: .ref a :: .ref a :: rest)
    (hd6 : decode c.code g.pc = .ok (.invokespecial ic, 3)) (hd9 : decode c.code (g.pc + 3) = .ok (.athrow, 1)) (hout : ∀ x ∈ c.exceptionTable.toList, covers x (g.pc + 3) = false)
    (hRframes : 5 < R.frames) (hRlocals : 2 * g.monitorRoom + ((Value.ref a :: rest).map fun v => v.category).sum + 81 ≤ R.locals) (hlocks : meth.locks = false) :
    ∃ U : State, Steps p.tables e below (V.setTop g) U ∧ U.status = .running ∧ Ended U below (.threw a) ∧ s.WarmedH U.vm ∧ s.sameButNew ({ U with vm := s.vm } : State) locs cells slots ∧
      ∃ ce, U.heap[a]? = some ce ∧ ce.vm = .none ∧ s.vm.findClass xN = some ce.cls := by
  have howns : e.platform.frameOwnsMonitors = true := by rw [X.admits.platform]
  have hfin : e.platform.finalization = false := by rw [X.admits.platform]
  have hpl : e.platform.magicAccessors = ({} : Platform).magicAccessors := by rw [X.admits.platform]
  have a' : ∀ x, x ∈ xAt own ic → x.holds args s none s [] = true := fun x hx => h x hx
  obtain ⟨T, Z0, L, -, Y⟩ := ThrowableC.of_atoms (args := args) howns hfin hpl (fun x hx => h x (by simp [xAt, hx]))
  obtain ⟨Z, M, LZ, LM, hnZ⟩ := Init0T.ofS_atoms (args := args) hpl L Y (fun x hx => h x (by simp [xAt, hx]))
  obtain ⟨P1, L1, hP1m, hP1s⟩ := PassC.ofS_atoms (args := args) (s := s) hpl (X := xN) (Y := xR) (Bundle.fit_spec xfitN).1 (Bundle.fit_spec xfitR).2 xRx0 xRx1 xRx2 xRx5 (fun x hx => h x (by simp [xAt, hx]))
  obtain ⟨P2, Ps2, hlen2, L2, hL2, hP2m, hlink2, hpass2⟩ := Bundle.chainS (args := args) hpl hnZ [xE] xR xfitR (fun n hn => by rw [List.mem_singleton.mp hn]; exact xfitE) (fun x hx => h x (by simp [xAt, hx]))
  have hlink1 : P1.sup = P2.m := Option.some.inj (hP1s.symm.trans hP2m)
  have hfound : s.vm.findClass xN = some P1.m.cls := findClass_of_methodNamed hP1m
  cases Option.some.inj (hfoundX.symm.trans hfound)
  obtain ⟨c1, kX', hc1, hk, hord, -, -, hn6⟩ := Cond.instantiable_spec (a' (.instantiable xN 6) (by simp [xAt]))
  cases Option.some.inj (hc1.symm.trans hfound)
  cases Option.some.inj (hkX.symm.trans hk)
  have hsel0 : selectMethod e.platform s.vm P1.m.cls T.fill0 = .method T.fill0 := by
    obtain ⟨c2, r2, m2, q1, q2, q3, q4, -⟩ := Cond.selects_spec (a' (.selects xN Bundle.tFill0 Bundle.tFill0) (by simp [xAt]))
    cases Option.some.inj (q1.symm.trans hfound)
    cases Option.some.inj (q2.symm.trans (State.methodFound?_of_named Y.fill0 (by decide)))
    cases Option.some.inj (q3.symm.trans Y.fill0)
    rw [Launch.admits_selectMethod X.admits]; exact q4
  have hselF : selectMethod e.platform s.vm P1.m.cls T.fill = .method T.fill := by
    obtain ⟨c2, r2, m2, q1, q2, q3, q4, -⟩ := Cond.selects_spec (a' (.selects xN Bundle.tFill Bundle.tFill) (by simp [xAt]))
    cases Option.some.inj (q1.symm.trans hfound)
    cases Option.some.inj (q2.symm.trans (State.methodFound?_of_named Y.fill (by decide)))
    cases Option.some.inj (q3.symm.trans Y.fill)
    rw [Launch.admits_selectMethod X.admits]; exact q4
  obtain ⟨cellS0, hcS0, hiss⟩ := Y.statics
  obtain ⟨u0, hu0⟩ := Cond.staticRefV Y.unassigned L.unassignedStatic L.statics hcS0 hiss (a' (.isRef (.static Bundle.tN "UNASSIGNED_STACK" Bundle.steD)) (by simp [xAt]))
  obtain ⟨sen, hsen⟩ := Cond.staticRefV Y.sentinel L.sentinelStatic L.statics hcS0 hiss (a' (.isRef (.static Bundle.tN "SUPPRESSED_SENTINEL" Bundle.listD)) (by simp [xAt]))
  obtain ⟨ci198, i198, fB, hk198, hg198, ha198, hsB, -, hnB, htB, hffB⟩ := Cond.ownField (t := .object "java/lang/Object") Y.found L.cls (by decide +kernel) (a' (.fieldLink Bundle.tN 198 Bundle.tN "backtrace" "Ljava/lang/Object;") (by simp [xAt])) (a' (.lays Bundle.tN Bundle.tN "backtrace" "Ljava/lang/Object;") (by simp [xAt])) e.platform hpl
  obtain ⟨cellS, hcS', heS, -, hkeep⟩ := X.same.2.2.2.2.2 T.aS cellS0 hcS0
  have hcellS : V.heap[T.aS]? = some cellS := hcS'
  have hout' : ∀ i, (⟨T.aS, i⟩ : Loc) ∉ locs := fun i hmem => by
    have := hlocs _ hmem cellS0 hcS0
    rw [hiss] at this; cases this
  have hknownS : cellS.vm ≠ .unknown := by
    rw [heS]; intro hu
    rw [show cellS0.vm = .unknown from hu] at hiss
    cases hiss
  have hneS : T.aS ≠ a := Nat.ne_of_lt (Nat.lt_of_lt_of_le (Array.getElem?_eq_some_iff.mp hcS0).1 hnew)
  obtain ⟨iM, hffM⟩ := Y.msg
  obtain ⟨tyC, dC, hdC, hdnC⟩ := Cond.laysAt hfound hk Y.cause (a' (.lays xN Bundle.tN "cause" "Ljava/lang/Throwable;") (by simp [xAt]))
  obtain ⟨tyS, dS, hdS, hdnS⟩ := Cond.laysAt hfound hk Y.stack (a' (.lays xN Bundle.tN "stackTrace" Bundle.steD) (by simp [xAt]))
  obtain ⟨tyP, dP, hdP, hdnP⟩ := Cond.laysAt hfound hk Y.supp (a' (.lays xN Bundle.tN "suppressedExceptions" Bundle.listD) (by simp [xAt]))
  obtain ⟨tyM, dM, hdM, hdnM⟩ := Cond.laysAt hfound hk hffM (a' (.lays xN Bundle.tN "detailMessage" "Ljava/lang/String;") (by simp [xAt]))
  obtain ⟨tyB, dB, hdB, hdnB⟩ := Cond.laysAt hfound hk hffB (a' (.lays xN Bundle.tN "backtrace" "Ljava/lang/Object;") (by simp [xAt]))
  have bC := Cond.laysApart hdB hdC hdnB hdnC (by rw [hnB, Y.causeName]; decide)
  have bS := Cond.laysApart hdB hdS hdnB hdnS (by rw [hnB, Y.stackName]; decide)
  have bP := Cond.laysApart hdB hdP hdnB hdnP (by rw [hnB, Y.suppName]; decide)
  have hskip : SkipFacts T e.platform s (fun u => u) u0 ((preparedCellV T.toThrowableT (freshCell P1.m.cls kX) a u0 sen).withEntry V.cur) :=
    ⟨{ ci198 := ci198, i198 := i198, fBack := fB }, ⟨hk198, hg198, ha198, hsB⟩, by
      have := fresh_default (c := P1.m.cls) tyB
      rw [htB] at this
      simpa [preparedCellV, Cell.setSlot, Cell.withEntry, Array.getElem?_setIfInBounds, bC, bS, bP, bC.symm, bS.symm, bP.symm, defaultValue] using this, fun _ _ => rfl⟩
  obtain ⟨tm, methC, cdC, kC, vm₁, hnC, -, -, -, -, -, -, -, hW₁, st1⟩ := Steps.initColdS (tb := p.tables) (e := e) (below := below) (s := s) (U := V) X.here hexec X.warmed hpl hown (t := Bundle.initS xN) rfl rfl (Bundle.fit_spec xfitN).2
    (a' (.methodLink own ic (Bundle.initS xN)) (by simp [xAt])) (h (.instanceMethod (Bundle.initS xN)) (by simp [xAt, Bundle.passSAtoms])) (bytes := xRx) (maxL := 2) (h (.code (Bundle.initS xN) xRx 2 none) (by simp [xAt, Bundle.passSAtoms]))
    (f := g) hg (a := a) (msg := msg) (rest := .ref a :: rest) hstack hd6
  cases Option.some.inj (hnC.symm.trans hP1m)
  have X₁ := X.noted hW₁
  have hl2 : Ps2.length = 1 := hlen2
  obtain ⟨vm₂, X₂, st2⟩ := X₁.ctorMessageOffV hexec (g := { g with stack := .ref a :: rest }) hg hsize T L Z LZ M LM (P1 :: P2 :: Ps2)
    (fun P hP => by
      rcases List.mem_cons.mp hP with rfl | hP
      · exact L1
      · rcases List.mem_cons.mp hP with rfl | hP
        · exact L2
        · exact hL2 P hP) ⟨hlink1, hlink2, hpass2⟩ (u0 := u0) (sen := sen) (self := a) hmsg (cell := freshCell P1.m.cls kX) (cellS := cellS)
    hcell (fun _ => by simp) (by simp) rfl rfl hsel0 hselF hcellS hneS hknownS (by rw [hkeep _ (hout' _)]; exact hu0) (by rw [hkeep _ (hout' _)]; exact hsen)
    (Takes.of_laid hk hord tyC (by rw [Y.causeType]; rfl)) (Takes.of_laid hk hord tyS (by rw [Y.stackType]; exact fits_refV_array _ u0)) (Takes.of_laid hk hord tyP (by rw [Y.suppType]; exact fits_refV_object _ sen))
    (Takes.of_laid hk hord tyM (by rw [Y.msgType]; exact fits_refV_object _ ⟨msg, hmsg⟩)) Y.objLocals hskip htr [] hd6
    (by simp only [List.length_cons, hl2]; omega) (by simp only [List.length_cons, hl2]; exact hRlocals)
  obtain ⟨hwalk, hrun, hended, hWU, hsame⟩ := X₂.athrowLeaves hexec (g := { g with stack := .ref a :: rest, pc := g.pc + 3 }) hg hlocked hentered hout (a := a) (rest := rest) rfl hd9
  have hlt : a < ((V.setVm vm₁).setVm vm₂).heap.size := (Array.getElem?_eq_some_iff.mp hcell).1
  have hU := heapAt_setCell_self (s := (V.setVm vm₁).setVm vm₂) (plainBareV T.toThrowableT (freshCell P1.m.cls kX) a u0 sen msg) hlt
  refine ⟨_, st1 _ (fun acts => ?_), hrun, hended, hWU, hsame.weaken (fun y hy hlt' => ?_) (Nat.le_refl _) (Nat.le_refl _), _, hU, rfl, hfound⟩
  · rw [doInvoke_state]
    exact st2 _ hwalk
  · rcases List.mem_append.mp hy with h1 | h1
    · exact h1
    · exfalso
      have hb : y.base = a := by
        simp only [List.mem_cons, List.not_mem_nil, or_false] at h1
        rcases h1 with rfl | rfl | rfl | rfl | rfl <;> rfl
      rw [hb] at hlt'
      exact Nat.not_lt.mpr hnew hlt'
variable {m : MethodId} {H : Heap} {locs : List Loc} {cells slots : Nat} {ls : Array Slot} {rest : List Value} {Qc : Array Value → State → Outcome → State → Prop} {XC : String → State → State → Prop} {free : Addr → Prop}
theorem x_throw {cc : ByteArray} {pc : Nat} (hexec : p.tables.exec = Jvm.exec) (hb : c.code = cc) (hl : l.stackTraces = false) {own text : String} {ik is ic mc ms sa : Nat} {A : Nat → Prop}
    (hown : s.vm.findClass own = some m.cls)
    (hk : (Cond.classLink own ik xN).before args s = true) (hini : (Cond.initialized xN).before args s = true) (hstr : vk_R own is text sa s) (hat : ∀ w ∈ (xAt own ic).filter vx_no, w.before args s = true)
    (hgood : ∀ w ∈ Cond.classLink own ik xN :: Cond.initialized xN :: (xAt own ic).filter vx_no, vx_ot w = true)
    (hU : vx_Zq Bundle.tN "UNASSIGNED_STACK" Bundle.steD A s s.heap) (hN : vx_Zq Bundle.tN "SUPPRESSED_SENTINEL" Bundle.listD A s s.heap) (hS : va_S A s.heap H locs) (hsize : ls.size = c.maxLocals)
    (d0 : decode cc pc = .ok (.new ik, 3)) (d3 : decode cc (pc + 3) = .ok (.dup, 1)) (d4 : decode cc (pc + 4) = .ok (.ldc is, 2)) (d6 : decode cc (pc + 6) = .ok (.invokespecial ic, 3)) (d9 : decode cc (pc + 9) = .ok (.athrow, 1))
    (hout : ∀ x ∈ c.exceptionTable.toList, covers x (pc + 9) = false)
    (hRframes : 5 < R.frames) (hRlocals : (rest.map fun v => v.category).sum + 82 ≤ R.locals) (hRcells : cells + 1 ≤ R.cells) (hRslots : slots + 6 ≤ R.slots) (hlocks : meth.locks = false)
    (hx : ∀ t : State, s.vm.Alike t.vm → H.size ≤ t.heap.size → (∀ q : Nat, q < H.size → t.heap[q]? = H[q]?) → XC xN s t)
    (hf : ∀ z ∈ locs, free z.base) (hc : cells + 1 ≤ mc) (hs : slots + 6 ≤ ms) :
    W p l e R s m args below meth c H locs cells slots (vx_MQ below Qc XC args s mc ms free) (F0 m pc ls rest) := by
  intro T hT X
  have htr : e.platform.stackTraces = false := (show e.platform.stackTraces = l.stackTraces by rw [X.admits.platform]).trans hl
  have Y := vx_rebase X (R' := { frames := R.frames, locals := R.locals, cells := 1, slots := 6 }) (Nat.le_refl _) (Nat.le_refl _) hRcells hRslots
  obtain ⟨s', hA⟩ : ∃ z, z = (T.setVm s.vm).setFrames (.invoking m args :: below) := ⟨_, rfl⟩
  rw [← hA] at Y
  have hvm : s'.vm = s.vm := by rw [hA]; rfl
  have hhp : s'.heap = H := by rw [hA]; exact hT
  have hW0 : s.WarmedH s'.vm := by rw [hvm]; exact State.WarmedH.refl s
  have hat' : ∀ w ∈ (xAt own ic).filter vx_no, w.before args s' = true := fun w hw => vx_ot_at hW0 hvm.symm (hgood w (List.mem_cons_of_mem _ (List.mem_cons_of_mem _ hw))) (hat w hw)
  have hk' : (Cond.classLink own ik xN).before args s' = true := vx_ot_at hW0 hvm.symm (hgood _ List.mem_cons_self) hk
  have hini' : (Cond.initialized xN).before args s' = true := vx_ot_at hW0 hvm.symm (hgood _ (List.mem_cons_of_mem _ List.mem_cons_self)) hini
  have hU' : vx_Zq Bundle.tN "UNASSIGNED_STACK" Bundle.steD A s' s'.heap := by rw [hhp]; exact vx_Zq.moved hW0.alike (hU.kept hS.2.1)
  have hN' : vx_Zq Bundle.tN "SUPPRESSED_SENTINEL" Bundle.listD A s' s'.heap := by rw [hhp]; exact vx_Zq.moved hW0.alike (hN.kept hS.2.1)
  have h : ∀ w ∈ xAt own ic, w.before args s' = true := vx_own hat' (vx_isRefq hU'.1) (vx_isRefq hN'.1) hU'.2.word hN'.2.word
  have hown' : s'.vm.findClass own = some m.cls := by rw [hvm]; exact hown
  have hins : (Cond.instantiable xN 6).before args s' = true := h _ (by simp [xAt])
  obtain ⟨vm₁, cX, kX, hfX, hkX, -, -, X₁, st1⟩ := Y.newCold hexec (own := own) (C := xN) (index := ik) (n := 6) hown' hk' hins hini'
    (g := F0 m pc ls rest) rfl (by rw [hb]; exact d0) (Nat.le_refl _) (Nat.le_refl _)
  generalize hT1 : (T.setVm vm₁).pushCell { cls := cX, slots := kX.instanceTypes.map defaultValue, vm := .none } = T1 at X₁ st1
  have hcat : (Value.ref T.heap.size).category = 1 := rfl
  have hcellA : T1.heap[T.heap.size]? = some (freshCell cX kX) := by rw [← hT1]; exact State.heap_pushCell_size _ _
  have d3' : decode c.code (pc + 3) = .ok (.dup, 1) := by rw [hb]; exact d3
  have d4' : decode c.code (pc + 4) = .ok (.ldc is, 2) := by rw [hb]; exact d4
  have hstr' : vk_R own is text sa s' := vk_R.warm hW0 hstr
  obtain ⟨U, hsteps, hrun, hend, hW, hsame, ce, hce, hcv, hcl'⟩ := x_ctor X₁ hexec htr (own := own) (ic := ic) hown' h (fun x hx => nomatch hx) hfX hkX hcellA (by rw [hhp, hT]; exact Nat.le_refl _) (msg := .ref sa) rfl
    (g := { method := m, pc := pc + 6, locals := ls, stack := .ref sa :: .ref T.heap.size :: .ref T.heap.size :: rest, locked := none }) rfl hsize rfl rfl (rest := rest) rfl
    (by rw [hb]; exact d6) (by rw [hb]; exact d9) hout hRframes (by simp only [List.map_cons, List.sum_cons, hcat]; show 2 * 0 + _ + 81 ≤ _; omega) hlocks
  obtain ⟨f1, f2⟩ := vx_frame hsame
  rw [hhp] at f1 f2
  have hWs : s.WarmedH U.vm := State.WarmedH.trans hW0 hW
  have hcl : s.vm.findClass xN = some ce.cls := by
    rw [hvm] at hcl'
    exact hcl'
  have hall : s.sameButNew ({ U with vm := s.vm } : State) locs mc ms := by
    subst hA
    obtain ⟨e1, e2⟩ := hsame
    rw [State.setFrames_setFrames] at e1
    have h2 : (T.setVm s.vm).sameButNew ({ U with vm := s.vm } : State) [] (0 + 1) (0 + 6) := ⟨e1, e2⟩
    have h3 := X.same.trans h2
    rw [List.append_nil] at h3
    exact h3.mono hc hs
  refine ⟨U, ?_, .threw T.heap.size, hrun, hend, Or.inr ⟨T.heap.size, rfl, xN, ce, locs, hx U hWs.alike f1 (fun q hq => f2 q hq (fun z hz => nomatch hz)), hce, hcv, hcl, hWs, hall, hf⟩⟩
  refine st1 _ ?_
  show Steps p.tables e below (T1.setTop { method := m, pc := pc + 3, locals := ls, stack := .ref T.heap.size :: rest, locked := none }) _
  jvm_step X₁.here [X₁.here.top, hexec, d3', Value.category]
  exact X₁.ldcString hexec (own := own) (text := text) (index := is) (a := sa) hown' hstr'.1 hstr'.2
    (g := { method := m, pc := pc + 4, locals := ls, stack := .ref T.heap.size :: .ref T.heap.size :: rest, locked := none }) rfl d4' _ hsteps
end ThrX
/-! QueueKeeper.bucket, which may throw, and the law's own bucket, which catches -/
def isCD : Cond → Bool
  | .castable .. => true
  | .declares _ => true
  | _ => false
def GX (U : State) : Prop := ∀ w ∈ lw_tbl, isCD w = true → w.before #[] U = true
theorem GX.warm {s U : State} (hW : s.WarmedH U.vm) (h : GX s) : GX U := by
  intro w hw hc
  have h0 := h w hw hc
  cases w <;> first
    | (simp [isCD] at hc; done)
    | exact va_Nw.warmD hW h0
    | exact va_tabs rfl (rfl : (s.setVm U.vm).vm = U.vm) (by rw [Cond.castable_setVm hW.alike]; exact h0)
theorem GX.use {s : State} (h : GX s) {w : Cond} (hw : w ∈ lw_tbl) (hc : isCD w = true) (A : Array Value) : w.before A s = true := by
  have h0 := h w hw hc
  cases w <;> first
    | (simp [isCD] at hc; done)
    | exact va_tabs rfl rfl h0
def EX (A : Nat → Prop) (U : State) (H : Heap) : Prop := vx_Zq Bundle.tN "UNASSIGNED_STACK" Bundle.steD A U H ∧ vx_Zq Bundle.tN "SUPPRESSED_SENTINEL" Bundle.listD A U H ∧ va_Nc xN xI U
theorem EX.warm {A : Nat → Prop} {u U : State} {H : Heap} (hW : u.WarmedH U.vm) (h : EX A u H) : EX A U H := ⟨h.1.moved hW.alike, h.2.1.moved hW.alike, h.2.2.moved hW.alike⟩
theorem EX.kept {A : Nat → Prop} {U : State} {H H1 : Heap} (h : EX A U H) (hq : ∀ a : Nat, a < H.size → ¬ A a → H1[a]? = H[a]?) : EX A U H1 := ⟨h.1.kept hq, h.2.1.kept hq, h.2.2⟩
theorem EX.narrow {A B : Nat → Prop} {U : State} {H : Heap} (h : EX A U H) (hAB : ∀ q, B q → A q) : EX B U H := ⟨h.1.narrow hAB, h.2.1.narrow hAB, h.2.2⟩
def Pre2 (G : GT) (h : Hp) (sz : Nat) (U : State) : Prop := Pre G h sz U ∧ GX U ∧ EX (AG G sz) U U.heap
theorem Pre2.blind {G : GT} {h : Hp} {sz : Nat} {av : List Value} : FrameBlind (va_Pc av (Pre2 G h sz)) := by
  intro a U g mk q
  obtain ⟨q0, q1, q2, q3⟩ := q
  exact ⟨q0, (Pre.blind (av := av) a U g mk ⟨q0, q1⟩).2, GX.warm (U := U.calling g mk a) (State.WarmedH.refl U) q2, EX.warm (U := U.calling g mk a) (State.WarmedH.refl U) q3⟩
def CX2 (p : Program) (s : State) (m : MethodId) (args : Array Value) (c : Code) (cc : ByteArray) (nL : Nat) (own : String) (G : GT) : Prop := CX p s m args c cc nL own G ∧ GX s ∧ EX (AG G s.heap.size) s s.heap
theorem Pre2.of {p : Program} {s : State} {m : MethodId} {args : Array Value} {c : Code} {cc : ByteArray} {nL : Nat} {own : String} {G : GT} {h : Hp} {H : Heap} {locs : List Loc} (cx : CX2 p s m args c cc nL own G) (hI : IV G s h H locs) {U : State} (hU : U.heap = H) (hW : s.WarmedH U.vm) : Pre2 G h H.size U := by
  refine ⟨Pre.of cx.1 hI hU hW, cx.2.1.warm hW, ?_⟩
  rw [hU]
  exact ((cx.2.2.kept hI.2.2.2.1).warm hW).narrow (fun q hq => AG.le hI.2.2.1 hq)
def QBc (G : GT) (a : Nat × Int32 × Hp) (sz : Nat) : Array Value → State → Outcome → State → Prop := fun _ st oc t => a.1 = 0 ∧ oc = .returned (some (.int a.2.1)) ∧ va_P G.1 vwCl (wd G a.2.2) t.heap ∧ va_D (fun _ => True) (wd G a.2.2) ∧ va_F (AG G sz) st t
def XB (G : GT) (a : Nat × Int32 × Hp) (sz : Nat) : String → State → State → Prop := fun E st t => ((a.1 = 1 ∧ E = xI) ∨ (a.1 = 2 ∧ E = xN)) ∧ va_P G.1 vwCl (wd G a.2.2) t.heap ∧ va_D (fun _ => True) (wd G a.2.2) ∧ va_F (AG G sz) st t
def rmB : Room := { frames := 8, cells := 1, slots := 6, locals := 120 }
def rmL : Room := { frames := 9, cells := 1, slots := 6, locals := 142 }
abbrev QB (below : List Frame) (G : GT) (args : Array Value) (s : State) : Nat × Int32 × Hp → State → Prop := fun a => vx_MQ below (QBc G a s.heap.size) (XB G a s.heap.size) args s 1 6 (AG G s.heap.size)
def p_X9_bk (h : Hp) (o0 : Nat) (x1 x2 : Int32) : Option (Nat × Int32 × Hp) :=
  Option.bind (p_X8_hasBucket h (o0 + 10) x1) fun r1 => if r1.1 = 0 then some (1, 0, r1.2) else (if x2 < 0 then some (2, 0, r1.2) else (if x2 ≤ 10 then (if ib x1 16 then Option.bind (p_X0_tell r1.2 (o0 + 10 + 16 + 1 + Int32.toNatClampNeg x1) x2) fun r2 => some (0, r2.1, r2.2) else none) else some (2, 0, r1.2)))
theorem at_x (L : List Cond) (h : L.all (fun w => decide (w ∈ lw_tbl) && (okw w || isCD w)) = true) {s : State} (g : GE s) (gx : GX s) (A : Array Value) : ∀ w ∈ L, w.before A s = true := by
  intro w hw
  have h1 := List.all_eq_true.mp h w hw
  simp only [Bool.and_eq_true, decide_eq_true_eq, Bool.or_eq_true] at h1
  rcases h1.2 with h2 | h2
  · exact g.use h1.1 h2 A
  · exact gx.use h1.1 h2 A
theorem at_I : (vx_atS RX9 150 xI ["java/lang/RuntimeException", "java/lang/Exception"]).all (fun w => decide (w ∈ lw_tbl) && (okw w || isCD w)) = true := by decide +kernel
theorem at_N : ((xAt RX9 157).filter vx_no).all (fun w => decide (w ∈ lw_tbl) && (okw w || isCD w)) = true := by decide +kernel
theorem ot_I : ∀ w ∈ Cond.classLink RX9 146 xI :: Cond.initialized xI :: vx_atS RX9 150 xI ["java/lang/RuntimeException", "java/lang/Exception"], vx_ot w = true := List.all_eq_true.mp (by decide +kernel)
theorem ot_N : ∀ w ∈ Cond.classLink RX9 153 xN :: Cond.initialized xN :: (xAt RX9 157).filter vx_no, vx_ot w = true := List.all_eq_true.mp (by decide +kernel)
theorem x_word {P : Cond → Bool} (i : Nat) (h : (lw_tbl[i]?).any P = true) : ∃ w, w ∈ lw_tbl ∧ P w = true := by
  cases hq : lw_tbl[i]? with
  | none => rw [hq] at h; cases h
  | some w => rw [hq] at h; exact ⟨w, List.mem_of_getElem? hq, h⟩
theorem w_xcI : Cond.classLink RX9 146 xI ∈ lw_tbl := wi 1206 (by decide +kernel)
theorem w_xcN : Cond.classLink RX9 153 xN ∈ lw_tbl := wi 1272 (by decide +kernel)
theorem w_xiI : Cond.initialized xI ∈ lw_tbl := wi 114 (by decide +kernel)
theorem w_xiN : Cond.initialized xN ∈ lw_tbl := wi 115 (by decide +kernel)
theorem w_bkC : Cond.code yX9_bucket cX9_bucket 3 (some .int) ∈ lw_tbl := wi 1205 (by decide +kernel)
theorem w_bkI : Cond.initialized RX9 ∈ lw_tbl := wi 94 (by decide +kernel)
theorem w_bkL : Cond.methodLink RL 7 yX9_bucket ∈ lw_tbl := wi 1202 (by decide +kernel)
theorem w_bkM : Cond.instanceMethod yX9_bucket ∈ lw_tbl := wi 1203 (by decide +kernel)
theorem w_bkS : Cond.selects RX9 yX9_bucket yX9_bucket ∈ lw_tbl := wi 1204 (by decide +kernel)
theorem dX9_bucket_0 : decode cX9_bucket 0 = .ok (.aload_n 0, 1) := by decide +kernel
theorem dX9_bucket_1 : decode cX9_bucket 1 = .ok (.getfield 19, 3) := by decide +kernel
theorem dX9_bucket_4 : decode cX9_bucket 4 = .ok (.iload_n 1, 1) := by decide +kernel
theorem dX9_bucket_5 : decode cX9_bucket 5 = .ok (.invokevirtual 143, 3) := by decide +kernel
theorem dX9_bucket_8 : decode cX9_bucket 8 = .ok (.ifCond .ne 13, 3) := by decide +kernel
theorem dX9_bucket_11 : decode cX9_bucket 11 = .ok (.new 146, 3) := by decide +kernel
theorem dX9_bucket_14 : decode cX9_bucket 14 = .ok (.dup, 1) := by decide +kernel
theorem dX9_bucket_15 : decode cX9_bucket 15 = .ok (.ldc 148, 2) := by decide +kernel
theorem dX9_bucket_17 : decode cX9_bucket 17 = .ok (.invokespecial 150, 3) := by decide +kernel
theorem dX9_bucket_20 : decode cX9_bucket 20 = .ok (.athrow, 1) := by decide +kernel
theorem dX9_bucket_21 : decode cX9_bucket 21 = .ok (.iload_n 2, 1) := by decide +kernel
theorem dX9_bucket_22 : decode cX9_bucket 22 = .ok (.ifCond .lt 9, 3) := by decide +kernel
theorem dX9_bucket_25 : decode cX9_bucket 25 = .ok (.iload_n 2, 1) := by decide +kernel
theorem dX9_bucket_26 : decode cX9_bucket 26 = .ok (.bipush 10, 2) := by decide +kernel
theorem dX9_bucket_28 : decode cX9_bucket 28 = .ok (.if_icmp .le 13, 3) := by decide +kernel
theorem dX9_bucket_31 : decode cX9_bucket 31 = .ok (.new 153, 3) := by decide +kernel
theorem dX9_bucket_34 : decode cX9_bucket 34 = .ok (.dup, 1) := by decide +kernel
theorem dX9_bucket_35 : decode cX9_bucket 35 = .ok (.ldc 155, 2) := by decide +kernel
theorem dX9_bucket_37 : decode cX9_bucket 37 = .ok (.invokespecial 157, 3) := by decide +kernel
theorem dX9_bucket_40 : decode cX9_bucket 40 = .ok (.athrow, 1) := by decide +kernel
theorem dX9_bucket_41 : decode cX9_bucket 41 = .ok (.aload_n 0, 1) := by decide +kernel
theorem dX9_bucket_42 : decode cX9_bucket 42 = .ok (.getfield 19, 3) := by decide +kernel
theorem dX9_bucket_45 : decode cX9_bucket 45 = .ok (.getfield 158, 3) := by decide +kernel
theorem dX9_bucket_48 : decode cX9_bucket 48 = .ok (.iload_n 1, 1) := by decide +kernel
theorem dX9_bucket_49 : decode cX9_bucket 49 = .ok (.aaload, 1) := by decide +kernel
theorem dX9_bucket_50 : decode cX9_bucket 50 = .ok (.iload_n 2, 1) := by decide +kernel
theorem dX9_bucket_51 : decode cX9_bucket 51 = .ok (.invokevirtual 162, 3) := by decide +kernel
theorem dX9_bucket_54 : decode cX9_bucket 54 = .ok (.ireturn, 1) := by decide +kernel
section Bk
variable {p : Program} {l : Launch} {e : Env} {s : State} {m : MethodId} {args : Array Value} {below : List Frame} {meth : Method} {c : Code} {G : GT} {lv : List (Option Value)} {st : List Value} {h : Hp}
theorem f_thrI (hst : l.stackTraces = false) (cx : CX2 p s m args c cX9_bucket 3 RX9 G) (hlk : meth.locks = false) (hex : ∀ x ∈ c.exceptionTable.toList, False) (hW : (st.map fun v => v.category).sum ≤ 8) : PF p l e rmB s m args below meth c 3 G 0 0 (QB below G args s) 11 lv st h (some (1, 0, h)) := by
  intro a ha H locs ls hl hI
  cases ha
  exact vx_throwS (A := AG G s.heap.size) cx.1.1 cx.1.2.1 hst cx.1.2.2.2.1 (by decide +kernel) (by decide +kernel) (cx.1.2.2.2.2.1.use w_xcI rfl _) (cx.1.2.2.2.2.1.use w_xiI rfl _) (cx.1.2.2.2.2.2.2.2.2.1 15 (by decide)) (at_x _ at_I cx.1.2.2.2.2.1 cx.2.1 _) ot_I cx.2.2.1 cx.2.2.2.1 hI.2.2 (by rw [cx.1.2.2.1, hl.1]) dX9_bucket_11 dX9_bucket_14 dX9_bucket_15 dX9_bucket_17 dX9_bucket_20 (fun x hx => (hex x hx).elim) (by decide) (by show _ + (13 * (2 + 1) + 43) ≤ 120; omega) (by decide) (by decide) hlk (fun t hvm hz hk => ⟨Or.inl ⟨rfl, rfl⟩, hI.1.kept (fun k q hq => hk _ (hI.1 k q hq).lt), hI.2.1.weaken (fun _ _ _ _ => trivial), Nat.le_trans hI.2.2.1 hz, fun q h1 h2 => by rw [hk q (Nat.lt_of_lt_of_le h1 hI.2.2.1)]; exact hI.2.2.2.1 q h1 h2⟩) hI.2.2.2.2 (by decide) (by decide)
theorem f_thrN (hst : l.stackTraces = false) (cx : CX2 p s m args c cX9_bucket 3 RX9 G) (hlk : meth.locks = false) (hex : ∀ x ∈ c.exceptionTable.toList, False) (hW : (st.map fun v => v.category).sum ≤ 8) : PF p l e rmB s m args below meth c 3 G 0 0 (QB below G args s) 31 lv st h (some (2, 0, h)) := by
  intro a ha H locs ls hl hI
  cases ha
  exact x_throw (A := AG G s.heap.size) cx.1.1 cx.1.2.1 hst cx.1.2.2.2.1 (cx.1.2.2.2.2.1.use w_xcN rfl _) (cx.1.2.2.2.2.1.use w_xiN rfl _) (cx.1.2.2.2.2.2.2.2.2.1 16 (by decide)) (at_x _ at_N cx.1.2.2.2.2.1 cx.2.1 _) ot_N cx.2.2.1 cx.2.2.2.1 hI.2.2 (by rw [cx.1.2.2.1, hl.1]) dX9_bucket_31 dX9_bucket_34 dX9_bucket_35 dX9_bucket_37 dX9_bucket_40 (fun x hx => (hex x hx).elim) (by decide) (by show _ + 82 ≤ 120; omega) (by decide) (by decide) hlk (fun t hvm hz hk => ⟨Or.inr ⟨rfl, rfl⟩, hI.1.kept (fun k q hq => hk _ (hI.1 k q hq).lt), hI.2.1.weaken (fun _ _ _ _ => trivial), Nat.le_trans hI.2.2.1 hz, fun q h1 h2 => by rw [hk q (Nat.lt_of_lt_of_le h1 hI.2.2.1)]; exact hI.2.2.2.1 q h1 h2⟩) hI.2.2.2.2 (by decide) (by decide)
theorem f_bkret (cx : CX2 p s m args c cX9_bucket 3 RX9 G) (hr : meth.sig.returnType = some .int) (hlk : meth.locks = false) {v : Int32} : PF p l e rmB s m args below meth c 3 G 0 0 (QB below G args s) 54 lv [.int v] h (some (0, v, h)) := by
  intro a ha H locs ls hl hI
  cases ha
  refine W.widen (k := 1) (n := 6) (by decide) (by decide) (vx_ret ?_)
  exact W.iret cx.1.1 cx.1.2.1 hr (fun t ht hW => ⟨rfl, rfl, by rw [ht]; exact hI.1, hI.2.1.weaken (fun _ _ _ _ => trivial), hI.2.2.F ht⟩) hI.2.2.2.2 dX9_bucket_54 hlk
set_option maxRecDepth 4000 in
theorem s_X9_bk (hst : l.stackTraces = false) (cx : CX2 p s m args c cX9_bucket 3 RX9 G) (hr : meth.sig.returnType = some .int) (hlk : meth.locks = false) (hex : ∀ x ∈ c.exceptionTable.toList, False) (h : Hp) (o0 : Nat) (x1 x2 : Int32) (hk_o0 : kd o0 = 8) : PF p l e rmB s m args below meth c 3 G 0 0 (QB below G args s) 0 [some (.ref (gad G o0)), some (.int x1), some (.int x2)] [] h (p_X9_bk h o0 x1 x2) := by
  unfold p_X9_bk
  refine f_aload_n (pc := 0) cx.1 dX9_bucket_0 rfl rfl ?_
  refine g_X9_19 (pc := 1) cx.1 hk_o0 dX9_bucket_1 ?_
  refine f_iload_n (pc := 4) cx.1 dX9_bucket_4 rfl rfl ?_
  refine f_bind (fun r1 hr1 => ?_)
  refine k_X9_143 (pc := 5) cx.1 (c_X8_hasBucket l G _ (o0 + 10) x1 (kf_8_1 hk_o0) r1 hr1) (kf_8_1 hk_o0) ⟨by decide, by decide⟩ ⟨Nat.zero_le _, Nat.zero_le _⟩ (Nat.le_of_ble_eq_true rfl) dX9_bucket_5 ?_
  refine f_if_ne (pc := 8) (tgt := 21) cx.1 dX9_bucket_8 (by decide) (fun _ => ?_) (fun _ => ?_)
  · exact f_thrI hst cx hlk hex (Nat.le_of_ble_eq_true rfl)
  · refine f_iload_n (pc := 21) cx.1 dX9_bucket_21 rfl rfl ?_
    refine f_if_lt (pc := 22) (tgt := 31) cx.1 dX9_bucket_22 (by decide) (fun _ => ?_) (fun _ => ?_)
    · exact f_thrN hst cx hlk hex (Nat.le_of_ble_eq_true rfl)
    · refine f_iload_n (pc := 25) cx.1 dX9_bucket_25 rfl rfl ?_
      refine f_bipush (pc := 26) cx.1 dX9_bucket_26 kc_bipush_10 ?_
      refine f_icmp_le (pc := 28) (tgt := 41) cx.1 dX9_bucket_28 (by decide) (fun _ => ?_) (fun _ => ?_)
      · refine f_aload_n (pc := 41) cx.1 dX9_bucket_41 rfl rfl ?_
        refine g_X9_19 (pc := 42) cx.1 hk_o0 dX9_bucket_42 ?_
        refine g_X9_158 (pc := 45) cx.1 (kf_8_1 hk_o0) dX9_bucket_45 ?_
        refine f_iload_n (pc := 48) cx.1 dX9_bucket_48 rfl rfl ?_
        refine f_need (fun c1 => ?_)
        refine f_aldB (pc := 49) cx.1 (kf_7_2 (kf_8_1 hk_o0)) c1 dX9_bucket_49 ?_
        refine f_iload_n (pc := 50) cx.1 dX9_bucket_50 rfl rfl ?_
        refine f_bind (fun r2 hr2 => ?_)
        refine k_X9_162 (pc := 51) cx.1 (c_X0_tell l G _ (o0 + 10 + 16 + 1 + Int32.toNatClampNeg x1) x2 (ka_b (kf_7_2 (kf_8_1 hk_o0)) c1) r2 hr2) (ka_b (kf_7_2 (kf_8_1 hk_o0)) c1) ⟨by decide, by decide⟩ ⟨Nat.zero_le _, Nat.zero_le _⟩ (Nat.le_of_ble_eq_true rfl) dX9_bucket_51 ?_
        exact f_bkret cx hr hlk
      · exact f_thrN hst cx hlk hex (Nat.le_of_ble_eq_true rfl)
end Bk
theorem lv_init {av : List Value} {maxL : Nat} {lv : List (Option Value)} {ls : Array Slot} (hc : cat1 av = true) (hlv : lv = av.map some ++ List.replicate (maxL - av.length) none) (hl : lv_has ls maxL (lv_args 0 av)) : LV ls maxL lv := by
  refine ⟨hl.1, hl.2.1, fun i v hi => ?_⟩
  rw [hlv] at hi
  refine hl.2.2 (i, v) ?_
  have h1 : av[i]? = some v := by
    by_cases hlt : i < av.length
    · rw [List.getElem?_append_left (by simpa using hlt), List.getElem?_map] at hi
      cases hq : av[i]? with
      | none => rw [hq] at hi; cases hi
      | some z => rw [hq] at hi; simp at hi; rw [hi]
    · rw [List.getElem?_append_right (by simpa using hlt)] at hi
      have := List.mem_of_getElem? hi
      simp [List.mem_replicate] at this
  have := lv_args_mem av 0 hc i v h1
  rwa [Nat.zero_add] at this
theorem c_X9_bk (l : Launch) (hst : l.stackTraces = false) (G : GT) (h : Hp) (o0 : Nat) (x1 x2 : Int32) (hk_o0 : kd o0 = 8) (a : Nat × Int32 × Hp) (ha : p_X9_bk h o0 x1 x2 = some a) (sz : Nat) : vx_Met l yX9_bucket [.code yX9_bucket cX9_bucket 3 (some .int)] rmB (va_Pc [.ref (gad G o0), .int x1, .int x2] (Pre2 G h sz)) (QBc G a sz) (XB G a sz) 1 6 (AG G sz) := by
  refine vx_ofW (cc := cX9_bucket) (maxL := 3) (ret := some .int) (by decide) rfl ?_
  intro p e s m args below meth c s₁ B hml hex hv
  obtain ⟨rfl, ⟨hsz, hg, hk, hS, hP, hD⟩, hgx, hexx⟩ := hv
  subst hsz
  have hl := lv_entry [.ref (gad G o0), .int x1, .int x2] (n := 3) (Nat.le_of_ble_eq_true rfl)
  rw [lg_entry_eq]
  exact s_X9_bk hst ⟨⟨B.exec, B.bytes, hml, findClass_of_methodNamed B.named, hg, hk, hS⟩, hgx, hexx⟩ B.returns B.notSynchronized hex h o0 x1 x2 hk_o0 a ha s.heap [] _ (lv_init (av := [.ref (gad G o0), .int x1, .int x2]) rfl rfl hl) ⟨hP, wd_D _ hD, va_S.rf⟩
/-! the law's own -/
theorem Met_ofWH {l : Launch} {y : MethodName} {ws ws' : List Cond} {rm : Room} {Pc : Array Value → State → Prop} {Qc : Array Value → State → Outcome → State → Prop} {mc ms : Nat} {free : Addr → Prop} {cc : ByteArray} {maxL : Nat} {ret : Option FieldType} {hh : List (Nat × Nat × Nat × Nat)}
    (hy : plainName y.cls = true) (hw : ws = Cond.codeWith y cc maxL ret hh :: ws')
    (body : ∀ p e s m args below meth c s₁, BodyLoose p l y (headSpec ws rm) cc maxL ret e s m args below meth c s₁ → c.maxLocals = maxL → Pc args s →
      W p l e (headSpec ws rm).room s m args below meth c s.heap [] 0 0 (MQ below Qc args s mc ms free) (entryFrame m args maxL)) : Met l y ws rm Pc Qc mc ms free := by
  refine MetFree.of_bodyS (code := cc) (maxLocals := maxL) (ret := ret) hy ?_ ?_
  · intro args s m h hn
    obtain ⟨m9, meth, c, hn9, h1, h2, h3, h4, -, h5, h6, -⟩ := Cond.codeWith_spec (atoms_spec (ws := ws) h _ (by rw [hw]; exact List.mem_cons_self))
    cases hn.symm.trans hn9
    exact ⟨meth, c, h1, h2, h3, h4, h5, h6⟩
  · intro p e s m args below meth c s₁ B hml hP _
    have hh0 : s₁.heap = s.heap := by rw [B.state]; rfl
    obtain ⟨t, a1, o, b1, b2, b3⟩ := body p e s m args below meth c s₁ B hml hP s₁ hh0 (Stand.of_body B)
    exact ⟨t, o, a1, b1, b2, ⟨b3.1, b3.2⟩⟩
def p_L_bk (h : Hp) (o0 : Nat) (x1 x2 : Int32) (o3 : Nat) : Option (Int32 × Hp) :=
  Option.bind (p_X9_bk h o0 x1 x2) fun a => if a.1 = 0 then some (0, hp a.2.2 o3 0 a.2.1) else if a.1 = 1 then some (1, a.2.2) else some (2, a.2.2)
def hhL : List (Nat × Nat × Nat × Nat) := [(0, 10, 13, 13), (0, 10, 17, 15)]
theorem w_cwL : Cond.codeWith yL_bucket cL_bucket 5 (some .int) hhL ∈ lw_tbl := wi 1199 (by decide +kernel)
theorem w_clI : Cond.classLink RL 13 xI ∈ lw_tbl := wi 1200 (by decide +kernel)
theorem w_clN : Cond.classLink RL 15 xN ∈ lw_tbl := wi 1201 (by decide +kernel)
theorem w_caI : Cond.castable xI xI ∈ lw_tbl := wi 1208 (by decide +kernel)
theorem w_caN : Cond.castable xN xN ∈ lw_tbl := wi 1274 (by decide +kernel)
section LB
variable {p : Program} {l : Launch} {e : Env} {R : Room} {s : State} {m : MethodId} {args : Array Value} {below : List Frame} {meth : Method} {c : Code} {cc : ByteArray} {nL : Nat} {G : GT} {lv : List (Option Value)} {st : List Value} {h : Hp} {cells slots : Nat}
theorem f_backX {ls : Array Slot} {H : Heap} {locs : List Loc} {pc : Nat} {st0 : List Value} {a : Nat × Int32 × Hp} {A : Array Value} {Q : State → Prop} (hI : IV G s h H locs) (hr : vx_Run p l e R s m args below meth c H locs cells slots 1 6 (F0 m pc ls st0) st (QBc G a H.size A) (XB G a H.size) (AG G H.size))
    (k0 : a.1 = 0 → ∀ H1 locs1, IV G s a.2.2 H1 locs1 → W p l e R s m args below meth c H1 locs1 (cells + 1) (slots + 6) Q (F0 m (pc + 3) ls (.int a.2.1 :: st)))
    (kx : ∀ (E : String) (ce : Cell) (q9 : Addr) H1 locs1, ((a.1 = 1 ∧ E = xI) ∨ (a.1 = 2 ∧ E = xN)) → IV G s a.2.2 H1 locs1 → H1[q9]? = some ce → ce.vm = .none → s.vm.findClass E = some ce.cls → vx_W p l e R s m args below meth c H1 locs1 (cells + 1) (slots + 6) Q (F0 m pc ls st) q9) : W p l e R s m args below meth c H locs cells slots Q (F0 m pc ls st0) := by
  intro T hT X
  rcases hr T hT X with ⟨v, st₀, t, T', L, h0, X', hL, e1, e2, ⟨h9, hv, hP, hD, hF⟩, stp⟩ | ⟨q, st₀, t, T', L, E, ce, h0, X', hL, e1, e2, ⟨hE, hP, hD, hF⟩, hce, hcv, hcl, stp⟩
  · cases hv
    obtain ⟨k1, k2, k3⟩ := vx_keep h0 e1 hI.2.2 (fun q _ z => AG.le hI.2.2.1 z) (fun q z => AG.le hI.2.2.1 z) hL hF
    obtain ⟨t2, a1, b1⟩ := k0 h9 T'.heap (locs ++ L) ⟨by rw [e1]; exact hP, wd_D _ hD, k3⟩ T' rfl X'
    exact ⟨t2, stp t2 a1, b1⟩
  · obtain ⟨k1, k2, k3⟩ := vx_keep h0 e1 hI.2.2 (fun q _ z => AG.le hI.2.2.1 z) (fun q z => AG.le hI.2.2.1 z) hL hF
    obtain ⟨t2, a1, b1⟩ := kx E ce q T'.heap (locs ++ L) hE ⟨by rw [e1]; exact hP, wd_D _ hD, k3⟩ (by rw [e1]; exact hce) hcv hcl T' rfl X'
    exact ⟨t2, stp.trans a1, b1⟩
end LB
theorem dL_bucket_0 : decode cL_bucket 0 = .ok (.aload_n 3, 1) := by decide +kernel
theorem dL_bucket_1 : decode cL_bucket 1 = .ok (.iconst 0, 1) := by decide +kernel
theorem dL_bucket_2 : decode cL_bucket 2 = .ok (.aload_n 0, 1) := by decide +kernel
theorem dL_bucket_3 : decode cL_bucket 3 = .ok (.iload_n 1, 1) := by decide +kernel
theorem dL_bucket_4 : decode cL_bucket 4 = .ok (.iload_n 2, 1) := by decide +kernel
theorem dL_bucket_5 : decode cL_bucket 5 = .ok (.invokevirtual 7, 3) := by decide +kernel
theorem dL_bucket_8 : decode cL_bucket 8 = .ok (.i2l, 1) := by decide +kernel
theorem dL_bucket_9 : decode cL_bucket 9 = .ok (.lastore, 1) := by decide +kernel
theorem dL_bucket_10 : decode cL_bucket 10 = .ok (.goto 11, 3) := by decide +kernel
theorem dL_bucket_13 : decode cL_bucket 13 = .ok (.astore 4, 2) := by decide +kernel
theorem dL_bucket_15 : decode cL_bucket 15 = .ok (.iconst 1, 1) := by decide +kernel
theorem dL_bucket_16 : decode cL_bucket 16 = .ok (.ireturn, 1) := by decide +kernel
theorem dL_bucket_17 : decode cL_bucket 17 = .ok (.astore 4, 2) := by decide +kernel
theorem dL_bucket_19 : decode cL_bucket 19 = .ok (.iconst 2, 1) := by decide +kernel
theorem dL_bucket_20 : decode cL_bucket 20 = .ok (.ireturn, 1) := by decide +kernel
theorem dL_bucket_21 : decode cL_bucket 21 = .ok (.iconst 0, 1) := by decide +kernel
theorem dL_bucket_22 : decode cL_bucket 22 = .ok (.ireturn, 1) := by decide +kernel
set_option maxRecDepth 4000 in
theorem c_L_bk (l : Launch) (hst : l.stackTraces = false) (G : GT) (h : Hp) (o0 : Nat) (x1 x2 : Int32) (o3 : Nat) (hk_o0 : kd o0 = 8) (hk_o3 : kd o3 = 22) (a : Int32 × Hp) (ha : p_L_bk h o0 x1 x2 o3 = some a) (sz : Nat) : Met l yL_bucket [.codeWith yL_bucket cL_bucket 5 (some .int) hhL] rmL (va_Pc [.ref (gad G o0), .int x1, .int x2, .ref (gad G o3)] (Pre2 G h sz)) (CtQ G (some (.int a.1)) a.2 sz) 1 6 (AG G sz) := by
  refine Met_ofWH (cc := cL_bucket) (maxL := 5) (ret := some .int) (hh := hhL) (by decide) rfl ?_
  intro p e s m args below meth c s₁ B hml hv
  obtain ⟨rfl, ⟨hsz, hg, hk, hS, hP, hD⟩, hgx, hexx⟩ := hv
  subst hsz
  have hl0 := lv_entry [.ref (gad G o0), .int x1, .int x2, .ref (gad G o3)] (n := 5) (Nat.le_of_ble_eq_true rfl)
  rw [lg_entry_eq]
  have hl := lv_init (av := [.ref (gad G o0), .int x1, .int x2, .ref (gad G o3)]) (lv := [some (.ref (gad G o0)), some (.int x1), some (.int x2), some (.ref (gad G o3)), none]) rfl rfl hl0
  generalize (lg_sl [.ref (gad G o0), .int x1, .int x2, .ref (gad G o3)] ++ List.replicate (5 - (lg_sl [.ref (gad G o0), .int x1, .int x2, .ref (gad G o3)]).length) Slot.unset).toArray = ls at hl ⊢
  have cx : CX2 p s m #[.ref (gad G o0), .int x1, .int x2, .ref (gad G o3)] c cL_bucket 5 RL G := ⟨⟨B.exec, B.bytes, hml, findClass_of_methodNamed B.named, hg, hk, hS⟩, hgx, hexx⟩
  have hI : IV G s h s.heap [] := ⟨hP, wd_D _ hD, va_S.rf⟩
  have hr := B.returns
  have hlk := B.notSynchronized
  have htab : c.exceptionTable.toList = tableOf hhL := vx_table (x := yL_bucket) B (hg.use w_cwL rfl _)
  unfold p_L_bk at ha
  cases hb : p_X9_bk h o0 x1 x2 with
  | none => rw [hb] at ha; cases ha
  | some r =>
    rw [hb] at ha
    simp only [Option.bind_some] at ha
    refine lv_aload_n cx.1.1 cx.1.2.1 dL_bucket_0 rfl (hl.2.2 3 _ rfl) ?_
    refine lv_iconst (v := 0) cx.1.1 cx.1.2.1 dL_bucket_1 (by decide) ?_
    refine lv_aload_n cx.1.1 cx.1.2.1 dL_bucket_2 rfl (hl.2.2 0 _ rfl) ?_
    refine lv_iload_n cx.1.1 cx.1.2.1 dL_bucket_3 rfl (hl.2.2 1 _ rfl) ?_
    refine lv_iload_n cx.1.1 cx.1.2.1 dL_bucket_4 rfl (hl.2.2 2 _ rfl) ?_
    obtain ⟨q, hq⟩ := ob_at hk_o0 (by omega)
    have he : (wd G h)[q]? = some (gad G o0, .inr (8, flds G h o0 8)) := by rw [wd_at hq, ce_o hk_o0 (by omega)]
    refine f_backX (a := r) (A := (Value.ref (gad G o0) :: [.int x1, .int x2]).toArray) (st := [.int 0, .ref (gad G o3)]) hI (vx_runV (Ts := []) (C := RX9) (As := [.int x1, .int x2]) (bytes := cX9_bucket) (maxL := 3) (ret := some .int) ⟨cx.1.1, cx.1.2.1, cx.1.2.2.1, cx.1.2.2.2.1, fun w hw => by cases hw⟩ (c_X9_bk l hst G h o0 x1 x2 hk_o0 r hb s.heap.size) ⟨⟨rfl, rfl, by decide, by decide, fun w hw a1 U hU => ?_, List.mem_cons_self, hg.use w_bkC rfl _, hg.use w_bkI rfl _, by decide +kernel, fun sig hs => ?_, hg.use w_bkL rfl _⟩, hg.use w_bkM rfl _, hg.use w_bkS rfl _⟩ ⟨Pre2.blind, va_recv cx.1.2.2.2.2.2.1 hI.1 rfl he, fun U hU hW => ⟨rfl, Pre2.of cx hI hU hW⟩⟩ rfl rfl hl.1 rfl (lv_room (Nat.le_of_ble_eq_true rfl)) dL_bucket_5 ⟨by decide, by decide⟩) ?_ ?_
    · rw [List.mem_singleton.mp hw]
      exact okw_at rfl hU (hg.use w_bkC rfl #[])
    · have hn : (parseMethodDescriptor yX9_bucket.desc).map (fun d => d.parameters.length) = some 2 := by decide +kernel
      rw [hs] at hn
      exact (Option.some.inj hn).symm
    · intro r0 H1 locs1 hI1
      rw [if_pos r0] at ha
      cases ha
      refine lv_i2l cx.1.1 cx.1.2.1 dL_bucket_8 rfl ?_
      obtain ⟨q3, hq3⟩ := ob_at hk_o3 (by omega)
      have he3 := wd_at (G := G) (h := r.2.2) hq3
      rw [ce_l hk_o3] at he3
      refine va_last cx.1.1 cx.1.2.1 cx.1.2.2.2.2.2.1 hI1.1 hI1.2.1 hI1.2.2 q3 4 he3 rfl (show ¬ ((0 : Int32) < 0 ∨ 1 ≤ Int32.toNatClampNeg 0) by decide) dL_bucket_9 (fun H2 locs2 hP2 hD2 hS2 => ?_)
      have e1 : (wd G r.2.2).set q3 (gad G o3, .inl (gca G 4, 1, .inr (.inl (vp_updL (fun i => (r.2.2 o3 i).toInt64) (0 : Int32).toNatClampNeg r.2.1.toInt64)))) = wd G (hp r.2.2 o3 0 r.2.1) := by
        refine wd_set hq3 ?_ (fun o' ho' => hp_n ho')
        rw [ce_l hk_o3, hp_o]
        have : (fun i => (upd (r.2.2 o3) 0 r.2.1 i).toInt64) = vp_updL (fun i => (r.2.2 o3 i).toInt64) (0 : Int32).toNatClampNeg r.2.1.toInt64 := by
          funext i
          simp only [upd, vp_updL, cl00]
          by_cases hi : i = 0 <;> simp [hi]
        rw [this]
      rw [e1] at hP2 hD2
      refine lv_goto (tgt := 21) cx.1.1 cx.1.2.1 dL_bucket_10 (by decide) ?_
      refine lv_iconst (v := 0) cx.1.1 cx.1.2.1 dL_bucket_21 (by decide) ?_
      exact W.iret cx.1.1 cx.1.2.1 hr (fun t ht hW => ⟨rfl, by rw [ht]; exact hP2, hD2.weaken (fun _ _ _ _ => trivial), hS2.F ht⟩) hS2.2.2 dL_bucket_22 hlk
    · intro E ce q9 H1 locs1 hE hI1 hce hcv hcl
      rcases hE with ⟨r1, rfl⟩ | ⟨r2, rfl⟩
      · rw [if_neg (by omega), if_pos r1] at ha
        cases ha
        refine vx_catch (own := RL) (name := xI) cx.1.2.2.2.1 [] ⟨0, 10, 13, 13⟩ [⟨0, 10, 17, 15⟩] (by rw [htab]; rfl) (fun z hz => by cases hz) (by decide) (by decide) (hg.use w_clI rfl _) (hgx.use w_caI rfl _) hce hcv hcl ?_
        refine lv_astore cx.1.1 cx.1.2.1 dL_bucket_13 hl.has (by decide) rfl (fun ls1 hl1 => ?_)
        refine lv_iconst (v := 1) cx.1.1 cx.1.2.1 dL_bucket_15 (by decide) ?_
        exact W.iret cx.1.1 cx.1.2.1 hr (fun t ht hW => ⟨rfl, by rw [ht]; exact hI1.1, hI1.2.1.weaken (fun _ _ _ _ => trivial), hI1.2.2.F ht⟩) hI1.2.2.2.2 dL_bucket_16 hlk
      · rw [if_neg (by omega), if_neg (by omega)] at ha
        cases ha
        refine vx_catch (own := RL) (name := xN) cx.1.2.2.2.1 [⟨0, 10, 13, 13⟩] ⟨0, 10, 17, 15⟩ [] (by rw [htab]; rfl) (fun z hz => ?_) (by decide) (by decide) (hg.use w_clN rfl _) (hgx.use w_caN rfl _) hce hcv hcl ?_
        · rw [List.mem_singleton.mp hz]
          exact Or.inr ⟨by decide, xI, hg.use w_clI rfl _, hexx.2.2⟩
        refine lv_astore cx.1.1 cx.1.2.1 dL_bucket_17 hl.has (by decide) rfl (fun ls1 hl1 => ?_)
        refine lv_iconst (v := 2) cx.1.1 cx.1.2.1 dL_bucket_19 (by decide) ?_
        exact W.iret cx.1.1 cx.1.2.1 hr (fun t ht hW => ⟨rfl, by rw [ht]; exact hI1.1, hI1.2.1.weaken (fun _ _ _ _ => trivial), hI1.2.2.F ht⟩) hI1.2.2.2.2 dL_bucket_20 hlk
