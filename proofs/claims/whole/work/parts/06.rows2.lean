theorem w_102 : Cond.initialized RJ10 ∈ lw_tbl := wi 102 (by decide +kernel)
theorem w_417 : Cond.methodLink RX8 77 arraycopyName ∈ lw_tbl := wi 417 (by decide +kernel)
theorem w_418 : Cond.static arraycopyName ∈ lw_tbl := wi 418 (by decide +kernel)
theorem w_419 : Cond.native arraycopyName ∈ lw_tbl := wi 419 (by decide +kernel)
theorem w_910 : Cond.methodLink RX1 58 arraycopyName ∈ lw_tbl := wi 910 (by decide +kernel)
theorem w_919 : Cond.methodLink RX2 22 arraycopyName ∈ lw_tbl := wi 919 (by decide +kernel)
section Rows2
variable {p : Program} {l : Launch} {e : Env} {R : Room} {s : State} {m : MethodId} {args : Array Value} {below : List Frame} {meth : Method} {c : Code} {cc : ByteArray} {nL : Nat} {own : String} {G : GT} {cells slots : Nat} {α : Type} {Qf : α → State → Prop} {pc : Nat} {lv : List (Option Value)} {st : List Value} {h : Hp} {o : Option α}
/-- a name for a value -/
def nv {β α : Type} (x : β) (K : β → Option α) : Option α := K x
theorem f_nvh {K : Hp → Option α} (k : ∀ z, PF p l e R s m args below meth c nL G cells slots Qf pc lv st z (K z)) : PF p l e R s m args below meth c nL G cells slots Qf pc lv st h (nv h K) := k h
theorem f_nvi {x : Int32} {K : Int32 → Option α} (k : ∀ z, PF p l e R s m args below meth c nL G cells slots Qf pc lv (.int z :: st) h (K z)) : PF p l e R s m args below meth c nL G cells slots Qf pc lv (.int x :: st) h (nv x K) := k x
theorem f_nvl {x : Int64} {K : Int64 → Option α} (k : ∀ z, PF p l e R s m args below meth c nL G cells slots Qf pc lv (.long z :: st) h (K z)) : PF p l e R s m args below meth c nL G cells slots Qf pc lv (.long x :: st) h (nv x K) := k x
theorem f_ialdk (cx : CX p s m args c cc nL own G) {ob n j : Nat} {i : Int32} (hk : kd ob = 10000 + n) (hn : n < 10000) (hi : ib i n) (hj : i.toNatClampNeg = j) (hd : decode cc pc = .ok (.iaload, 1)) (k : PF p l e R s m args below meth c nL G cells slots Qf (pc + 1) lv (.int (h ob j) :: st) h o) : PF p l e R s m args below meth c nL G cells slots Qf pc lv (.int i :: .ref (gad G ob) :: st) h o := by
  subst hj
  exact f_iald cx hk hn hi hd k
theorem f_zaldk (cx : CX p s m args c cc nL own G) {ob n j : Nat} {i : Int32} (hk : kd ob = 20000 + n) (hn : n < 10000) (hi : ib i n) (hj : i.toNatClampNeg = j) (hd : decode cc pc = .ok (.baload, 1)) (k : PF p l e R s m args below meth c nL G cells slots Qf (pc + 1) lv (.int (h ob j) :: st) h o) : PF p l e R s m args below meth c nL G cells slots Qf pc lv (.int i :: .ref (gad G ob) :: st) h o := by
  subst hj
  exact f_zald cx hk hn hi hd k
theorem f_iastk (cx : CX p s m args c cc nL own G) {ob n j : Nat} {i x : Int32} (hk : kd ob = 10000 + n) (hn : n < 10000) (hi : ib i n) (hj : i.toNatClampNeg = j) (hd : decode cc pc = .ok (.iastore, 1)) (k : PF p l e R s m args below meth c nL G cells slots Qf (pc + 1) lv st (hp h ob j x) o) : PF p l e R s m args below meth c nL G cells slots Qf pc lv (.int x :: .int i :: .ref (gad G ob) :: st) h o := by
  subst hj
  exact f_iast cx hk hn hi hd k
theorem f_zastk (cx : CX p s m args c cc nL own G) {ob n j : Nat} {i x : Int32} (hk : kd ob = 20000 + n) (hn : n < 10000) (hi : ib i n) (hj : i.toNatClampNeg = j) (hx : vp_nar .boolean x = x) (hd : decode cc pc = .ok (.bastore, 1)) (k : PF p l e R s m args below meth c nL G cells slots Qf (pc + 1) lv st (hp h ob j x) o) : PF p l e R s m args below meth c nL G cells slots Qf pc lv (.int x :: .int i :: .ref (gad G ob) :: st) h o := by
  subst hj
  exact f_zast cx hk hn hi hx hd k
abbrev cpk (n : Int32) (n0 n1 : Nat) : Prop := ¬ n < 0 ∧ n.toNatClampNeg ≤ n0 ∧ n.toNatClampNeg ≤ n1
theorem va_up_n {β : Type} {f : Nat → β} {k j : Nat} {v : β} (n : j ≠ k) : va_up f k v j = f j := by simp [va_up, n]
theorem va_up_s {β : Type} {f : Nat → β} {k : Nat} {v : β} : va_up f k v k = v := by simp [va_up]
theorem cl00 : (0 : Int32).toNatClampNeg = 0 := by decide
theorem f_ac (cx : CX p s m args c cc nL own G) {o0 o1 n0 n1 i : Nat} {n : Int32} (hk0 : kd o0 = 10000 + n0) (hk1 : kd o1 = 10000 + n1) (hn0 : n0 < 10000) (hn1 : n1 < 10000) (hn : cpk n n0 n1) (w1 : Cond.methodLink own i arraycopyName ∈ lw_tbl) (w2 : Cond.native arraycopyName ∈ lw_tbl) (w3 : Cond.static arraycopyName ∈ lw_tbl) (w4 : Cond.initialized "java/lang/System" ∈ lw_tbl) (hR : 1 ≤ R.frames ∧ 27 ≤ R.locals) (hW : (st.map fun v => v.category).sum ≤ 8) (hd : decode cc pc = .ok (.invokestatic i, 3)) (k : PF p l e R s m args below meth c nL G cells slots Qf (pc + 3) lv st (va_up h o1 (va_cpy (h o0) (h o1) 0 0 n.toNatClampNeg)) o) : PF p l e R s m args below meth c nL G cells slots Qf pc lv (.int n :: .int 0 :: .ref (gad G o1) :: .int 0 :: .ref (gad G o0) :: st) h o := by
  intro a ha H locs ls hl hI
  have g := cx.2.2.2.2.1
  obtain ⟨q0, hq0⟩ := ob_at hk0 (by omega)
  obtain ⟨q1, hq1⟩ := ob_at hk1 (by omega)
  have he0 : (wd G h)[q0]? = some (gad G o0, .inl (gca G 0, n0, .inl (h o0))) := by rw [wd_at hq0, ce_i hk0 hn0]
  have he1 : (wd G h)[q1]? = some (gad G o1, .inl (gca G 0, n1, .inl (h o1))) := by rw [wd_at hq1, ce_i hk1 hn1]
  refine va_copyi (ty := .int) cx.1 cx.2.1 (by rw [cx.2.2.1, hl.1]) cx.2.2.2.1 (g.use w1 rfl _) (g.use w2 rfl _) (g.use w3 rfl _) (g.use w4 rfl _) cx.2.2.2.2.2.1 hI.1 hI.2.1 hI.2.2 q0 q1 0 0 he0 he1 rfl rfl rfl (by decide) (by decide) hn.1 (by rw [cl00]; omega) (by rw [cl00]; omega) (fun _ _ => rfl) hR.1 (by show _ + (7 + 11) ≤ _; omega) hd (fun H1 locs1 hP hD hS => ?_)
  rw [cl00] at hP hD
  have e1 : (wd G h).set q1 (gad G o1, .inl (gca G 0, n1, .inl (va_cpy (h o0) (h o1) 0 0 n.toNatClampNeg))) = wd G (va_up h o1 (va_cpy (h o0) (h o1) 0 0 n.toNatClampNeg)) := wd_set hq1 (by rw [ce_i hk1 hn1, va_up_s]) (fun z hz => va_up_n hz)
  rw [e1] at hP hD
  exact k a ha H1 locs1 ls hl ⟨hP, hD, hS⟩
theorem i_nn {z : Int32} (hz : ¬ z < 0) : z.toInt = (z.toNatClampNeg : Int) := by
  obtain ⟨j, hj, rfl⟩ := nI_of hz
  rw [nI_toInt hj, nI_clamp hj]
theorem f_acT (cx : CX p s m args c cc nL own G) {j o1 n1 i : Nat} {n : Int32} (hj : j < 6) (hk1 : kd o1 = 10000 + n1) (hn1 : n1 < 10000) (hn : cpk n (tbl j).length n1) (w1 : Cond.methodLink own i arraycopyName ∈ lw_tbl) (w2 : Cond.native arraycopyName ∈ lw_tbl) (w3 : Cond.static arraycopyName ∈ lw_tbl) (w4 : Cond.initialized "java/lang/System" ∈ lw_tbl) (hR : 1 ≤ R.frames ∧ 27 ≤ R.locals) (hW : (st.map fun v => v.category).sum ≤ 8) (hd : decode cc pc = .ok (.invokestatic i, 3)) (k : PF p l e R s m args below meth c nL G cells slots Qf (pc + 3) lv st (va_up h o1 (va_cpy (tbv j) (h o1) 0 0 n.toNatClampNeg)) o) : PF p l e R s m args below meth c nL G cells slots Qf pc lv (.int n :: .int 0 :: .ref (gad G o1) :: .int 0 :: .ref (gsa G j) :: st) h o := by
  intro a ha H locs ls hl hI T hT X
  have g := cx.2.2.2.2.1
  obtain ⟨q1, hq1⟩ := ob_at hk1 (by omega)
  have he1 : (wd G h)[q1]? = some (gad G o1, .inl (gca G 0, n1, .inl (h o1))) := by rw [wd_at hq1, ce_i hk1 hn1]
  obtain ⟨scr, hs1, hs2, hs3, hs4, -, hs5, hs7⟩ := (cx.2.2.2.2.2.2.1 j hj).2
  have hc0 : H[gsa G j]? = some scr := by rw [hI.2.2.2.1 _ (Array.getElem?_eq_some_iff.mp hs1).1 hs7]; exact hs1
  have hc1 : H[gad G o1]? = some (vp_cell (gca G 0) (n1, .inl (h o1))) := hI.1 q1 _ he1
  obtain ⟨hs6, k0, hk0, cm0, hkk0⟩ := hs2
  obtain ⟨-, k1, hkk, cm1, hkk1⟩ := (cx.2.2.2.2.2.1.2 0 _ rfl).1 n1 (fun j => .int (h o1 j))
  obtain ⟨vm1, X1, step⟩ := X.arraycopy cx.1 cx.2.2.2.1 (g.use w1 rfl _) (g.use w2 rfl _) (g.use w3 rfl _) (g.use w4 rfl _) (src := gsa G j) (dst := gad G o1) (cs := scr) (cd := vp_cell (gca G 0) (n1, .inl (h o1))) (srcPos := 0) (destPos := 0) (n := n) (by rw [hT]; exact hc0) (by rw [hT]; exact hc1)
    hs6 (fun _ h => by cases h) hs3 (fun h => by cases h) hk0 hkk hkk0 hkk1 (by simp [refKind]) (by decide) (by decide) hn.1
    (by rw [i_nn (z := 0) (by decide), i_nn hn.1, cl00]; omega)
    (by rw [i_nn (z := 0) (by decide), i_nn hn.1, cl00]; show ¬ _ > ((arrV (gca G 0) n1 (fun j => .int (h o1 j))).slots.size : Int); rw [arrV_size]; omega)
    (fun _ _ z hz => by
      have e0 : scr.slots.getD ((0 : Int32).toNatClampNeg + z) .null = .int (tbv j ((0 : Int32).toNatClampNeg + z)) := by
        rw [Array.getD_eq_getD_getElem?, cl00, hs5 _ (by omega)]
        rfl
      refine ⟨?_, ?_⟩
      · rw [e0]
        rfl
      · rw [e0]
        exact trivial)
    (g := F0 m pc ls (.int n :: .int 0 :: .ref (gad G o1) :: .int 0 :: .ref (gsa G j) :: st)) rfl (by rw [cx.2.2.1, hl.1]) (rest := st) rfl (by rw [cx.2.1]; exact hd) hR.1 (by show 2 * 0 + _ + (7 + 11) ≤ _; omega)
  have e1 : copied scr (vp_cell (gca G 0) (n1, .inl (h o1))) 0 0 n = vp_cell (gca G 0) (n1, .inl (va_cpy (tbv j) (h o1) 0 0 n.toNatClampNeg)) := by
    have := va_copiedX (sp := (0 : Int32).toNatClampNeg) (dp := (0 : Int32).toNatClampNeg) (n := n.toNatClampNeg) (n1 := n1) (fun z => .int z) scr (gca G 0) (tbv j) (h o1) hs5 (by rw [cl00]; omega)
    rw [cl00] at this
    exact this
  rw [e1] at X1 step
  have hlt : gad G o1 < H.size := (Array.getElem?_eq_some_iff.mp hc1).1
  have e2 : (wd G h).set q1 (gad G o1, .inl (gca G 0, n1, .inl (va_cpy (tbv j) (h o1) 0 0 n.toNatClampNeg))) = wd G (va_up h o1 (va_cpy (tbv j) (h o1) 0 0 n.toNatClampNeg)) := wd_set hq1 (by rw [ce_i hk1 hn1, va_up_s]) (fun z hz => va_up_n hz)
  have oq : ∀ q : Nat, q ≠ gad G o1 → (H.setIfInBounds (gad G o1) (vp_cell (gca G 0) (n1, .inl (va_cpy (tbv j) (h o1) 0 0 n.toNatClampNeg))))[q]? = H[q]? := fun q hq => by simp [Array.getElem?_setIfInBounds, Ne.symm hq]
  have hA1 : AG G s.heap.size (gad G o1) := hI.2.1.2 q1 _ he1
  obtain ⟨t, a1, b1⟩ := k a ha (H.setIfInBounds (gad G o1) (vp_cell (gca G 0) (n1, .inl (va_cpy (tbv j) (h o1) 0 0 n.toNatClampNeg)))) _ ls hl ⟨by
      rw [← e2]
      exact hI.1.set hI.2.1 he1 (show (H.setIfInBounds (gad G o1) _)[gad G o1]? = some _ by simp [Array.getElem?_setIfInBounds, hlt]) oq, by
      rw [← e2]
      exact hI.2.1.set he1, by
      refine ⟨by simp; exact hI.2.2.1, fun q g1 g2 => ?_, fun q hq => ?_⟩
      · rw [oq q (fun e => g2 (by rw [e]; exact hA1))]
        exact hI.2.2.2.1 q g1 g2
      · rcases List.mem_append.mp hq with h | h
        · exact hI.2.2.2.2 q h
        · obtain ⟨z, -, hz⟩ := List.mem_map.mp h
          rw [← hz]
          exact hA1⟩ _ (by rw [← hT]; rfl) X1
  exact ⟨t, step t a1, b1⟩
end Rows2
