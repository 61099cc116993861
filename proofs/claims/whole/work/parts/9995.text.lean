/-! a text is read and done, on both sides -/
theorem tb_inj {a b : Nat} (ha : a < 2 ^ 31) (hb : b < 2 ^ 31) {j i : Nat} (h1 : tbv j i = nI a) (h2 : tbv j i = nI b) : a = b := nI_inj ha hb (h1.symm.trans h2)
theorem vset_rg {P : List (List Nat)} (hok : ∀ l ∈ P, okS l ∨ okN l) {i lo hi : Nat} (hi8 : i < 8) (hlo : tbv 1 i = nI lo) (hhi : tbv 2 i = nI hi) (lo31 : lo < 2 ^ 31) (hi31 : hi < 2 ^ 31) (d1 : lo ≤ dfl i) (d2 : dfl i ≤ hi) : lo ≤ vset i P ∧ vset i P ≤ hi := by
  have : ∀ (Q : List (List Nat)) (a : Nat), (∀ l ∈ Q, okS l ∨ okN l) → lo ≤ a → a ≤ hi → lo ≤ Q.foldl (fun a l => if l.head? = some i then l.getD 1 0 else a) a ∧ Q.foldl (fun a l => if l.head? = some i then l.getD 1 0 else a) a ≤ hi := by
    intro Q
    induction Q with
    | nil => exact fun a _ h1 h2 => ⟨h1, h2⟩
    | cons l Q ih =>
      intro a hq h1 h2
      rw [List.foldl_cons]
      refine ih _ (fun l' hl' => hq l' (List.mem_cons_of_mem _ hl')) ?_ ?_
      · by_cases u : l.head? = some i
        · rw [if_pos u]
          rcases hq l List.mem_cons_self with ⟨i', v, lo', hi', q1, q2, q3, q4, q5, q6, q7⟩ | ⟨a', b', w', x', m', _, _, _, _, _, _, _, _, q7⟩
          · rw [q7] at u ⊢
            have : i' = i := Option.some.inj u
            subst this
            rw [q2] at hlo
            have : lo' = lo := tb_inj (j := 1) (i := i') (by
              have := nI_leI (a := lo') (b := hi')
              omega) lo31 q2 (q2.trans hlo)
            show lo ≤ v
            omega
          · rw [q7] at u
            have : 8 = i := Option.some.inj u
            omega
        · rw [if_neg u]
          exact h1
      · by_cases u : l.head? = some i
        · rw [if_pos u]
          rcases hq l List.mem_cons_self with ⟨i', v, lo', hi', q1, q2, q3, q4, q5, q6, q7⟩ | ⟨a', b', w', x', m', _, _, _, _, _, _, _, _, q7⟩
          · rw [q7] at u ⊢
            have : i' = i := Option.some.inj u
            subst this
            have : hi' = hi := tb_inj (j := 2) (i := i') (by omega) hi31 q3 hhi
            show v ≤ hi
            omega
          · rw [q7] at u
            have : 8 = i := Option.some.inj u
            omega
        · rw [if_neg u]
          exact h2
  exact this P (dfl i) hok d1 d2
theorem nd_flat {P : List (List Nat)} (h : ∀ l ∈ P, l ≠ []) : P.length ≤ P.flatten.length := by
  induction P with
  | nil => exact Nat.le_refl _
  | cons l P ih =>
    have h1 := h l List.mem_cons_self
    have h2 := ih (fun l' hl' => h l' (List.mem_cons_of_mem _ hl'))
    rw [List.length_cons, List.flatten_cons, List.length_append]
    have : 0 < l.length := List.length_pos_iff.mpr h1
    omega
section Tx
variable {h X : Hp} {ch : Nat → Nat} {len : Nat}
/-- what is known of the two heaps after a text -/
def TO (h X h1 X' : Hp) : Prop := (∀ o, o ≠ 1 → o ≠ 3 → o ≠ 4 → (o < 10 ∨ 54 ≤ o) → h1 o = h o) ∧ (∀ o, o ≠ 110 → (o < 112 ∨ 116 < o) → X' o = X o) ∧ h1 (0 + 1) 1 = 0 ∧ X' 110 2 = 0 ∧ h1 (0 + 1) 10 = X' 110 18 ∧ h1 (0 + 1) 11 = X' 110 19 ∧ X' 110 22 = X 110 22 ∧ (((∀ o, 10 ≤ o → o < 54 → h1 o = h o) ∧ X' 116 = X 116) ∨ ∃ m y sn Bd n N nw ol L S t l, Bd ≤ 900000 ∧ Rel true true (fun _ => 0) m y sn Bd n N 200 nw ol L h1 (0 + 10) S ∧ LSt n nw ol S ∧ h1 (0 + 10 + 1) 0 = t ∧ h1 (0 + 10 + 1) 5 = l ∧ rg t 1 99 ∧ rg l 1 60 ∧ X' 116 = upd (upd S 4 t) 7 l)
def tC (h : Hp) (x : Int32) : Option (Int32 × Hp) := Option.bind (p_X3_read h (0 + 1) x) fun r1 => nv (hp r1 (0 + 1) 1 0) fun h2 => if (h2 (0 + 1) 10) = 0 then (Option.bind (p_X8_clear h2 (0 + 10)) fun r3 => Option.bind (p_X9_perform r3 0) fun r4 => some (r4 (0 + 1) 9, r4)) else (some ((-1), h2))
def tM (X : Hp) (x : Int32) : Option (Int32 × Hp) := Option.bind (p_X10_readText X 110 x) fun r2 => nv (hp r2 110 2 0) fun h3 => nv (hp h3 110 18 (h3 110 16)) fun h4 => if (h4 110 16) = 0 then (nv (hp h4 110 19 (-1)) fun h5 => if (h5 110 16) = 0 then (Option.bind (p_X10_begins h5 110) fun r6 => Option.bind (p_X10_doesAll r6 110) fun r7 => some (r7 110 10, r7)) else (some ((-1), h5))) else (nv (hp h4 110 19 (h4 110 17)) fun h8 => if (h8 110 16) = 0 then (Option.bind (p_X10_begins h8 110) fun r9 => Option.bind (p_X10_doesAll r9 110) fun r10 => some (r10 110 10, r10)) else (some ((-1), h8)))
theorem text_core (hT : ∀ j, j < len → h 2 j = nI (ch j) ∧ ch j ≤ 255) (hT2 : ∀ j, j < len → X 111 j = nI (ch j) ∧ ch j ≤ 255) (hl9 : len ≤ 900) (o22 : X 110 22 = -2) (l12 : (0 : Int32) ≤ h (0 + 10) 12) : ∃ r h1 X', tC h (nI len) = some (r, h1) ∧ tM X (nI len) = some (r, X') ∧ TO h X h1 X' := by
  rcases read_sim hT hT2 hl9 with ⟨ln, p, s, P1, P2, c, O, Q, d, T, I, Z, A, e1, e2, R, e4⟩ | ⟨c, O, Q, d, T, I, Z, A, e1, e2, e3, e5, e6, e7⟩
  · obtain ⟨a1, a2, a3, a4, a5, a6, a7, a8, a9, a10, a11, a12, a13, a14, a15, a16, a17, b1, b2, b3, b4, b5, bbits, b8, b9, b10, b11, b12, b13, b14, b15, b16, b17⟩ := R
    obtain ⟨C, hC⟩ : ∃ C, C = upd c 1 0 := ⟨_, rfl⟩
    have Cn : ∀ j, j ≠ 1 → C j = c j := fun j hj => by rw [hC, upd_n _ _ hj]
    obtain ⟨D, hD⟩ : ∃ D, D = upd (upd (upd d 2 0) 18 0) 19 (-1) := ⟨_, rfl⟩
    have Dn : ∀ j, j ≠ 2 → j ≠ 18 → j ≠ 19 → D j = d j := fun j h1 h2 h3 => by rw [hD, upd_n _ _ h3, upd_n _ _ h2, upd_n _ _ h1]
    -- the class clears
    obtain ⟨h3, k1, k2, k3, k4, k5⟩ := clear_c (cH h C O Q) (0 + 10)
    have h3n : ∀ o, o < 10 ∨ 54 ≤ o → h3 o = cH h C O Q o := fun o ho => k5 o (by omega)
    obtain ⟨sk, hsk⟩ : ∃ sk, sk = (hdl 8 P1).length := ⟨_, rfl⟩
    have fl : (P1 ++ P2).flatten = P1.flatten ++ P2.flatten := List.flatten_append
    have tl : ln < 2 ^ 30 := by
      have := a16.1
      omega
    obtain ⟨M1, hM1⟩ : ∃ M1, FU = M1 + P1.length ∧ 2000 < M1 := ⟨FU - P1.length, by
      have := FU_gt (k := 3000) (by omega)
      have := a16.2
      rw [List.length_append] at this
      omega, by
      have := FU_gt (k := 3000) (by omega)
      have := a16.2
      rw [List.length_append] at this
      omega⟩
    obtain ⟨g4, p1, p2, p3, p4⟩ := pf1 (tot := ln) (Lx := (P1 ++ P2).flatten) (by omega) b2 P1 [] P2.flatten h3 M1 (by rw [fl]; rfl) b16 (by rw [List.nil_append]; exact b9) (by rw [List.nil_append, a16.2, List.length_append]; omega) tl (by rw [h3n _ (by omega), cH_1, Cn _ (by omega), a14]) (by rw [h3n _ (by omega), cH_1, Cn _ (by omega), b1]) (by rw [h3n _ (by omega), cH_3]) (FW0 k2 k3)
    rw [List.nil_append] at p1 p2
    -- the reference begins
    have x6 : mH X D T I Z A 110 6 = nI sk := by rw [mH_0, Dn _ (by omega) (by omega) (by omega), b11, hsk]
    obtain ⟨S5, m1, m2, m3, m4, m5, m6⟩ := begins_m (mH X D T I Z A) (sk := sk) (by rw [hsk]; exact b9) x6
    have t112 : ∀ j, mH X D T I Z A 112 j = T j := fun j => by rw [show (112 : Nat) = 110 + 2 from rfl, mH_2]
    have t114 : ∀ j, mH X D T I Z A 114 j = Z j := fun j => by rw [show (114 : Nat) = 110 + 4 from rfl, mH_4]
    obtain ⟨f1, f2, f3⟩ := p2
    rw [← hsk] at f1
    have v0 := vset_rg b16 (i := 0) (lo := 1) (hi := 99) (by omega) rfl rfl (by omega) (by omega) (by decide) (by decide)
    have v1 := vset_rg b16 (i := 1) (lo := 10) (hi := 999) (by omega) rfl rfl (by omega) (by omega) (by decide) (by decide)
    have v2 := vset_rg b16 (i := 2) (lo := 50) (hi := 3000) (by omega) rfl rfl (by omega) (by omega) (by decide) (by decide)
    have v3 := vset_rg b16 (i := 3) (lo := 1) (hi := 4) (by omega) rfl rfl (by omega) (by omega) (by decide) (by decide)
    have v4 := vset_rg b16 (i := 4) (lo := 1) (hi := 4) (by omega) rfl rfl (by omega) (by omega) (by decide) (by decide)
    have v5 := vset_rg b16 (i := 5) (lo := 1) (hi := 60) (by omega) rfl rfl (by omega) (by omega) (by decide) (by decide)
    have v7 := vset_rg b16 (i := 7) (lo := 0) (hi := 1500) (by omega) rfl rfl (by omega) (by omega) (by decide) (by decide)
    have s4 : S5 4 = nI (vset 0 P1) := (m3 0 (by omega)).trans ((t112 0).trans (b8 0 (by omega)))
    have s5 : S5 5 = nI (vset 1 P1) := (m3 1 (by omega)).trans ((t112 1).trans (b8 1 (by omega)))
    have s6 : S5 6 = nI (vset 2 P1) := (m3 2 (by omega)).trans ((t112 2).trans (b8 2 (by omega)))
    have s7 : S5 7 = nI (vset 5 P1) := (m3 3 (by omega)).trans ((t112 3).trans (b8 5 (by omega)))
    have s8 : S5 8 = nI (vset 6 P1) := (m3 4 (by omega)).trans ((t112 4).trans (b8 6 (by omega)))
    have s9 : S5 9 = nI (vset 7 P1) := (m3 5 (by omega)).trans ((t112 5).trans (b8 7 (by omega)))
    have s10 : S5 10 = nI (vset 3 P1) := m4.trans ((t112 6).trans (b8 3 (by omega)))
    have s11 : S5 11 = nI (vset 4 P1) := m5.trans ((t112 7).trans (b8 4 (by omega)))
    have okl : ∀ k, k < sk → ∃ l, (hdl 8 P1)[k]? = some l ∧ okN l := fun k hk => by
      have hk2 : k < (hdl 8 P1).length := by omega
      refine ⟨_, List.getElem?_eq_getElem hk2, ?_⟩
      have hm : (hdl 8 P1)[k] ∈ hdl 8 P1 := List.getElem_mem hk2
      have hm2 := List.mem_filter.mp hm
      have hh := of_decide_eq_true hm2.2
      rcases b16 _ hm2.1 with ⟨i, v, lo, hi, q1, _, _, _, _, _, q2⟩ | q
      · rw [q2] at hh
        have : i = 8 := Option.some.inj hh
        omega
      · exact q
    have g12 : (0 : Int32) ≤ g4 (0 + 10) 12 := by
      rw [p4, k4, cH_n _ _ _ _ (by omega) (by omega) (by omega)]
      exact l12
    have R0 : Rel true true (fun _ => 0) (vset 3 P1) (vset 4 P1) sk 0 0 0 200 [] [] [] g4 (0 + 10) S5 := by
      refine Rel0 f1 m2 (by rw [hsk]; exact b9) s10 s11 v3.1 v3.2 v4.1 v4.2 ⟨_, v1.1, v1.2, s5⟩ ⟨_, v2.1, v2.2, s6⟩ ⟨_, v7.1, v7.2, s9⟩ ?_ ?_ ?_ ?_ ?_ ?_ ?_ g12 (fun k hk => ?_) (fun k hk => ?_) trivial
      · rw [f2 1 (by omega), s5]
      · rw [f2 2 (by omega), s6]
      · rw [f2 6 (by omega), s8]
      · rw [f2 7 (by omega), s9]
      · rw [f2 3 (by omega), s10]
      · rw [f2 4 (by omega), s11]
      · rw [f2 0 (by omega)]
        exact nI_pos' (by omega)
      · obtain ⟨l, l1, l2⟩ := okl k hk
        obtain ⟨q0, q1, q2, q3, q4, q5, q6, q7, q8, q9⟩ := f3 k l l1
        obtain ⟨z0, z1, z2, z3, z4, z5⟩ := b12 k l l1
        obtain ⟨n1, n2, n3, n4, n5⟩ := m6 k hk
        refine ⟨fun cc hc => ?_, q5, n3, q6, n4, q7, n2, q8, n5, q9⟩
        rw [n1 cc hc, t114]
        rcases (show cc = 0 ∨ cc = 1 ∨ cc = 2 ∨ cc = 3 ∨ cc = 4 by omega) with rfl | rfl | rfl | rfl | rfl
        · rw [q0]
          exact z1.symm
        · rw [q1, z2]
        · rw [q2, z3]
        · rw [q3, z4]
        · rw [q4, z5]
      · obtain ⟨l, l1, l2⟩ := okl k hk
        obtain ⟨z0, z1, z2, z3, z4, z5⟩ := b12 k l l1
        obtain ⟨n1, n2, n3, n4, n5⟩ := m6 k hk
        obtain ⟨a, b, w, x, mm, r1, r2, r3, r4, r5, r6, r7, r8, el⟩ := l2
        subst el
        rw [n1 0 (by omega), n1 1 (by omega), n1 2 (by omega), n1 3 (by omega), n1 4 (by omega), t114, t114, t114, t114, t114, z2, z3, z4, z5, show Z (5 * k + 0) = nI (([8, a, b, w, x, mm] : List Nat).getD 1 0) from z1]
        exact ⟨⟨a, by omega, r1, rfl⟩, ⟨b, r2, r3, rfl⟩, ⟨100 * w, by omega, by omega, rfl⟩, ⟨x, r6, r7, rfl⟩, ⟨mm, by omega, r8, rfl⟩⟩
    have p2l : P2.length ≤ 900 := by
      have := a16.1
      have := a16.2
      rw [List.length_append] at this
      omega
    have laf : P2.flatten.length ≤ 900 := by
      rw [fl, List.length_append] at a17
      omega
    obtain ⟨g5, S6, Bd', n', N', nw', ol', L', j0, j1, j2, j3, j4, j5⟩ := pf2 (m := vset 3 P1) (y := vset 4 P1) (sn := sk) (tot := ln) (O := O) (A := A) (Lx := (P1 ++ P2).flatten) (La := P2.flatten) (by omega) laf b2 b4 tl P2 P1.flatten [] P1.length (g := g4) (S := S5) fl rfl (by rw [a16.2, List.length_append]) (by rw [p3 _ (by omega), h3n _ (by omega), cH_1, Cn _ (by omega), a14]) (by rw [p3 _ (by omega), h3n _ (by omega), cH_1, Cn _ (by omega), b1]) (by rw [p3 _ (by omega), h3n _ (by omega), cH_3]) R0 (LSt0 S5) (by omega) b17
    have gt : g4 (0 + 10 + 1) 0 = S5 4 := by rw [f2 0 (by omega), s4]
    have gl : g4 (0 + 10 + 1) 5 = S5 7 := by rw [f2 5 (by omega), s7]
    have j2' := j2 (mH X D T I Z A) FU (by rw [show (115 : Nat) = 110 + 5 from rfl, mH_5]) (by rw [mH_0, Dn _ (by omega) (by omega) (by omega), b3]) (by rw [mH_0, Dn _ (by omega) (by omega) (by omega), e4, o22]) (FU_gt (by omega))
    rw [List.length_nil, nI_0, gt, gl, ← vu_mt] at j2'
    have g5n : ∀ o, o < 10 ∨ 54 ≤ o → g5 o = cH h C O Q o := fun o ho => by rw [j5.1 o (by omega), p3 o ho, h3n o ho]
    refine ⟨nI ln, g5, mt (mH X D T I Z A) S6 (S5 4) (S5 7), ?_, ?_, fun o h1 h2 h3 h4 => ?_, fun o h1 h2 => ?_, ?_, ?_, ?_, ?_, ?_, Or.inr ⟨_, _, _, Bd', n', N', nw', ol', L', S6, S5 4, S5 7, by omega, j3, j4, ?_, ?_, ⟨_, v0.1, v0.2, s4⟩, ⟨_, v5.1, v5.2, s7⟩, mt_s _ _ _ _⟩⟩
    · unfold tC
      rw [e1, Option.bind_some, nv_eq, cH_w1, ← hC, if_pos (by rw [cH_1, Cn _ (by omega), a11]), k1, Option.bind_some]
      unfold p_X9_perform
      rw [show lp (b_X9_perform_4 0) FU (h3, 0, 0) = some g5 by
        rw [hM1.1, ← nI_0]
        exact p1.trans (j1 M1 (by omega)), Option.bind_some, g5n _ (by omega), cH_1, Cn _ (by omega), a14]
    · unfold tM
      rw [e2, Option.bind_some, nv_eq, mH_w0, nv_eq, mH_0, upd_n _ _ (by omega), a12, mH_w0, if_pos (by rw [mH_0, upd_n _ _ (by omega), upd_n _ _ (by omega), a12]), nv_eq, mH_w0, ← hD, if_pos (by rw [mH_0, Dn _ (by omega) (by omega) (by omega), a12]), m1, Option.bind_some]
      unfold p_X10_doesAll
      rw [j2', Option.bind_some, mt_n _ _ _ _ (by omega), mH_0, Dn _ (by omega) (by omega) (by omega), a15]
    · rw [g5n o h4, cH_n _ _ _ _ h1 h2 h3]
    · rw [mt_n _ _ _ _ (by omega), mH_n _ _ _ _ _ _ h1 (by omega)]
    · rw [g5n _ (by omega), cH_1, hC, upd_s]
    · rw [mt_n _ _ _ _ (by omega), mH_0, hD, upd_n _ _ (by omega), upd_n _ _ (by omega), upd_s]
    · rw [g5n _ (by omega), cH_1, Cn _ (by omega), a11, mt_n _ _ _ _ (by omega), mH_0, hD, upd_n _ _ (by omega), upd_s]
    · rw [g5n _ (by omega), cH_1, Cn _ (by omega), a13, mt_n _ _ _ _ (by omega), mH_0, hD, upd_s]
    · rw [mt_n _ _ _ _ (by omega), mH_0, Dn _ (by omega) (by omega) (by omega), e4]
    · rw [j5.2 0, gt]
    · rw [j5.2 5, gl]
  · have d16 : ¬ d 16 = 0 := by rw [e5]; exact e3
    refine ⟨-1, cH h (upd c 1 0) O Q, mH X (upd (upd (upd d 2 0) 18 (d 16)) 19 (d 17)) T I Z A, ?_, ?_, fun o h1 h2 h3 h4 => cH_n _ _ _ _ h1 h2 h3, fun o h1 h2 => mH_n _ _ _ _ _ _ h1 (by omega), ?_, ?_, ?_, ?_, ?_, Or.inl ⟨fun o h1 h2 => cH_n _ _ _ _ (by omega) (by omega) (by omega), mH_n _ _ _ _ _ _ (by omega) (by omega)⟩⟩
    · unfold tC
      rw [e1, Option.bind_some, nv_eq, cH_w1, if_neg (by rw [cH_1, upd_n _ _ (by omega)]; exact e3)]
    · unfold tM
      rw [e2, Option.bind_some, nv_eq, mH_w0, nv_eq, mH_0, upd_n _ _ (by omega), mH_w0, if_neg (by rw [mH_0, upd_n _ _ (by omega), upd_n _ _ (by omega)]; exact d16), nv_eq, mH_0, upd_n _ _ (by omega), upd_n _ _ (by omega), mH_w0, if_neg (by rw [mH_0, upd_n _ _ (by omega), upd_n _ _ (by omega), upd_n _ _ (by omega)]; exact d16)]
    · rw [cH_1, upd_s]
    · rw [mH_0, upd_n _ _ (by omega), upd_n _ _ (by omega), upd_s]
    · rw [cH_1, upd_n _ _ (by omega), mH_0, upd_n _ _ (by omega), upd_s, e5]
    · rw [cH_1, upd_n _ _ (by omega), mH_0, upd_s, e6]
    · rw [mH_0, upd_n _ _ (by omega), upd_n _ _ (by omega), upd_n _ _ (by omega), e7]
end Tx
