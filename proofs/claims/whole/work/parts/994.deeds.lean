/-! lines that tell a deed -/
section Ld
variable {h X : Hp} {c O Q d T I Z A : Nat → Int32} {ch : Nat → Nat} {len ln p s : Nat} {P1 P2 : List (List Nat)}
theorem PS_deed {c3 O3 d3 A3 : Nat → Int32} {l : List Nat} (H : PS P1 P2 c O Q d T I Z A) (e8 : c3 8 = nI ((P1 ++ P2).flatten ++ l).length) (eO : AL O3 0 ((P1 ++ P2).flatten ++ l)) (e8' : d3 8 = nI (P2.flatten ++ l).length) (eA : AL A3 0 (P2.flatten ++ l)) (e16 : c3 16 = 1) (e12 : c3 12 = c 12) (e14 : c3 14 = c 14) (e6 : d3 6 = d 6) (hk : (hdl 9 (P2 ++ [l])).length ≤ 200) (e13 : c3 13 = nI (hdl 9 (P2 ++ [l])).length) (e9 : d3 9 = nI (hdl 9 (P2 ++ [l])).length) (hl : okC l ∨ okD l) : PS P1 (P2 ++ [l]) c3 O3 Q d3 T I Z A3 := by
  obtain ⟨b1, b2, b3, b4, b5, ⟨b, bb, b6, b7⟩, b8, b9, b10, b11, b12, b13, b14, b15, b16, b17⟩ := H
  have fl : (P1 ++ (P2 ++ [l])).flatten = (P1 ++ P2).flatten ++ l := by rw [← List.append_assoc, flat_s]
  refine ⟨?_, ?_, ?_, ?_, ?_, ⟨b, bb, ?_, b7⟩, b8, b9, ?_, ?_, b12, hk, e13, e9, b16, fun l' hl' => ?_⟩
  · rw [fl, e8]
  · rw [fl]
    exact eO
  · rw [flat_s, e8']
  · rw [flat_s]
    exact eA
  · rw [e16, if_neg (fun u => by
      have := congrArg List.length u
      rw [List.length_append] at this
      exact absurd this (by simp))]
  · rw [e12, b6]
  · rw [e14, b10]
  · rw [e6, b11]
  · rcases List.mem_append.mp hl' with u | u
    · exact b17 l' u
    · rw [List.mem_singleton.mp u]
      exact hl
theorem hd9_n {P : List (List Nat)} {l : List Nat} {i : Nat} (e : l.head? = some i) (hi : i ≠ 9) : hdl 9 (P ++ [l]) = hdl 9 P := by
  rw [hdl_s, if_neg (fun u => by
    rw [e] at u
    exact hi (Option.some.inj u)), List.append_nil]
theorem dq {i : Nat} (h1 : 10 ≤ i) (h2 : i ≤ 12) : ∃ r hi, tbv 0 i = nI r ∧ r < 19 ∧ r ≠ 8 ∧ tbv 1 r = nI 1 ∧ tbv 2 r = nI hi ∧ 1 ≤ hi ∧ hi ≤ 999 ∧ hi = (if i = 10 then 999 else if i = 11 then 60 else 200) ∧ cntw i = 1 ∧ wip i = i ∧ ∀ g, q_X10_deed_21 g 110 (nI i) = Option.bind (p_X10_notes g 110 (nI i)) fun r1 => Option.bind (p_X10_goOn r1 110) fun r2 => Option.bind (p_X10_numeral r2 110 (nI 1) (nI hi)) fun r10 => Option.bind (p_X10_notes r10.2 110 r10.1) fun r11 => some r11 := by
  rcases (show i = 10 ∨ i = 11 ∨ i = 12 by omega) with rfl | rfl | rfl
  · exact ⟨16, 999, rfl, by omega, by omega, rfl, rfl, by omega, by omega, rfl, rfl, rfl, fun g => rfl⟩
  · exact ⟨17, 60, rfl, by omega, by omega, rfl, rfl, by omega, by omega, rfl, rfl, rfl, fun g => rfl⟩
  · exact ⟨18, 200, rfl, by omega, by omega, rfl, rfl, by omega, by omega, rfl, rfl, rfl, fun g => rfl⟩
theorem deed_line (hT : ∀ j, j < len → h 2 j = nI (ch j) ∧ ch j ≤ 255) (hT2 : ∀ j, j < len → X 111 j = nI (ch j) ∧ ch j ≤ 255) (hl9 : len ≤ 900) (R : RS len ln p s P1 P2 c O Q d T I Z A) {i : Nat} (hi1 : 10 ≤ i) (hi2 : i ≤ 12) (c4 : c 4 = 1) (c6 : c 6 = nI i) (d14 : d 14 = 0) (d15 : d 15 = nI (wip i)) : LO h X len ln (p_X3_readLine (cH h c O Q) (0 + 1)) (p_X10_readLine (mH X d T I Z A) 110) (d 22) := by
  obtain ⟨a1, a2, a3, a4, a5, a6, a7, a8, a9, a10, a11, a12, a13, a14, a15, a16, a17, HP⟩ := R
  have HP0 := HP
  obtain ⟨b1, b2, b3, b4, b5, ⟨b, bb, b6, b7⟩, b8, b9, b10, b11, b12, b13, b14, b15, b16, b17⟩ := HP
  obtain ⟨r, hi, t0, t1, t2, t3, t4, t5, t6, t7, c1w, wi, eq⟩ := dq hi1 hi2
  have sp : s < p := a10 (by rw [c4]; decide)
  obtain ⟨on, hon⟩ : ∃ on, on = (P1 ++ P2).flatten.length := ⟨_, rfl⟩
  obtain ⟨an, han⟩ : ∃ an, an = P2.flatten.length := ⟨_, rfl⟩
  have aon : an ≤ on := by
    rw [han, hon, List.flatten_append, List.length_append]
    omega
  rw [← hon] at b1 a17
  rw [← han] at b3
  rw [wi] at d15
  obtain ⟨F, hF⟩ : ∃ F, FU = F + 1 + 1 := ⟨FU - 2, by have := FU_gt (k := 2) (by omega); omega⟩
  have eC : p_X3_readLine (cH h c O Q) (0 + 1) = Option.bind (p_X3_nextToken (cH h (upd (upd c 16 1) 8 (nI (on + 1))) (upd O on (nI i)) Q) (0 + 1)) fun r5 => Option.bind (p_X3_readNumber r5 (0 + 1) (nI r)) fun r7 => lp (b_X3_readLine_36 (0 + 1) (nI i) (nI 1)) (F + 1) (r7, nI 1) := by
    have cw : p_X3_checkWord (cH h c O Q) (0 + 1) (nI i) = some (cH h (upd c 16 1) O Q) := by
      unfold p_X3_checkWord
      rw [if_neg (show ¬ nI i ≤ 8 from nI_ge (a := 8) (by omega) (by omega)), nv_eq, cH_w1]
      unfold q_X3_checkWord_27
      rw [if_neg (show ¬ nI i = 8 from fun u => by have := nI_inj (b := 8) (by omega) (by omega) u; omega), if_neg (show ¬ nI i = 9 from fun u => by have := nI_inj (b := 9) (by omega) (by omega) u; omega)]
      unfold q_X3_checkWord_59
      rw [if_neg (by rw [cH_1, upd_n _ _ (by omega), b10]; exact nI_nlt (a := 4) b9 (by omega)), if_pos (by rw [cH_1, upd_n _ _ (by omega), b14]; exact nI_le (b := 200) b13 (by omega))]
      unfold q_X3_checkWord_82
      rw [if_pos (show (8 : Int32) ≤ nI i from nI_le (a := 8) (by omega) (by omega))]
    unfold p_X3_readLine
    rw [if_pos (by rw [cH_1]; exact c4), cH_1, c6, nv_eq, cw, Option.bind_some, cl_go (on := on) (by omega) (by rw [upd_n _ _ (by omega), b1]) (by omega), c1w, hF, lstep (r0 := r) (by omega) t0 (by omega) (by omega) (by omega), if_pos (by rw [cH_1, upd_n _ _ (by omega), upd_n _ _ (by omega), a11])]
    rfl
  have eM : p_X10_readLine (mH X d T I Z A) 110 = Option.bind (p_X10_token (mH X (upd d 8 (nI (an + 1))) T I Z (upd A an (nI i))) 110) fun g => Option.bind (some g) fun g2 => Option.bind (p_X10_numeral g2 110 (nI 1) (nI hi)) fun r6 => Option.bind (p_X10_notes r6.2 110 r6.1) fun r11 => q_X10_readLine_59 r11 110 := by
    unfold p_X10_readLine
    rw [if_pos (by rw [mH_0]; exact d14), mH_0, d15, if_pos (show (8 : Int32) ≤ nI i from nI_le (a := 8) (by omega) (by omega)), if_neg (show ¬ nI i = 8 from fun u => by have := nI_inj (b := 8) (by omega) (by omega) u; omega)]
    unfold p_X10_deed
    rw [if_neg (show ¬ nI i = 9 from fun u => by have := nI_inj (b := 9) (by omega) (by omega) u; omega), eq, notes_0 a12 b3 (by omega), Option.bind_some, goOn_0 (by rw [upd_n _ _ (by omega), a12])]
    cases p_X10_token (mH X (upd d 8 (nI (an + 1))) T I Z (upd A an (nI i))) 110 with
    | none => rfl
    | some g =>
      simp only [Option.bind_some]
      cases p_X10_numeral g 110 (nI 1) (nI hi) with
      | none => rfl
      | some q =>
        simp only [Option.bind_some]
        cases p_X10_notes q.2 110 q.1 <;> rfl
  rw [eC, eM]
  rcases num_step (h := h) (X := X) (c := upd (upd c 16 1) 8 (nI (on + 1))) (O := upd O on (nI i)) (Q := Q) (d := upd d 8 (nI (an + 1))) (T := T) (I := I) (Z := Z) (A := upd A an (nI i)) hT hT2 hl9 (by rw [upd_n _ _ (by omega), upd_n _ _ (by omega), a1]) (by rw [upd_n _ _ (by omega), a2]) (p0 := p) (on := on + 1) (r := r) (lo := 1) (hi := hi) a9 (by rw [upd_n _ _ (by omega), upd_n _ _ (by omega), a3]) (by rw [upd_n _ _ (by omega), a4]) t1 t2 t3 t4 (by omega) t5 (by rw [upd_n _ _ (by omega), upd_n _ _ (by omega), a11]) (by rw [upd_n _ _ (by omega), a12]) (upd_s _ _ _) (by omega) some (d 6) (nI (an + 1)) (d 9) T I Z (upd A an (nI i)) (fun d' hd' => by rw [up3_same (by rw [hd' 6 (by omega), upd_n _ _ (by omega)]) (by rw [hd' 8 (by omega), upd_s]) (by rw [hd' 9 (by omega), upd_n _ _ (by omega)])]) with ⟨a, c2, d1, p1, v1, v2, w1, w2, w3, w4, w5, w6, w7, w8, w9⟩ | ⟨f, c2, O2, d1, fz, w1, w2, w3, w4, w5, w6⟩
  · rw [w1, w2, lend (by omega)]
    have cc : ∀ j, j < 3 ∨ 8 < j → j ≠ 16 → c2 j = c j := fun j hj h12 => by rw [w8 j hj, upd_n _ _ (by omega), upd_n _ _ h12]
    have c16 : c2 16 = 1 := by rw [w8 _ (by omega), upd_n _ _ (by omega), upd_s]
    have dd : ∀ j, j < 12 ∨ 15 < j → j ≠ 8 → d1 j = d j := fun j hj h8 => by
      rw [w9 j hj, up3_same (by rw [upd_n _ _ (by omega)]) (by rw [upd_s]) (by rw [upd_n _ _ (by omega)]), upd_n _ _ h8]
    have d8 : d1 8 = nI (an + 1) := by rw [w9 _ (by omega), up3_8]
    rcases end_sim (h := h) (X := X) (c := c2) (O := upd (upd O on (nI i)) (on + 1) (nI a)) (Q := Q) (d := d1) (T := T) (I := I) (Z := Z) (A := upd A an (nI i)) hT hT2 hl9 (by rw [cc _ (by omega) (by omega), a1]) (by rw [dd _ (by omega) (by omega), a2]) (p0 := p1) (ln := ln) w7 w4 w5 (by rw [cc _ (by omega) (by omega), a11]) (by rw [dd _ (by omega) (by omega), a12]) (by rw [cc _ (by omega) (by omega), a14]) (by rw [dd _ (by omega) (by omega), a15]) (fun g => p_X10_notes g 110 (nI a)) (d 6) (nI (an + 1 + 1)) (d 9) T I Z (upd (upd A an (nI i)) (an + 1) (nI a)) (fun d' hd' => by
        show p_X10_notes (mH X d' T I Z (upd A an (nI i))) 110 (nI a) = _
        rw [notes_0 (an := an + 1) (by rw [hd' _ (by omega), dd _ (by omega) (by omega), a12]) (by rw [hd' _ (by omega), d8]) (by omega), up3_u8 _ (by rw [hd' 6 (by omega), dd _ (by omega) (by omega)]) (by rw [hd' 9 (by omega), dd _ (by omega) (by omega)])]) with ⟨c3, d3, p2, s2, x1, x2, x3, x4, x5, x6, x7, x8, x9, x10, x11, x12, x13, x14, x15⟩ | ⟨c3, d3, x1, x2, x3, x4, x5, x6⟩
    · have l2 : ((P1 ++ P2).flatten ++ [i, a]).length = on + 1 + 1 := by rw [List.length_append, ← hon]; rfl
      have l3 : (P2.flatten ++ [i, a]).length = an + 1 + 1 := by rw [List.length_append, ← han]; rfl
      have h9e : hdl 9 (P2 ++ [[i, a]]) = hdl 9 P2 := hd9_n (i := i) rfl (by omega)
      have d3n : ∀ j, j < 12 ∨ 15 < j → j ≠ 10 → j ≠ 8 → d3 j = d j := fun j h1 h2 h3 => by
        rw [x15 j h1 h2]
        by_cases u6 : j = 6
        · rw [u6, up3_6]
        · by_cases u9 : j = 9
          · rw [u9, up3_9]
          · rw [up3_n _ _ _ _ u6 h3 u9, dd _ h1 h3]
      refine Or.inl ⟨p2, s2, P1, P2 ++ [[i, a]], c3, _, Q, d3, _, _, Z, _, x1, x2, ⟨?_, ?_, x3, x4, x5, x6, x7, x9, x10, x11, ?_, ?_, ?_, x12, x13, ⟨by omega, by have := a16.2; simp only [List.length_append, List.length_cons, List.length_nil] at this ⊢; omega⟩, ?_, PS_deed (l := [i, a]) HP0 ?_ ?_ ?_ ?_ ?_ ?_ ?_ ?_ ?_ ?_ ?_ ?_⟩, ?_⟩
      · rw [x14 _ (by omega) (by omega), cc _ (by omega) (by omega), a1]
      · rw [d3n _ (by omega) (by omega) (by omega), a2]
      · rw [x14 _ (by omega) (by omega), cc _ (by omega) (by omega), a11]
      · rw [d3n _ (by omega) (by omega) (by omega), a12]
      · rw [x14 _ (by omega) (by omega), cc _ (by omega) (by omega), a13]
      · rw [← List.append_assoc, flat_s, l2]
        omega
      · rw [x14 _ (by omega) (by omega), w3, l2]
      · rw [show (P1 ++ P2).flatten ++ [i, a] = (P1 ++ P2).flatten ++ [i] ++ [a] by rw [List.append_assoc]; rfl]
        exact AL2 (AL2 b2 hon.symm) (by rw [List.length_append, ← hon]; rfl)
      · rw [x15 _ (by omega) (by omega), up3_8, l3]
      · rw [show P2.flatten ++ [i, a] = P2.flatten ++ [i] ++ [a] by rw [List.append_assoc]; rfl]
        exact AL2 (AL2 b4 han.symm) (by rw [List.length_append, ← han]; rfl)
      · rw [x14 _ (by omega) (by omega), c16]
      · rw [x14 _ (by omega) (by omega), cc _ (by omega) (by omega)]
      · rw [x14 _ (by omega) (by omega), cc _ (by omega) (by omega)]
      · rw [d3n _ (by omega) (by omega) (by omega)]
      · rw [h9e]
        exact b13
      · rw [x14 _ (by omega) (by omega), cc _ (by omega) (by omega), h9e, b14]
      · rw [d3n _ (by omega) (by omega) (by omega), h9e, b15]
      · exact Or.inr ⟨i, a, hi1, hi2, v1, by rw [← t7]; exact v2, rfl⟩
      · rw [d3n _ (by omega) (by omega) (by omega)]
    · refine Or.inr ⟨c3, _, Q, d3, _, _, Z, _, x1, x2, ?_, ?_, ?_, ?_⟩
      · rw [x3]
        exact one_nz
      · rw [x3, x4]
      · rw [x5]
      · rw [x6 _ (by omega), up3_n _ _ _ _ (by omega) (by omega) (by omega), dd _ (by omega) (by omega)]
  · have z16 : ¬ d1 16 = 0 := by rw [w5]; exact fz
    rw [w1, w2]
    refine Or.inr ⟨c2, O2, Q, upd d1 10 (d1 10 + 1), T, I, Z, upd A an (nI i), ?_, ?_, ?_, ?_, ?_, ?_⟩
    · rw [lend (by omega), q69_f (by rw [w3]; exact fz)]
    · show (Option.bind (p_X10_notes (mH X d1 T I Z (upd A an (nI i))) 110 (nI 1)) fun r11 => q_X10_readLine_59 r11 110) = _
      rw [notes_1 z16, Option.bind_some, q59_f z16]
    · rw [w3]
      exact fz
    · rw [upd_n _ _ (by omega), w5, w3]
    · rw [upd_n _ _ (by omega), w4]
    · rw [upd_n _ _ (by omega), w6 _ (by omega), up3_n _ _ _ _ (by omega) (by omega) (by omega), upd_n _ _ (by omega)]
end Ld
