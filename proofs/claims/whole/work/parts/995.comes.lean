/-! a line that tells a coming -/
section Lc
variable {h X : Hp} {c O Q d T I Z A : Nat → Int32} {ch : Nat → Nat} {len ln p s : Nat} {P1 P2 : List (List Nat)}
def F3 (r8 : Int32 × Hp) : Option Hp := Option.bind (p_X10_notes r8.2 110 r8.1) fun r9 => q_X10_readLine_59 r9 110
def F2 (r6 : Int32 × Hp) : Option Hp := Option.bind (p_X10_notes r6.2 110 r6.1) fun r7 => Option.bind (p_X10_numeral r7 110 (nI 0) (nI 1)) F3
def F1 (r4 : Int32 × Hp) : Option Hp := Option.bind (p_X10_notes r4.2 110 r4.1) fun r5 => Option.bind (p_X10_numeral r5 110 (nI 1) (nI 1500)) F2
theorem F3_f (v : Int32) (d16 : ¬ d 16 = 0) : F3 (v, mH X d T I Z A) = some (mH X (upd d 10 (d 10 + 1)) T I Z A) := by
  unfold F3
  dsimp +instances only
  rw [notes_1 d16, Option.bind_some, q59_f d16]
theorem F2_f (v : Int32) (d16 : ¬ d 16 = 0) : F2 (v, mH X d T I Z A) = some (mH X (upd d 10 (d 10 + 1)) T I Z A) := by
  unfold F2
  dsimp +instances only
  rw [notes_1 d16, Option.bind_some, numeral_1 d16, Option.bind_some, F3_f _ d16]
theorem F1_f (v : Int32) (d16 : ¬ d 16 = 0) : F1 (v, mH X d T I Z A) = some (mH X (upd d 10 (d 10 + 1)) T I Z A) := by
  unfold F1
  dsimp +instances only
  rw [notes_1 d16, Option.bind_some, numeral_1 d16, Option.bind_some, F2_f _ d16]
theorem come_line (hT : ∀ j, j < len → h 2 j = nI (ch j) ∧ ch j ≤ 255) (hT2 : ∀ j, j < len → X 111 j = nI (ch j) ∧ ch j ≤ 255) (hl9 : len ≤ 900) (R : RS len ln p s P1 P2 c O Q d T I Z A) (c4 : c 4 = 1) (c6 : c 6 = nI 9) (d14 : d 14 = 0) (d15 : d 15 = nI (wip 9)) : LO h X len ln (p_X3_readLine (cH h c O Q) (0 + 1)) (p_X10_readLine (mH X d T I Z A) 110) (d 22) := by
  obtain ⟨a1, a2, a3, a4, a5, a6, a7, a8, a9, a10, a11, a12, a13, a14, a15, a16, a17, HP⟩ := R
  have HP0 := HP
  obtain ⟨b1, b2, b3, b4, b5, ⟨b, bb, b6, b7⟩, b8, b9, b10, b11, b12, b13, b14, b15, b16, b17⟩ := HP
  have sp : s < p := a10 (by rw [c4]; decide)
  obtain ⟨on, hon⟩ : ∃ on, on = (P1 ++ P2).flatten.length := ⟨_, rfl⟩
  obtain ⟨an, han⟩ : ∃ an, an = P2.flatten.length := ⟨_, rfl⟩
  obtain ⟨cm, hcm⟩ : ∃ cm, cm = (hdl 9 P2).length := ⟨_, rfl⟩
  have aon : an ≤ on := by
    rw [han, hon, List.flatten_append, List.length_append]
    omega
  rw [← hon] at b1 a17
  rw [← han] at b3
  rw [← hcm] at b13 b14 b15
  obtain ⟨F, hF⟩ : ∃ F, FU = F + 1 + 1 + 1 + 1 := ⟨FU - 4, by have := FU_gt (k := 4) (by omega); omega⟩
  have e9 : ∀ x : Hp → Option Hp, p_X3_checkWord (cH h c O Q) (0 + 1) (nI 9) = if nI (cm + 1) ≤ 200 then some (cH h (upd (upd c 16 1) 13 (nI (cm + 1))) O Q) else some (cH h (upd (upd (upd (upd c 16 1) 13 (nI (cm + 1))) 10 2) 11 (c 5)) O Q) := fun _ => by
    unfold p_X3_checkWord
    rw [if_neg (by decide), nv_eq, cH_w1]
    unfold q_X3_checkWord_27
    rw [if_neg (by decide), if_pos (show nI 9 = 9 from rfl), nv_eq, cH_1, upd_n _ _ (by omega), b14, nI_1, cH_w1]
    unfold q_X3_checkWord_59
    rw [if_neg (by rw [cH_1, upd_n _ _ (by omega), upd_n _ _ (by omega), b10]; exact nI_nlt (a := 4) b9 (by omega)), cH_1, upd_s]
    unfold q_X3_checkWord_82
    simp only [if_pos (show (8 : Int32) ≤ nI 9 by decide)]
    rw [ref_0 (by rw [upd_n _ _ (by omega), upd_n _ _ (by omega), a11]), Option.bind_some, upd_n _ _ (by omega), upd_n _ _ (by omega)]
  have pC : p_X3_readLine (cH h c O Q) (0 + 1) = Option.bind (p_X3_checkWord (cH h c O Q) (0 + 1) (nI 9)) fun r9 => Option.bind (p_X3_put r9 (0 + 1) (nI 9)) fun r10 => Option.bind (p_X9_numbersOf r10 (nI 9)) fun r11 => lp (b_X3_readLine_36 (0 + 1) (nI 9) r11.1) FU (r11.2, 0) := by
    unfold p_X3_readLine
    rw [if_pos (by rw [cH_1]; exact c4), cH_1, c6, nv_eq]
  have pM : p_X10_readLine (mH X d T I Z A) 110 = Option.bind (if d 9 = 200 then (Option.bind (p_X10_wrong (mH X d T I Z A) 110 2) fun r16 => q_X10_deed_21 r16 110 (nI 9)) else (q_X10_deed_21 (mH X d T I Z A) 110 (nI 9))) fun r9 => q_X10_readLine_59 r9 110 := by
    unfold p_X10_readLine
    rw [if_pos (by rw [mH_0]; exact d14), mH_0, d15, show nI (wip 9) = nI 9 from rfl, if_pos (by decide), if_neg (by decide)]
    unfold p_X10_deed
    rw [if_pos (show nI 9 = 9 from rfl), mH_0]
  have q21 : ∀ g, q_X10_deed_21 g 110 (nI 9) = Option.bind (p_X10_notes g 110 (nI 9)) fun r1 => Option.bind (p_X10_goOn r1 110) fun r2 => nv (hp r2 110 9 ((r2 110 9) + 1)) fun h3 => Option.bind (p_X10_numeral h3 110 (nI 0) (nI 9999)) fun r4 => Option.bind (p_X10_notes r4.2 110 r4.1) fun r5 => Option.bind (p_X10_numeral r5 110 (nI 1) (nI 1500)) fun r6 => Option.bind (p_X10_notes r6.2 110 r6.1) fun r7 => Option.bind (p_X10_numeral r7 110 (nI 0) (nI 1)) fun r8 => Option.bind (p_X10_notes r8.2 110 r8.1) fun r9 => some r9 := fun g => rfl
  rw [pC, pM, e9 some]
  by_cases k200 : cm + 1 ≤ 200
  · rw [if_pos (show nI (cm + 1) ≤ 200 from nI_le (b := 200) k200 (by omega)), Option.bind_some, cl_go (on := on) (by omega) (by rw [upd_n _ _ (by omega), upd_n _ _ (by omega), b1]) (by omega), show cntw 9 = 3 from rfl, hF, lstep (r0 := 13) (by omega) rfl (by omega) (by omega) (by omega), if_pos (by rw [cH_1, upd_n _ _ (by omega), upd_n _ _ (by omega), upd_n _ _ (by omega), a11])]
    have eM : (Option.bind (if d 9 = 200 then (Option.bind (p_X10_wrong (mH X d T I Z A) 110 2) fun r16 => q_X10_deed_21 r16 110 (nI 9)) else (q_X10_deed_21 (mH X d T I Z A) 110 (nI 9))) fun r9 => q_X10_readLine_59 r9 110) = Option.bind (p_X10_token (mH X (upd d 8 (nI (an + 1))) T I Z (upd A an (nI 9))) 110) fun g => Option.bind (some (hp g 110 9 (g 110 9 + 1))) fun g2 => Option.bind (p_X10_numeral g2 110 (nI 0) (nI 9999)) F1 := by
      rw [if_neg (by rw [b15]; exact fun u => by have := nI_inj (b := 200) (by omega) (by omega) u; omega), q21, notes_0 a12 b3 (by omega), Option.bind_some, goOn_0 (by rw [upd_n _ _ (by omega), a12])]
      cases p_X10_token (mH X (upd d 8 (nI (an + 1))) T I Z (upd A an (nI 9))) 110 with
      | none => rfl
      | some g =>
        simp only [Option.bind_some, nv_eq]
        cases p_X10_numeral (hp g 110 9 (g 110 9 + 1)) 110 (nI 0) (nI 9999) with
        | none => rfl
        | some q =>
          simp only [Option.bind_some]
          unfold F1
          cases p_X10_notes q.2 110 q.1 with
          | none => rfl
          | some g5 =>
            simp only [Option.bind_some]
            cases p_X10_numeral g5 110 (nI 1) (nI 1500) with
            | none => rfl
            | some q6 =>
              simp only [Option.bind_some]
              unfold F2
              cases p_X10_notes q6.2 110 q6.1 with
              | none => rfl
              | some g7 =>
                simp only [Option.bind_some]
                cases p_X10_numeral g7 110 (nI 0) (nI 1) with
                | none => rfl
                | some q8 =>
                  simp only [Option.bind_some]
                  unfold F3
                  cases p_X10_notes q8.2 110 q8.1 <;> rfl
    rw [eM]
    -- the first number
    obtain ⟨C0, hC0⟩ : ∃ C0, C0 = upd (upd (upd c 16 1) 13 (nI (cm + 1))) 8 (nI (on + 1)) := ⟨_, rfl⟩
    have C0n : ∀ j, j ≠ 8 → j ≠ 13 → j ≠ 16 → C0 j = c j := fun j h1 h2 h3 => by rw [hC0, upd_n _ _ h1, upd_n _ _ h2, upd_n _ _ h3]
    have C08 : C0 8 = nI (on + 1) := by rw [hC0, upd_s]
    have C013 : C0 13 = nI (cm + 1) := by rw [hC0, upd_n _ _ (by omega), upd_s]
    have C016 : C0 16 = 1 := by rw [hC0, upd_n _ _ (by omega), upd_n _ _ (by omega), upd_s]
    rw [← hC0]
    rcases num_step (h := h) (X := X) (c := C0) (O := upd O on (nI 9)) (Q := Q) (d := upd d 8 (nI (an + 1))) (T := T) (I := I) (Z := Z) (A := upd A an (nI 9)) hT hT2 hl9 (by rw [C0n _ (by omega) (by omega) (by omega), a1]) (by rw [upd_n _ _ (by omega), a2]) (p0 := p) (on := on + 1) (r := 13 + 0) (lo := 0) (hi := 9999) a9 (by rw [C0n _ (by omega) (by omega) (by omega), a3]) (by rw [upd_n _ _ (by omega), a4]) (by omega) (by omega) rfl rfl (by omega) (by omega) (by rw [C0n _ (by omega) (by omega) (by omega), a11]) (by rw [upd_n _ _ (by omega), a12]) C08 (by omega) (fun g => some (hp g 110 9 (g 110 9 + 1))) (d 6) (nI (an + 1)) (nI (cm + 1)) T I Z (upd A an (nI 9)) (fun d' hd' => by
        show some (hp (mH X d' T I Z (upd A an (nI 9))) 110 9 (mH X d' T I Z (upd A an (nI 9)) 110 9 + 1)) = _
        rw [mH_0, mH_w0, hd' 9 (by omega), upd_n _ _ (by omega), b15, nI_1, up3_u9 _ (by rw [hd' 6 (by omega), upd_n _ _ (by omega)]) (by rw [hd' 8 (by omega), upd_s])]) with ⟨a, c2, d1, p1, v1, v2, w1, w2, w3, w4, w5, w6, w7, w8, w9⟩ | ⟨f, c2, O2, d1, fz, w1, w2, w3, w4, w5, w6⟩
    · rw [w1, w2, lstep (r0 := 13) (j := 0 + 1) (by omega) rfl (by omega) (by omega) (by omega), if_pos (by rw [cH_1, w8 _ (by omega), C0n _ (by omega) (by omega) (by omega), a11])]
      have dd : ∀ j, j < 12 ∨ 15 < j → j ≠ 8 → j ≠ 9 → d1 j = d j := fun j hj h8 h9 => by
        rw [w9 j hj]
        by_cases u6 : j = 6
        · rw [u6, up3_6]
        · rw [up3_n _ _ _ _ u6 h8 h9, upd_n _ _ h8]
      have d18 : d1 8 = nI (an + 1) := by rw [w9 _ (by omega), up3_8]
      have d19 : d1 9 = nI (cm + 1) := by rw [w9 _ (by omega), up3_9]
      -- the second number
      have q2 := num_step (h := h) (X := X) (c := c2) (O := upd (upd O on (nI 9)) (on + 1) (nI a)) (Q := Q) (d := d1) (T := T) (I := I) (Z := Z) (A := upd A an (nI 9)) hT hT2 hl9 (by rw [w8 _ (by omega), C0n _ (by omega) (by omega) (by omega), a1]) (by rw [dd _ (by omega) (by omega) (by omega), a2]) (p0 := p1) (on := on + 1 + 1) (r := 13 + (0 + 1)) (lo := 1) (hi := 1500) w7 w4 w5 (by omega) (by omega) rfl rfl (by omega) (by omega) (by rw [w8 _ (by omega), C0n _ (by omega) (by omega) (by omega), a11]) (by rw [dd _ (by omega) (by omega) (by omega), a12]) w3 (by omega) (fun g => p_X10_notes g 110 (nI a)) (d 6) (nI (an + 1 + 1)) (nI (cm + 1)) T I Z (upd (upd A an (nI 9)) (an + 1) (nI a)) (fun d' hd' => by
        show p_X10_notes (mH X d' T I Z (upd A an (nI 9))) 110 (nI a) = _
        rw [notes_0 (an := an + 1) (by rw [hd' _ (by omega), dd _ (by omega) (by omega) (by omega), a12]) (by rw [hd' _ (by omega), d18]) (by omega), up3_u8 _ (by rw [hd' 6 (by omega), dd _ (by omega) (by omega) (by omega)]) (by rw [hd' 9 (by omega), d19])])
      have sh1 : (fun r2 => F1 (nI a, r2)) = fun g => Option.bind ((fun g => p_X10_notes g 110 (nI a)) g) fun g2 => Option.bind (p_X10_numeral g2 110 (nI 1) (nI 1500)) F2 := rfl
      rw [sh1]
      rcases q2 with ⟨a', c3, d2, p2, y1, y2, z1, z2, z3, z4, z5, z6, z7, z8, z9⟩ | ⟨f, c3, O3, d2, fz, z1, z2, z3, z4, z5, z6⟩
      · rw [z1, z2, lstep (r0 := 13) (j := 0 + 1 + 1) (by omega) rfl (by omega) (by omega) (by omega), if_pos (by rw [cH_1, z8 _ (by omega), w8 _ (by omega), C0n _ (by omega) (by omega) (by omega), a11])]
        have dd2 : ∀ j, j < 12 ∨ 15 < j → j ≠ 8 → j ≠ 9 → d2 j = d j := fun j hj h8 h9 => by
          rw [z9 j hj]
          by_cases u6 : j = 6
          · rw [u6, up3_6]
          · rw [up3_n _ _ _ _ u6 h8 h9, dd _ hj h8 h9]
        have d28 : d2 8 = nI (an + 1 + 1) := by rw [z9 _ (by omega), up3_8]
        have d29 : d2 9 = nI (cm + 1) := by rw [z9 _ (by omega), up3_9]
        have c3n : ∀ j, 8 < j → j ≠ 13 → j ≠ 16 → c3 j = c j := fun j h1 h2 h3 => by rw [z8 _ (by omega), w8 _ (by omega), C0n _ (by omega) h2 h3]
        have q3 := num_step (h := h) (X := X) (c := c3) (O := upd (upd (upd O on (nI 9)) (on + 1) (nI a)) (on + 1 + 1) (nI a')) (Q := Q) (d := d2) (T := T) (I := I) (Z := Z) (A := upd (upd A an (nI 9)) (an + 1) (nI a)) hT hT2 hl9 (by rw [z8 _ (by omega), w8 _ (by omega), C0n _ (by omega) (by omega) (by omega), a1]) (by rw [dd2 _ (by omega) (by omega) (by omega), a2]) (p0 := p2) (on := on + 1 + 1 + 1) (r := 13 + (0 + 1 + 1)) (lo := 0) (hi := 1) z7 z4 z5 (by omega) (by omega) rfl rfl (by omega) (by omega) (by rw [c3n _ (by omega) (by omega) (by omega), a11]) (by rw [dd2 _ (by omega) (by omega) (by omega), a12]) z3 (by omega) (fun g => p_X10_notes g 110 (nI a')) (d 6) (nI (an + 1 + 1 + 1)) (nI (cm + 1)) T I Z (upd (upd (upd A an (nI 9)) (an + 1) (nI a)) (an + 1 + 1) (nI a')) (fun d' hd' => by
          show p_X10_notes (mH X d' T I Z (upd (upd A an (nI 9)) (an + 1) (nI a))) 110 (nI a') = _
          rw [notes_0 (an := an + 1 + 1) (by rw [hd' _ (by omega), dd2 _ (by omega) (by omega) (by omega), a12]) (by rw [hd' _ (by omega), d28]) (by omega), up3_u8 _ (by rw [hd' 6 (by omega), dd2 _ (by omega) (by omega) (by omega)]) (by rw [hd' 9 (by omega), d29])])
        have sh2 : (fun r2 => F2 (nI a', r2)) = fun g => Option.bind ((fun g => p_X10_notes g 110 (nI a')) g) fun g2 => Option.bind (p_X10_numeral g2 110 (nI 0) (nI 1)) F3 := rfl
        rw [sh2]
        rcases q3 with ⟨a'', c5, d5, p3, y3, y4, u1, u2, u3, u4, u5, u6, u7, u8, u9⟩ | ⟨f, c5, O5, d5, fz, u1, u2, u3, u4, u5, u6⟩
        · rw [u1, u2, show nI (0 + 1 + 1 + 1) = nI 3 from rfl, lend (by omega)]
          have dd3 : ∀ j, j < 12 ∨ 15 < j → j ≠ 8 → j ≠ 9 → d5 j = d j := fun j hj h8 h9 => by
            rw [u9 j hj]
            by_cases v6 : j = 6
            · rw [v6, up3_6]
            · rw [up3_n _ _ _ _ v6 h8 h9, dd2 _ hj h8 h9]
          have d58 : d5 8 = nI (an + 1 + 1 + 1) := by rw [u9 _ (by omega), up3_8]
          have d59 : d5 9 = nI (cm + 1) := by rw [u9 _ (by omega), up3_9]
          have c5n : ∀ j, 8 < j → j ≠ 13 → j ≠ 16 → c5 j = c j := fun j h1 h2 h3 => by rw [u8 _ (by omega), c3n _ h1 h2 h3]
          have c513 : c5 13 = nI (cm + 1) := by rw [u8 _ (by omega), z8 _ (by omega), w8 _ (by omega), C013]
          have c516 : c5 16 = 1 := by rw [u8 _ (by omega), z8 _ (by omega), w8 _ (by omega), C016]
          have c52 : c5 2 = nI len := by rw [u8 _ (by omega), z8 _ (by omega), w8 _ (by omega), C0n _ (by omega) (by omega) (by omega), a1]
          have sh3 : (fun r2 => F3 (nI a'', r2)) = fun r => Option.bind ((fun g => p_X10_notes g 110 (nI a'')) r) fun g2 => q_X10_readLine_59 g2 110 := rfl
          rw [sh3]
          rcases end_sim (h := h) (X := X) (c := c5) (O := upd (upd (upd (upd O on (nI 9)) (on + 1) (nI a)) (on + 1 + 1) (nI a')) (on + 1 + 1 + 1) (nI a'')) (Q := Q) (d := d5) (T := T) (I := I) (Z := Z) (A := upd (upd (upd A an (nI 9)) (an + 1) (nI a)) (an + 1 + 1) (nI a')) hT hT2 hl9 c52 (by rw [dd3 _ (by omega) (by omega) (by omega), a2]) (p0 := p3) (ln := ln) u7 u4 u5 (by rw [c5n _ (by omega) (by omega) (by omega), a11]) (by rw [dd3 _ (by omega) (by omega) (by omega), a12]) (by rw [c5n _ (by omega) (by omega) (by omega), a14]) (by rw [dd3 _ (by omega) (by omega) (by omega), a15]) (fun g => p_X10_notes g 110 (nI a'')) (d 6) (nI (an + 1 + 1 + 1 + 1)) (nI (cm + 1)) T I Z (upd (upd (upd (upd A an (nI 9)) (an + 1) (nI a)) (an + 1 + 1) (nI a')) (an + 1 + 1 + 1) (nI a'')) (fun d' hd' => by
            show p_X10_notes (mH X d' T I Z (upd (upd (upd A an (nI 9)) (an + 1) (nI a)) (an + 1 + 1) (nI a'))) 110 (nI a'') = _
            rw [notes_0 (an := an + 1 + 1 + 1) (by rw [hd' _ (by omega), dd3 _ (by omega) (by omega) (by omega), a12]) (by rw [hd' _ (by omega), d58]) (by omega), up3_u8 _ (by rw [hd' 6 (by omega), dd3 _ (by omega) (by omega) (by omega)]) (by rw [hd' 9 (by omega), d59])]) with ⟨c7, d7, p4, s4, x1, x2, x3, x4, x5, x6, x7, x8, x9, x10, x11, x12, x13, x14, x15⟩ | ⟨c7, d7, x1, x2, x3, x4, x5, x6⟩
          · have l2 : ((P1 ++ P2).flatten ++ [9, a, a', a'']).length = on + 1 + 1 + 1 + 1 := by rw [List.length_append, ← hon]; rfl
            have l3 : (P2.flatten ++ [9, a, a', a'']).length = an + 1 + 1 + 1 + 1 := by rw [List.length_append, ← han]; rfl
            have h9e : (hdl 9 (P2 ++ [[9, a, a', a'']])).length = cm + 1 := by
              rw [hdl_s, if_pos (show ([9, a, a', a''] : List Nat).head? = some 9 from rfl), List.length_append, ← hcm]
              rfl
            have d7n : ∀ j, j < 12 ∨ 15 < j → j ≠ 10 → j ≠ 8 → j ≠ 9 → d7 j = d j := fun j h1 h2 h3 h4 => by
              rw [x15 j h1 h2]
              by_cases v6 : j = 6
              · rw [v6, up3_6]
              · rw [up3_n _ _ _ _ v6 h3 h4, dd3 _ h1 h3 h4]
            have al4 : ∀ (a0 : Nat → Int32) (l : List Nat) (o : Nat), AL a0 0 l → l.length = o → AL (upd (upd (upd (upd a0 o (nI 9)) (o + 1) (nI a)) (o + 1 + 1) (nI a')) (o + 1 + 1 + 1) (nI a'')) 0 (l ++ [9, a, a', a'']) := fun a0 l o h1 h2 => by
              have := AL2 (x := a'') (AL2 (x := a') (AL2 (x := a) (AL2 (x := 9) h1 h2) (o := o + 1) (by rw [List.length_append, h2]; rfl)) (o := o + 1 + 1) (by rw [List.length_append, List.length_append, h2]; rfl)) (o := o + 1 + 1 + 1) (by rw [List.length_append, List.length_append, List.length_append, h2]; rfl)
              rw [show l ++ [9, a, a', a''] = l ++ [9] ++ [a] ++ [a'] ++ [a''] by rw [List.append_assoc, List.append_assoc, List.append_assoc]; rfl]
              exact this
            refine Or.inl ⟨p4, s4, P1, P2 ++ [[9, a, a', a'']], c7, _, Q, d7, _, _, Z, _, x1, x2, ⟨?_, ?_, x3, x4, x5, x6, x7, x9, x10, x11, ?_, ?_, ?_, x12, x13, ⟨by omega, by have := a16.2; simp only [List.length_append, List.length_cons, List.length_nil] at this ⊢; omega⟩, ?_, PS_deed (l := [9, a, a', a'']) HP0 ?_ ?_ ?_ ?_ ?_ ?_ ?_ ?_ ?_ ?_ ?_ ?_⟩, ?_⟩
            · rw [x14 _ (by omega) (by omega), c52]
            · rw [d7n _ (by omega) (by omega) (by omega) (by omega), a2]
            · rw [x14 _ (by omega) (by omega), c5n _ (by omega) (by omega) (by omega), a11]
            · rw [d7n _ (by omega) (by omega) (by omega) (by omega), a12]
            · rw [x14 _ (by omega) (by omega), c5n _ (by omega) (by omega) (by omega), a13]
            · rw [← List.append_assoc, flat_s, l2]
              omega
            · rw [x14 _ (by omega) (by omega), u3, l2]
            · exact al4 O _ on b2 hon.symm
            · rw [x15 _ (by omega) (by omega), up3_8, l3]
            · exact al4 A _ an b4 han.symm
            · rw [x14 _ (by omega) (by omega), c516]
            · rw [x14 _ (by omega) (by omega), c5n _ (by omega) (by omega) (by omega)]
            · rw [x14 _ (by omega) (by omega), c5n _ (by omega) (by omega) (by omega)]
            · rw [d7n _ (by omega) (by omega) (by omega) (by omega)]
            · rw [h9e]
              exact k200
            · rw [x14 _ (by omega) (by omega), c513, h9e]
            · rw [x15 _ (by omega) (by omega), up3_9, h9e]
            · exact Or.inl ⟨a, a', a'', v2, y1, y2, y4, rfl⟩
            · rw [d7n _ (by omega) (by omega) (by omega) (by omega)]
          · refine Or.inr ⟨c7, _, Q, d7, _, _, Z, _, x1, x2, ?_, ?_, ?_, ?_⟩
            · rw [x3]
              exact one_nz
            · rw [x3, x4]
            · rw [x5]
            · rw [x6 _ (by omega), up3_n _ _ _ _ (by omega) (by omega) (by omega), dd3 _ (by omega) (by omega) (by omega)]
        · have z16 : ¬ d5 16 = 0 := by rw [u5]; exact fz
          rw [u1, u2]
          refine Or.inr ⟨c5, O5, Q, upd d5 10 (d5 10 + 1), T, I, Z, _, ?_, F3_f _ z16, ?_, ?_, ?_, ?_⟩
          · rw [show nI (0 + 1 + 1 + 1) = nI 3 from rfl, lend (by omega), q69_f (by rw [u3]; exact fz)]
          · rw [u3]
            exact fz
          · rw [upd_n _ _ (by omega), u5, u3]
          · rw [upd_n _ _ (by omega), u4]
          · rw [upd_n _ _ (by omega), u6 _ (by omega), up3_n _ _ _ _ (by omega) (by omega) (by omega), dd2 _ (by omega) (by omega) (by omega)]
      · have z16 : ¬ d2 16 = 0 := by rw [z5]; exact fz
        rw [z1, z2]
        refine Or.inr ⟨c3, O3, Q, upd d2 10 (d2 10 + 1), T, I, Z, _, ?_, F2_f _ z16, ?_, ?_, ?_, ?_⟩
        · exact lp_f (r0 := 13) (by omega) rfl (by omega) (by omega) (by omega) (by rw [z3]; exact fz)
        · rw [z3]
          exact fz
        · rw [upd_n _ _ (by omega), z5, z3]
        · rw [upd_n _ _ (by omega), z4]
        · rw [upd_n _ _ (by omega), z6 _ (by omega), up3_n _ _ _ _ (by omega) (by omega) (by omega), dd _ (by omega) (by omega) (by omega)]
    · have z16 : ¬ d1 16 = 0 := by rw [w5]; exact fz
      rw [w1, w2]
      refine Or.inr ⟨c2, O2, Q, upd d1 10 (d1 10 + 1), T, I, Z, _, ?_, F1_f _ z16, ?_, ?_, ?_, ?_⟩
      · exact lp_f (r0 := 13) (by omega) rfl (by omega) (by omega) (by omega) (by rw [w3]; exact fz)
      · rw [w3]
        exact fz
      · rw [upd_n _ _ (by omega), w5, w3]
      · rw [upd_n _ _ (by omega), w4]
      · rw [upd_n _ _ (by omega), w6 _ (by omega), up3_n _ _ _ _ (by omega) (by omega) (by omega), upd_n _ _ (by omega)]
  · have ec : cm = 200 := by omega
    rw [if_neg (show ¬ nI (cm + 1) ≤ 200 from nI_ge (a := 200) (by omega) (by omega)), Option.bind_some, if_pos (by rw [b15, ec]; rfl), show p_X10_wrong (mH X d T I Z A) 110 2 = some (mH X (fau d 2) T I Z A) from wrg_0 a12 2, Option.bind_some]
    obtain ⟨c', O', k1, k2⟩ := cl_f (h := h) (c := upd (upd (upd (upd c 16 1) 13 (nI (cm + 1))) 10 2) 11 (c 5)) (O := O) (Q := Q) (i := 9) (on := on) (by omega) (by rw [upd_n _ _ (by omega), upd_n _ _ (by omega), upd_n _ _ (by omega), upd_n _ _ (by omega), b1]) (by omega) (by rw [upd_n _ _ (by omega), upd_s]; decide)
    have k10 : c' 10 = 2 := by rw [k2 _ (by omega), upd_n _ _ (by omega), upd_s]
    have k11 : c' 11 = c 5 := by rw [k2 _ (by omega), upd_s]
    have z16 : ¬ fau d 2 16 = 0 := by rw [fau_16]; decide
    have z16' : ¬ upd (fau d 2) 9 (fau d 2 9 + 1) 16 = 0 := by rw [upd_n _ _ (by omega)]; exact z16
    refine Or.inr ⟨c', O', Q, upd (upd (fau d 2) 9 (fau d 2 9 + 1)) 10 (upd (fau d 2) 9 (fau d 2 9 + 1) 10 + 1), T, I, Z, A, k1, ?_, ?_, ?_, ?_, ?_⟩
    · rw [q21, notes_1 z16, Option.bind_some, goOn_1 z16, Option.bind_some, nv_eq, mH_0, mH_w0, numeral_1 z16', Option.bind_some]
      dsimp +instances only
      rw [notes_1 z16', Option.bind_some, numeral_1 z16', Option.bind_some]
      dsimp +instances only
      rw [notes_1 z16', Option.bind_some, numeral_1 z16', Option.bind_some]
      dsimp +instances only
      rw [notes_1 z16', Option.bind_some, Option.bind_some, q59_f z16']
    · rw [k10]
      decide
    · rw [k10, upd_n _ _ (by omega), upd_n _ _ (by omega), fau_16]
    · rw [k11, upd_n _ _ (by omega), upd_n _ _ (by omega), fau_17, a5, a6]
    · rw [upd_n _ _ (by omega), upd_n _ _ (by omega), fau_n _ _ (by omega) (by omega)]
end Lc
