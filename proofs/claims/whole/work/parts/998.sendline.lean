/-! a line that tells a sender: whole -/
section Ly
variable {h X : Hp} {c O Q d T I Z A : Nat → Int32} {ch : Nat → Nat} {len ln p s : Nat} {P1 P2 : List (List Nat)}
def phi5 (v1 a b w x y : Int32) (r : Hp) : Option Hp := if (r 110 16) = 0 then (if ib v1 20 then (nv (hp r (110 + 4) (Int32.toNatClampNeg v1) a) fun h8 => if ib (v1 + 1) 20 then (nv (hp h8 (110 + 4) (Int32.toNatClampNeg (v1 + 1)) b) fun h10 => if ib (v1 + 2) 20 then (nv (hp h10 (110 + 4) (Int32.toNatClampNeg (v1 + 2)) (100 * w)) fun h12 => if ib (v1 + 3) 20 then (nv (hp h12 (110 + 4) (Int32.toNatClampNeg (v1 + 3)) x) fun h14 => if ib (v1 + 4) 20 then (nv (hp h14 (110 + 4) (Int32.toNatClampNeg (v1 + 4)) y) fun h16 => nv (hp h16 110 6 ((h16 110 6) + 1)) fun h17 => some h17) else none) else none) else none) else none) else none) else (some r)
def Z5 (Z : Nat → Int32) (k a b w x y : Nat) : Nat → Int32 := upd (upd (upd (upd (upd Z (5 * k) (nI a)) (5 * k + 1) (nI b)) (5 * k + 2) (nI (100 * w))) (5 * k + 3) (nI x)) (5 * k + 4) (nI y)
theorem phi5_e {sk : Nat} (hsk : sk < 4) (a b w x y : Nat) (d16 : d 16 = 0) (d6 : d 6 = nI sk) : phi5 (nI (5 * sk)) (nI a) (nI b) (nI w) (nI x) (nI y) (mH X d T I Z A) = some (mH X (upd d 6 (nI (sk + 1))) T I (Z5 Z sk a b w x y) A) := by
  unfold phi5
  rw [if_pos (by rw [mH_0]; exact d16), nI_1, show nI (5 * sk) + 2 = nI (5 * sk + 2) from nI_add _ 2, show nI (5 * sk) + 3 = nI (5 * sk + 3) from nI_add _ 3, show nI (5 * sk) + 4 = nI (5 * sk + 4) from nI_add _ 4, show (100 : Int32) * nI w = nI (100 * w) from nI_mul 100 w]
  simp only [if_pos (show ib (nI (5 * sk)) 20 from ib_n (by omega) (by omega)), if_pos (show ib (nI (5 * sk + 1)) 20 from ib_n (by omega) (by omega)), if_pos (show ib (nI (5 * sk + 2)) 20 from ib_n (by omega) (by omega)), if_pos (show ib (nI (5 * sk + 3)) 20 from ib_n (by omega) (by omega)), if_pos (show ib (nI (5 * sk + 4)) 20 from ib_n (by omega) (by omega)), nI_clamp (show 5 * sk < 2 ^ 31 by omega), nI_clamp (show 5 * sk + 1 < 2 ^ 31 by omega), nI_clamp (show 5 * sk + 2 < 2 ^ 31 by omega), nI_clamp (show 5 * sk + 3 < 2 ^ 31 by omega), nI_clamp (show 5 * sk + 4 < 2 ^ 31 by omega), nv_eq, mH_w4, mH_0, d6, nI_1, mH_w0]
  rfl
theorem Z5_n {Z : Nat → Int32} {k a b w x y j : Nat} (hj : j < 5 * k) : Z5 Z k a b w x y j = Z j := by
  unfold Z5
  rw [upd_n _ _ (by omega), upd_n _ _ (by omega), upd_n _ _ (by omega), upd_n _ _ (by omega), upd_n _ _ (by omega)]
theorem send_line (hT : ∀ j, j < len → h 2 j = nI (ch j) ∧ ch j ≤ 255) (hT2 : ∀ j, j < len → X 111 j = nI (ch j) ∧ ch j ≤ 255) (hl9 : len ≤ 900) (R : RS len ln p s P1 P2 c O Q d T I Z A) (c4 : c 4 = 1) (c6 : c 6 = nI 8) (d14 : d 14 = 0) (d15 : d 15 = nI (wip 8)) : LO h X len ln (p_X3_readLine (cH h c O Q) (0 + 1)) (p_X10_readLine (mH X d T I Z A) 110) (d 22) := by
  obtain ⟨a1, a2, a3, a4, a5, a6, a7, a8, a9, a10, a11, a12, a13, a14, a15, a16, a17, b1, b2, b3, b4, b5, ⟨b, bb, b6, b7⟩, b8, b9, b10, b11, b12, b13, b14, b15, b16, b17⟩ := R
  have sp : s < p := a10 (by rw [c4]; decide)
  obtain ⟨sk, hsk⟩ : ∃ sk, sk = (hdl 8 P1).length := ⟨_, rfl⟩
  rw [← hsk] at b9 b10 b11
  have pC : p_X3_readLine (cH h c O Q) (0 + 1) = Option.bind (p_X3_checkWord (cH h c O Q) (0 + 1) (nI 8)) fun r9 => Option.bind (p_X3_put r9 (0 + 1) (nI 8)) fun r10 => Option.bind (p_X9_numbersOf r10 (nI 8)) fun r11 => lp (b_X3_readLine_36 (0 + 1) (nI 8) r11.1) FU (r11.2, 0) := by
    unfold p_X3_readLine
    rw [if_pos (by rw [cH_1]; exact c4), cH_1, c6, nv_eq]
  have pM : p_X10_readLine (mH X d T I Z A) 110 = Option.bind (p_X10_sender (mH X d T I Z A) 110) fun r8 => q_X10_readLine_59 r8 110 := by
    unfold p_X10_readLine
    rw [if_pos (by rw [mH_0]; exact d14), mH_0, d15, show nI (wip 8) = nI 8 from rfl, if_pos (by decide), if_pos (show nI 8 = 8 from rfl)]
  have q28f : ∀ f : Int32, ¬ f = 0 → (Option.bind (q_X10_sender_28 (mH X (fau d f) T I Z A) 110) fun r8 => q_X10_readLine_59 r8 110) = some (mH X (upd (fau d f) 10 (fau d f 10 + 1)) T I Z A) := fun f hf => by
    have z16 : ¬ fau d f 16 = 0 := by rw [fau_16]; exact hf
    unfold q_X10_sender_28
    rw [goOn_1 z16, Option.bind_some, if_neg (by rw [mH_0]; exact z16), Option.bind_some, q59_f z16]
  have fault : ∀ (f : Int32) (c1 : Nat → Int32), ¬ f = 0 → p_X3_checkWord (cH h c O Q) (0 + 1) (nI 8) = some (cH h c1 O Q) → c1 10 = f → c1 11 = c 5 → c1 8 = c 8 → p_X10_sender (mH X d T I Z A) 110 = q_X10_sender_28 (mH X (fau d f) T I Z A) 110 → LO h X len ln (p_X3_readLine (cH h c O Q) (0 + 1)) (p_X10_readLine (mH X d T I Z A) 110) (d 22) := fun f c1 fz e1 e2 e3 e4 e5 => by
    obtain ⟨c', O', k1, k2⟩ := cl_f (h := h) (c := c1) (O := O) (Q := Q) (i := 8) (by omega) (by rw [e4, b1]) (by omega) (by rw [e2]; exact fz)
    refine Or.inr ⟨c', O', Q, upd (fau d f) 10 (fau d f 10 + 1), T, I, Z, A, ?_, ?_, ?_, ?_, ?_, ?_⟩
    · rw [pC, e1, Option.bind_some, k1]
    · rw [pM, e5, q28f f fz]
    · rw [k2 _ (by omega), e2]
      exact fz
    · rw [k2 _ (by omega), e2, upd_n _ _ (by omega), fau_16]
    · rw [k2 _ (by omega), e3, upd_n _ _ (by omega), fau_17, a5, a6]
    · rw [upd_n _ _ (by omega), fau_n _ _ (by omega) (by omega)]
  by_cases z2 : P2 = []
  · subst z2
    rw [if_pos rfl] at b5
    have d8 : d 8 ≤ 0 := by
      rw [b3]
      decide
    have cw : p_X3_checkWord (cH h c O Q) (0 + 1) (nI 8) = if (4 : Int32) < nI (sk + 1) then some (cH h (upd (upd (upd c 14 (nI (sk + 1))) 10 2) 11 (c 5)) O Q) else some (cH h (upd c 14 (nI (sk + 1))) O Q) := by
      unfold p_X3_checkWord
      rw [if_pos (by decide), if_pos (by rw [cH_1]; exact b5)]
      unfold q_X3_checkWord_27
      rw [if_pos (show nI 8 = 8 from rfl), nv_eq, if_neg (by decide), cH_1, b10, nI_1, cH_w1]
      unfold q_X3_checkWord_59
      rw [cH_1, upd_s, upd_n _ _ (by omega), b14, if_pos (show nI (hdl 9 ([] : List (List Nat))).length ≤ 200 from nI_le (b := 200) b13 (by omega))]
      unfold q_X3_checkWord_82
      simp only [if_pos (show (8 : Int32) ≤ nI 8 by decide)]
      rw [ref_0 (by rw [upd_n _ _ (by omega), a11]), Option.bind_some, upd_n _ _ (by omega)]
    have cm : p_X10_sender (mH X d T I Z A) 110 = if nI sk = 4 then q_X10_sender_28 (mH X (fau d 2) T I Z A) 110 else q_X10_sender_28 (mH X d T I Z A) 110 := by
      unfold p_X10_sender
      rw [if_pos (by rw [mH_0]; exact d8), mH_0, b11, show p_X10_wrong (mH X d T I Z A) 110 2 = some (mH X (fau d 2) T I Z A) from wrg_0 a12 2, Option.bind_some]
    by_cases s4 : sk = 4
    · refine fault 2 (upd (upd (upd c 14 (nI (sk + 1))) 10 2) 11 (c 5)) (by decide) ?_ ?_ ?_ ?_ ?_
      · rw [cw, if_pos (show (4 : Int32) < nI (sk + 1) from nI_lt (a := 4) (by omega) (by omega))]
      · rw [upd_n _ _ (by omega), upd_s]
      · rw [upd_s]
      · rw [upd_n _ _ (by omega), upd_n _ _ (by omega), upd_n _ _ (by omega)]
      · rw [cm, if_pos (by rw [s4]; rfl)]
    · rw [List.append_nil] at b1 b2 a17
      obtain ⟨on, hon⟩ : ∃ on, on = P1.flatten.length := ⟨_, rfl⟩
      rw [← hon] at b1 a17
      obtain ⟨F, hF⟩ : ∃ F, FU = F + 1 + 1 + 1 + 1 + 1 + 1 := ⟨FU - 6, by have := FU_gt (k := 6) (by omega); omega⟩
      obtain ⟨C0, hC0⟩ : ∃ C0, C0 = upd (upd c 14 (nI (sk + 1))) 8 (nI (on + 1)) := ⟨_, rfl⟩
      have C0n : ∀ j, j ≠ 8 → j ≠ 14 → C0 j = c j := fun j h1 h2 => by rw [hC0, upd_n _ _ h1, upd_n _ _ h2]
      have C08 : C0 8 = nI (on + 1) := by rw [hC0, upd_s]
      have C014 : C0 14 = nI (sk + 1) := by rw [hC0, upd_n _ _ (by omega), upd_s]
      have eC : p_X3_readLine (cH h c O Q) (0 + 1) = Option.bind (p_X3_nextToken (cH h C0 (upd O on (nI 8)) Q) (0 + 1)) fun r5 => Option.bind (p_X3_readNumber r5 (0 + 1) (nI 8)) fun r7 => lp (b_X3_readLine_36 (0 + 1) (nI 8) (nI 5)) (F + 1 + 1 + 1 + 1 + 1) (r7, nI (0 + 1)) := by
        rw [pC, cw, if_neg (show ¬ (4 : Int32) < nI (sk + 1) from nI_nlt (a := 4) (by omega) (by omega)), Option.bind_some, cl_go (on := on) (by omega) (by rw [upd_n _ _ (by omega), b1]) (by omega), show cntw 8 = 5 from rfl, hF, lstep (r0 := 8) (by omega) rfl (by omega) (by omega) (by omega), ← hC0, if_pos (by rw [cH_1, C0n _ (by omega) (by omega), a11])]
      have eM : p_X10_readLine (mH X d T I Z A) 110 = Option.bind (p_X10_token (mH X d T I Z A) 110) fun g => Option.bind (K28 g) fun r => q_X10_readLine_59 r 110 := by
        rw [pM, cm, if_neg (show ¬ nI sk = 4 from fun u => s4 (nI_inj (b := 4) (by omega) (by omega) u))]
        unfold q_X10_sender_28
        rw [goOn_0 a12]
        cases p_X10_token (mH X d T I Z A) 110 <;> rfl
      rw [eC, eM]
      have lk : ∀ k, k < sk → ∃ l, (hdl 8 P1)[k]? = some l ∧ l.getD 1 0 ≤ 9999 := fun k hk => by
        have hk2 : k < (hdl 8 P1).length := by omega
        refine ⟨_, List.getElem?_eq_getElem hk2, ?_⟩
        have hm : (hdl 8 P1)[k] ∈ hdl 8 P1 := List.getElem_mem hk2
        have hm2 := List.mem_filter.mp hm
        have hh := of_decide_eq_true hm2.2
        rcases b16 _ hm2.1 with ⟨i, v, lo, hi, q1, _, _, _, _, _, q2⟩ | ⟨a, b, w, x, m, q1, _, _, _, _, _, _, _, q2⟩
        · rw [q2] at hh
          have : i = 8 := Option.some.inj hh
          omega
        · rw [q2]
          exact q1
      have lq : ∀ k, k < sk → Q k = nI (((hdl 8 P1).getD k []).getD 1 0) ∧ Z (5 * k) = nI (((hdl 8 P1).getD k []).getD 1 0) ∧ ((hdl 8 P1).getD k []).getD 1 0 < 2 ^ 31 := fun k hk => by
        obtain ⟨l, l1, l2⟩ := lk k hk
        obtain ⟨r1, r2, _⟩ := b12 k l l1
        rw [show (hdl 8 P1).getD k [] = l by rw [List.getD_eq_getElem?_getD, l1]; rfl]
        exact ⟨r1, r2, by omega⟩
      rcases key_step (h := h) (X := X) (c := C0) (O := upd O on (nI 8)) (Q := Q) (d := d) (T := T) (I := I) (Z := Z) (A := A) hT hT2 hl9 (by rw [C0n _ (by omega) (by omega), a1]) a2 (p0 := p) (on := on + 1) (sk := sk) a9 (by rw [C0n _ (by omega) (by omega), a3]) a4 (by rw [C0n _ (by omega) (by omega), a11]) a12 C08 (by omega) (by omega) C014 b11 (fun k => ((hdl 8 P1).getD k []).getD 1 0) (fun k hk => ⟨(lq k hk).1, (lq k hk).2.2⟩) (fun k hk => ⟨(lq k hk).2.1, (lq k hk).2.2⟩) with ⟨n0, c_0, d_0, p_0, v0, w0_1, w0_2, w0_3, w0_4, w0_5, w0_6, w0_7, w0_8, w0_9⟩ | ⟨f, c2, O2, Q2, d1, fz, w1, w2, w3, w4, w5, w6⟩
      · rw [w0_1, w0_2]
        have cn0 : ∀ j, 8 < j → j ≠ 14 → c_0 j = c j := fun j h1 h2 => by rw [w0_8 _ (by omega), C0n _ (by omega) h2]
        have cl0 : c_0 2 = nI len := by rw [w0_8 _ (by omega), C0n _ (by omega) (by omega), a1]
        have ck0 : c_0 14 = nI (sk + 1) := by rw [w0_8 _ (by omega), C014]
        have dn0 : ∀ j, j < 12 ∨ 15 < j → d_0 j = d j := w0_9
        rw [lstep (r0 := 8) (j := 0 + 1) (by omega) rfl (by omega) (by omega) (by omega), if_pos (by rw [cH_1, cn0 _ (by omega) (by omega), a11])]
        have sh1 : (fun r2 => S1 (nI (5 * sk)) (nI n0, r2)) = fun g => Option.bind (some g) fun g2 => Option.bind (p_X10_numeral g2 110 (nI 1) (nI 1500)) (S2 (nI (5 * sk)) (nI n0)) := rfl
        rw [sh1]
        rcases num_step (h := h) (X := X) (c := c_0) (O := upd (upd O on (nI 8)) (on + 1) (nI n0)) (Q := (upd Q sk (nI n0))) (d := d_0) (T := T) (I := I) (Z := Z) (A := A) hT hT2 hl9 cl0 (by rw [dn0 _ (by omega), a2]) (p0 := p_0) (on := on + 1 + 1) (r := 8 + (0 + 1)) (lo := 1) (hi := 1500) w0_7 w0_4 w0_5 (by omega) (by omega) rfl rfl (by omega) (by omega) (by rw [cn0 _ (by omega) (by omega), a11]) (by rw [dn0 _ (by omega), a12]) w0_3 (by omega) some (d_0 6) (d_0 8) (d_0 9) T I Z A (fun d' hd' => by rw [up3_same (hd' 6 (by omega)) (hd' 8 (by omega)) (hd' 9 (by omega))]) with ⟨n1, c_1, d_1, p_1, lo1, hi1, w1_1, w1_2, w1_3, w1_4, w1_5, w1_6, w1_7, w1_8, w1_9⟩ | ⟨f, g2, O2, e1, fz, w1, w2, w3, w4, w5, w6⟩
        · rw [w1_1, w1_2]
          have cn1 : ∀ j, 8 < j → j ≠ 14 → c_1 j = c j := fun j h1 h2 => by rw [w1_8 _ (by omega), cn0 _ h1 h2]
          have cl1 : c_1 2 = nI len := by rw [w1_8 _ (by omega), cl0]
          have ck1 : c_1 14 = nI (sk + 1) := by rw [w1_8 _ (by omega), ck0]
          have dn1 : ∀ j, j < 12 ∨ 15 < j → d_1 j = d j := fun j hj => by rw [w1_9 j hj, up3_same rfl rfl rfl, dn0 _ hj]
          rw [lstep (r0 := 8) (j := 0 + 1 + 1) (by omega) rfl (by omega) (by omega) (by omega), if_pos (by rw [cH_1, cn1 _ (by omega) (by omega), a11])]
          have sh2 : (fun r2 => S2 (nI (5 * sk)) (nI n0) (nI n1, r2)) = fun g => Option.bind (some g) fun g2 => Option.bind (p_X10_numeral g2 110 (nI 1) (nI 20)) (S3 (nI (5 * sk)) (nI n0) (nI n1)) := rfl
          rw [sh2]
          rcases num_step (h := h) (X := X) (c := c_1) (O := upd (upd (upd O on (nI 8)) (on + 1) (nI n0)) (on + 1 + 1) (nI n1)) (Q := (upd Q sk (nI n0))) (d := d_1) (T := T) (I := I) (Z := Z) (A := A) hT hT2 hl9 cl1 (by rw [dn1 _ (by omega), a2]) (p0 := p_1) (on := on + 1 + 1 + 1) (r := 8 + (0 + 1 + 1)) (lo := 1) (hi := 20) w1_7 w1_4 w1_5 (by omega) (by omega) rfl rfl (by omega) (by omega) (by rw [cn1 _ (by omega) (by omega), a11]) (by rw [dn1 _ (by omega), a12]) w1_3 (by omega) some (d_1 6) (d_1 8) (d_1 9) T I Z A (fun d' hd' => by rw [up3_same (hd' 6 (by omega)) (hd' 8 (by omega)) (hd' 9 (by omega))]) with ⟨n2, c_2, d_2, p_2, lo2, hi2, w2_1, w2_2, w2_3, w2_4, w2_5, w2_6, w2_7, w2_8, w2_9⟩ | ⟨f, g2, O2, e1, fz, w1, w2, w3, w4, w5, w6⟩
          · rw [w2_1, w2_2]
            have cn2 : ∀ j, 8 < j → j ≠ 14 → c_2 j = c j := fun j h1 h2 => by rw [w2_8 _ (by omega), cn1 _ h1 h2]
            have cl2 : c_2 2 = nI len := by rw [w2_8 _ (by omega), cl1]
            have ck2 : c_2 14 = nI (sk + 1) := by rw [w2_8 _ (by omega), ck1]
            have dn2 : ∀ j, j < 12 ∨ 15 < j → d_2 j = d j := fun j hj => by rw [w2_9 j hj, up3_same rfl rfl rfl, dn1 _ hj]
            rw [lstep (r0 := 8) (j := 0 + 1 + 1 + 1) (by omega) rfl (by omega) (by omega) (by omega), if_pos (by rw [cH_1, cn2 _ (by omega) (by omega), a11])]
            have sh3 : (fun r2 => S3 (nI (5 * sk)) (nI n0) (nI n1) (nI n2, r2)) = fun g => Option.bind (some g) fun g2 => Option.bind (p_X10_numeral g2 110 (nI 1) (nI 99)) (S4 (nI (5 * sk)) (nI n0) (nI n1) (nI n2)) := rfl
            rw [sh3]
            rcases num_step (h := h) (X := X) (c := c_2) (O := upd (upd (upd (upd O on (nI 8)) (on + 1) (nI n0)) (on + 1 + 1) (nI n1)) (on + 1 + 1 + 1) (nI n2)) (Q := (upd Q sk (nI n0))) (d := d_2) (T := T) (I := I) (Z := Z) (A := A) hT hT2 hl9 cl2 (by rw [dn2 _ (by omega), a2]) (p0 := p_2) (on := on + 1 + 1 + 1 + 1) (r := 8 + (0 + 1 + 1 + 1)) (lo := 1) (hi := 99) w2_7 w2_4 w2_5 (by omega) (by omega) rfl rfl (by omega) (by omega) (by rw [cn2 _ (by omega) (by omega), a11]) (by rw [dn2 _ (by omega), a12]) w2_3 (by omega) some (d_2 6) (d_2 8) (d_2 9) T I Z A (fun d' hd' => by rw [up3_same (hd' 6 (by omega)) (hd' 8 (by omega)) (hd' 9 (by omega))]) with ⟨n3, c_3, d_3, p_3, lo3, hi3, w3_1, w3_2, w3_3, w3_4, w3_5, w3_6, w3_7, w3_8, w3_9⟩ | ⟨f, g2, O2, e1, fz, w1, w2, w3, w4, w5, w6⟩
            · rw [w3_1, w3_2]
              have cn3 : ∀ j, 8 < j → j ≠ 14 → c_3 j = c j := fun j h1 h2 => by rw [w3_8 _ (by omega), cn2 _ h1 h2]
              have cl3 : c_3 2 = nI len := by rw [w3_8 _ (by omega), cl2]
              have ck3 : c_3 14 = nI (sk + 1) := by rw [w3_8 _ (by omega), ck2]
              have dn3 : ∀ j, j < 12 ∨ 15 < j → d_3 j = d j := fun j hj => by rw [w3_9 j hj, up3_same rfl rfl rfl, dn2 _ hj]
              rw [lstep (r0 := 8) (j := 0 + 1 + 1 + 1 + 1) (by omega) rfl (by omega) (by omega) (by omega), if_pos (by rw [cH_1, cn3 _ (by omega) (by omega), a11])]
              have sh4 : (fun r2 => S4 (nI (5 * sk)) (nI n0) (nI n1) (nI n2) (nI n3, r2)) = fun g => Option.bind (some g) fun g2 => Option.bind (p_X10_numeral g2 110 (nI 0) (nI 1)) (W5 (nI (5 * sk)) (nI n0) (nI n1) (nI n2) (nI n3)) := rfl
              rw [sh4]
              rcases num_step (h := h) (X := X) (c := c_3) (O := upd (upd (upd (upd (upd O on (nI 8)) (on + 1) (nI n0)) (on + 1 + 1) (nI n1)) (on + 1 + 1 + 1) (nI n2)) (on + 1 + 1 + 1 + 1) (nI n3)) (Q := (upd Q sk (nI n0))) (d := d_3) (T := T) (I := I) (Z := Z) (A := A) hT hT2 hl9 cl3 (by rw [dn3 _ (by omega), a2]) (p0 := p_3) (on := on + 1 + 1 + 1 + 1 + 1) (r := 8 + (0 + 1 + 1 + 1 + 1)) (lo := 0) (hi := 1) w3_7 w3_4 w3_5 (by omega) (by omega) rfl rfl (by omega) (by omega) (by rw [cn3 _ (by omega) (by omega), a11]) (by rw [dn3 _ (by omega), a12]) w3_3 (by omega) some (d_3 6) (d_3 8) (d_3 9) T I Z A (fun d' hd' => by rw [up3_same (hd' 6 (by omega)) (hd' 8 (by omega)) (hd' 9 (by omega))]) with ⟨n4, c_4, d_4, p_4, lo4, hi4, w4_1, w4_2, w4_3, w4_4, w4_5, w4_6, w4_7, w4_8, w4_9⟩ | ⟨f, g2, O2, e1, fz, w1, w2, w3, w4, w5, w6⟩
              · rw [w4_1, w4_2]
                have cn4 : ∀ j, 8 < j → j ≠ 14 → c_4 j = c j := fun j h1 h2 => by rw [w4_8 _ (by omega), cn3 _ h1 h2]
                have cl4 : c_4 2 = nI len := by rw [w4_8 _ (by omega), cl3]
                have ck4 : c_4 14 = nI (sk + 1) := by rw [w4_8 _ (by omega), ck3]
                have dn4 : ∀ j, j < 12 ∨ 15 < j → d_4 j = d j := fun j hj => by rw [w4_9 j hj, up3_same rfl rfl rfl, dn3 _ hj]
                rw [show nI (0 + 1 + 1 + 1 + 1 + 1) = nI 5 from rfl, lend (by omega)]
                have sh5 : (fun r2 => W5 (nI (5 * sk)) (nI n0) (nI n1) (nI n2) (nI n3) (nI n4, r2)) = fun r => Option.bind (phi5 (nI (5 * sk)) (nI n0) (nI n1) (nI n2) (nI n3) (nI n4) r) fun g2 => q_X10_readLine_59 g2 110 := rfl
                rw [sh5]
                rcases end_sim (h := h) (X := X) (c := c_4) (O := upd (upd (upd (upd (upd (upd O on (nI 8)) (on + 1) (nI n0)) (on + 1 + 1) (nI n1)) (on + 1 + 1 + 1) (nI n2)) (on + 1 + 1 + 1 + 1) (nI n3)) (on + 1 + 1 + 1 + 1 + 1) (nI n4)) (Q := (upd Q sk (nI n0))) (d := d_4) (T := T) (I := I) (Z := Z) (A := A) hT hT2 hl9 cl4 (by rw [dn4 _ (by omega), a2]) (p0 := p_4) (ln := ln) w4_7 w4_4 w4_5 (by rw [cn4 _ (by omega) (by omega), a11]) (by rw [dn4 _ (by omega), a12]) (by rw [cn4 _ (by omega) (by omega), a14]) (by rw [dn4 _ (by omega), a15]) (fun r => phi5 (nI (5 * sk)) (nI n0) (nI n1) (nI n2) (nI n3) (nI n4) r) (nI (sk + 1)) (d 8) (d 9) T I (Z5 Z sk n0 n1 n2 n3 n4) A (fun d' hd' => by
                    show phi5 (nI (5 * sk)) (nI n0) (nI n1) (nI n2) (nI n3) (nI n4) (mH X d' T I Z A) = _
                    rw [phi5_e (sk := sk) (by omega) _ _ _ _ _ (by rw [hd' _ (by omega), dn4 _ (by omega), a12]) (by rw [hd' _ (by omega), dn4 _ (by omega), b11]), up3_u6 _ (by rw [hd' 8 (by omega), dn4 _ (by omega)]) (by rw [hd' 9 (by omega), dn4 _ (by omega)])]) with ⟨c7, d7, p4, s5, x1, x2, x3, x4, x5, x6, x7, x8, x9, x10, x11, x12, x13, x14, x15⟩ | ⟨c7, d7, x1, x2, x3, x4, x5, x6⟩
                · have fl : (P1 ++ [[8, n0, n1, n2, n3, n4]] ++ []).flatten = P1.flatten ++ [8, n0, n1, n2, n3, n4] := by rw [List.append_nil, flat_s]
                  have l2 : (P1.flatten ++ [8, n0, n1, n2, n3, n4]).length = on + 1 + 1 + 1 + 1 + 1 + 1 := by rw [List.length_append, ← hon]; rfl
                  have h8e : hdl 8 (P1 ++ [[8, n0, n1, n2, n3, n4]]) = hdl 8 P1 ++ [[8, n0, n1, n2, n3, n4]] := by rw [hdl_s, if_pos (show ([8, n0, n1, n2, n3, n4] : List Nat).head? = some 8 from rfl)]
                  have h8l : (hdl 8 (P1 ++ [[8, n0, n1, n2, n3, n4]])).length = sk + 1 := by rw [h8e, List.length_append, ← hsk]; rfl
                  have d7n : ∀ j, j < 12 ∨ 15 < j → j ≠ 10 → j ≠ 6 → d7 j = d j := fun j h1 h2 h3 => by
                    rw [x15 j h1 h2]
                    by_cases v8 : j = 8
                    · rw [v8, up3_8]
                    · by_cases v9 : j = 9
                      · rw [v9, up3_9]
                      · rw [up3_n _ _ _ _ h3 v8 v9, dn4 _ h1]
                  have al : AL (upd (upd (upd (upd (upd (upd O on (nI 8)) (on + 1) (nI n0)) (on + 1 + 1) (nI n1)) (on + 1 + 1 + 1) (nI n2)) (on + 1 + 1 + 1 + 1) (nI n3)) (on + 1 + 1 + 1 + 1 + 1) (nI n4)) 0 (P1.flatten ++ [8, n0, n1, n2, n3, n4]) := by
                    have := (AL2 (x := n4) (AL2 (x := n3) (AL2 (x := n2) (AL2 (x := n1) (AL2 (x := n0) (AL2 (x := 8) b2 hon.symm) (o := on + 1) (by simp only [List.length_append, ← hon]; rfl)) (o := on + 1 + 1) (by simp only [List.length_append, ← hon]; rfl)) (o := on + 1 + 1 + 1) (by simp only [List.length_append, ← hon]; rfl)) (o := on + 1 + 1 + 1 + 1) (by simp only [List.length_append, ← hon]; rfl)) (o := on + 1 + 1 + 1 + 1 + 1) (by simp only [List.length_append, ← hon]; rfl))
                    rw [show P1.flatten ++ [8, n0, n1, n2, n3, n4] = P1.flatten ++ [8] ++ [n0] ++ [n1] ++ [n2] ++ [n3] ++ [n4] by simp only [List.append_assoc]; rfl]
                    exact this
                  refine Or.inl ⟨p4, s5, P1 ++ [[8, n0, n1, n2, n3, n4]], [], c7, _, _, d7, _, _, _, A, x1, x2, ⟨?_, ?_, x3, x4, x5, x6, x7, x9, x10, x11, ?_, ?_, ?_, x12, x13, ⟨by omega, by have := a16.2; simp only [List.length_append, List.length_cons, List.length_nil] at this ⊢; omega⟩, ?_, ?_, ?_, ?_, b4, ?_, ⟨b, bb, ?_, b7⟩, fun j hj => ?_, ?_, ?_, ?_, fun k l hkl => ?_, b13, ?_, ?_, fun l hl => ?_, b17⟩, ?_⟩
                  · rw [x14 _ (by omega) (by omega), cl4]
                  · rw [d7n _ (by omega) (by omega) (by omega), a2]
                  · rw [x14 _ (by omega) (by omega), cn4 _ (by omega) (by omega), a11]
                  · rw [d7n _ (by omega) (by omega) (by omega), a12]
                  · rw [x14 _ (by omega) (by omega), cn4 _ (by omega) (by omega), a13]
                  · rw [fl, l2]
                    omega
                  · rw [x14 _ (by omega) (by omega), w4_3, fl, l2]
                  · rw [fl]
                    exact al
                  · rw [d7n _ (by omega) (by omega) (by omega), b3]
                  · rw [x14 _ (by omega) (by omega), cn4 _ (by omega) (by omega), b5, if_pos rfl]
                  · rw [x14 _ (by omega) (by omega), cn4 _ (by omega) (by omega), b6]
                  · rw [vset_s, if_neg (show ¬ ([8, n0, n1, n2, n3, n4] : List Nat).head? = some j from fun u => by have : 8 = j := Option.some.inj u; omega), b8 j hj]
                  · rw [h8l]
                    omega
                  · rw [x14 _ (by omega) (by omega), ck4, h8l]
                  · rw [x15 _ (by omega) (by omega), up3_6, h8l]
                  · rw [h8e] at hkl
                    by_cases u : k < sk
                    · rw [List.getElem?_append_left (by omega)] at hkl
                      obtain ⟨r1, r2, r3, r4, r5, r6⟩ := b12 k l hkl
                      exact ⟨by rw [upd_n _ _ (by omega), r1], by rw [Z5_n (by omega), r2], by rw [Z5_n (by omega), r3], by rw [Z5_n (by omega), r4], by rw [Z5_n (by omega), r5], by rw [Z5_n (by omega), r6]⟩
                    · rw [List.getElem?_append_right (by omega)] at hkl
                      have hk0 : k = sk := by
                        have := (List.getElem?_eq_some_iff.mp hkl).1
                        rw [List.length_singleton] at this
                        omega
                      subst hk0
                      rw [← hsk, Nat.sub_self] at hkl
                      have hl : l = [8, n0, n1, n2, n3, n4] := (Option.some.inj hkl).symm
                      subst hl
                      refine ⟨by rw [upd_s]; rfl, ?_, ?_, ?_, ?_, ?_⟩
                      · unfold Z5
                        rw [upd_n _ _ (by omega), upd_n _ _ (by omega), upd_n _ _ (by omega), upd_n _ _ (by omega), upd_s]
                        rfl
                      · unfold Z5
                        rw [upd_n _ _ (by omega), upd_n _ _ (by omega), upd_n _ _ (by omega), upd_s]
                        rfl
                      · unfold Z5
                        rw [upd_n _ _ (by omega), upd_n _ _ (by omega), upd_s]
                        rfl
                      · unfold Z5
                        rw [upd_n _ _ (by omega), upd_s]
                        rfl
                      · unfold Z5
                        rw [upd_s]
                        rfl
                  · rw [x14 _ (by omega) (by omega), cn4 _ (by omega) (by omega), b14]
                  · rw [d7n _ (by omega) (by omega) (by omega), b15]
                  · rcases List.mem_append.mp hl with u | u
                    · exact b16 l u
                    · rw [List.mem_singleton.mp u]
                      exact Or.inr ⟨n0, n1, n2, n3, n4, v0, lo1, hi1, lo2, hi2, lo3, hi3, hi4, rfl⟩
                  · rw [d7n _ (by omega) (by omega) (by omega)]
                · refine Or.inr ⟨c7, _, _, d7, _, _, _, A, x1, x2, ?_, ?_, ?_, ?_⟩
                  · rw [x3]
                    exact one_nz
                  · rw [x3, x4]
                  · rw [x5]
                  · rw [x6 _ (by omega), up3_n _ _ _ _ (by omega) (by omega) (by omega), dn4 _ (by omega)]
              · have z16 : ¬ e1 16 = 0 := by rw [w5]; exact fz
                rw [w1, w2]
                refine Or.inr ⟨g2, O2, (upd Q sk (nI n0)), upd e1 10 (e1 10 + 1), T, I, Z, A, ?_, W5_f _ _ _ _ _ _ z16, ?_, ?_, ?_, ?_⟩
                · exact lp_f (r0 := 8) (by omega) rfl (by omega) (by omega) (by omega) (by rw [w3]; exact fz)
                · rw [w3]
                  exact fz
                · rw [upd_n _ _ (by omega), w5, w3]
                · rw [upd_n _ _ (by omega), w4]
                · rw [upd_n _ _ (by omega), w6 _ (by omega), up3_same rfl rfl rfl, dn3 _ (by omega)]
            · have z16 : ¬ e1 16 = 0 := by rw [w5]; exact fz
              rw [w1, w2]
              refine Or.inr ⟨g2, O2, (upd Q sk (nI n0)), upd e1 10 (e1 10 + 1), T, I, Z, A, ?_, S4_f _ _ _ _ _ z16, ?_, ?_, ?_, ?_⟩
              · exact lp_f (r0 := 8) (by omega) rfl (by omega) (by omega) (by omega) (by rw [w3]; exact fz)
              · rw [w3]
                exact fz
              · rw [upd_n _ _ (by omega), w5, w3]
              · rw [upd_n _ _ (by omega), w4]
              · rw [upd_n _ _ (by omega), w6 _ (by omega), up3_same rfl rfl rfl, dn2 _ (by omega)]
          · have z16 : ¬ e1 16 = 0 := by rw [w5]; exact fz
            rw [w1, w2]
            refine Or.inr ⟨g2, O2, (upd Q sk (nI n0)), upd e1 10 (e1 10 + 1), T, I, Z, A, ?_, S3_f _ _ _ _ z16, ?_, ?_, ?_, ?_⟩
            · exact lp_f (r0 := 8) (by omega) rfl (by omega) (by omega) (by omega) (by rw [w3]; exact fz)
            · rw [w3]
              exact fz
            · rw [upd_n _ _ (by omega), w5, w3]
            · rw [upd_n _ _ (by omega), w4]
            · rw [upd_n _ _ (by omega), w6 _ (by omega), up3_same rfl rfl rfl, dn1 _ (by omega)]
        · have z16 : ¬ e1 16 = 0 := by rw [w5]; exact fz
          rw [w1, w2]
          refine Or.inr ⟨g2, O2, (upd Q sk (nI n0)), upd e1 10 (e1 10 + 1), T, I, Z, A, ?_, S2_f _ _ _ z16, ?_, ?_, ?_, ?_⟩
          · exact lp_f (r0 := 8) (by omega) rfl (by omega) (by omega) (by omega) (by rw [w3]; exact fz)
          · rw [w3]
            exact fz
          · rw [upd_n _ _ (by omega), w5, w3]
          · rw [upd_n _ _ (by omega), w4]
          · rw [upd_n _ _ (by omega), w6 _ (by omega), up3_same rfl rfl rfl, dn0 _ (by omega)]
      · rw [w1, w2]
        refine Or.inr ⟨c2, O2, Q2, d1, T, I, Z, A, ?_, rfl, ?_, ?_, ?_, ?_⟩
        · exact lp_f (r0 := 8) (by omega) rfl (by omega) (by omega) (by omega) (by rw [w3]; exact fz)
        · rw [w3]
          exact fz
        · rw [w5, w3]
        · rw [w4]
        · rw [w6]
  · rw [if_neg z2] at b5
    have w : p_X10_wrong (mH X d T I Z A) 110 1 = some (mH X (fau d 1) T I Z A) := wrg_0 a12 1
    refine fault 1 (upd (upd c 10 1) 11 (c 5)) (by decide) ?_ ?_ ?_ ?_ ?_
    · unfold p_X3_checkWord
      rw [if_pos (by decide), if_neg (by rw [cH_1, b5]; exact one_nz), ref_0 a11, Option.bind_some]
    · rw [upd_n _ _ (by omega), upd_s]
    · rw [upd_s]
    · rw [upd_n _ _ (by omega), upd_n _ _ (by omega)]
    · have hpos := flat_ne z2 (fun l hl => ok2_ne (b17 l hl))
      have hle : P2.flatten.length ≤ s := by
        rw [List.flatten_append, List.length_append] at a17
        omega
      unfold p_X10_sender
      rw [if_neg (by rw [mH_0, b3]; exact nI_nle hpos (by omega)), w, Option.bind_some]
end Ly
