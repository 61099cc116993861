/-! a line that sets -/
theorem shs : ∀ x : Fin 8, ((nI x.val &&& 31).toBitVec.smod 32).toNat = x.val := by decide
theorem bit_t {b x : Nat} (hb : b < 256) (hx : x < 8) : ((nI b >>> (nI x &&& 31)) &&& 1) = 1 ↔ b.testBit x = true := by
  rw [pk_shrN (by omega) _ x (shs ⟨x, hx⟩), show (1 : Int32) = nI (2 ^ 1 - 1) from rfl, fa_mask, Nat.testBit_eq_decide_div_mod_eq, decide_eq_true_iff]
  constructor
  · intro u
    exact nI_inj (by omega) (by omega) u
  · intro u
    rw [show b / 2 ^ x % 2 ^ 1 = b / 2 ^ x % 2 from rfl, u]
theorem bit_s {b x : Nat} (hx : x < 8) : nI b ||| (1 <<< (nI x &&& 31)) = nI (b ||| 2 ^ x) := by
  have : (1 : Int32) <<< (nI x &&& 31) = nI (1 * 2 ^ x) := pk_shlN (n := 1) _ x (shs ⟨x, hx⟩) (by
    have : 2 ^ x ≤ 2 ^ 7 := Nat.pow_le_pow_right (by omega) (by omega)
    omega)
  rw [this, Nat.one_mul, fa_or]
theorem bit_lt {b x : Nat} (hb : b < 256) (hx : x < 8) : b ||| 2 ^ x < 256 := Nat.or_lt_two_pow (n := 8) hb (Nat.pow_lt_pow_right (by omega) hx)
theorem wip_lt {i : Nat} (hi : i < 8) : wip i < 8 := by
  rcases (show i = 0 ∨ i = 1 ∨ i = 2 ∨ i = 3 ∨ i = 4 ∨ i = 5 ∨ i = 6 ∨ i = 7 by omega) with rfl | rfl | rfl | rfl | rfl | rfl | rfl | rfl <;> decide
theorem wip_inj {i j : Nat} (hi : i < 8) (hj : j < 8) (e : wip i = wip j) : i = j := by
  have : ∀ a b : Fin 8, wip a.val = wip b.val → a.val = b.val := by decide
  exact this ⟨i, hi⟩ ⟨j, hj⟩ e
theorem rng8 {i : Nat} (hi : i < 8) : ∃ lo hh, lo ≤ hh ∧ hh ≤ 3000 ∧ tbv 1 i = nI lo ∧ tbv 2 i = nI hh ∧ (∀ g, p_X10_leastOf g (nI (wip i)) = some (nI lo, g)) ∧ ∀ g, p_X10_mostOf g (nI (wip i)) = some (nI hh, g) := by
  rcases (show i = 0 ∨ i = 1 ∨ i = 2 ∨ i = 3 ∨ i = 4 ∨ i = 5 ∨ i = 6 ∨ i = 7 by omega) with rfl | rfl | rfl | rfl | rfl | rfl | rfl | rfl
  · exact ⟨1, 99, by omega, by omega, rfl, rfl, fun _ => rfl, fun _ => rfl⟩
  · exact ⟨10, 999, by omega, by omega, rfl, rfl, fun _ => rfl, fun _ => rfl⟩
  · exact ⟨50, 3000, by omega, by omega, rfl, rfl, fun _ => rfl, fun _ => rfl⟩
  · exact ⟨1, 4, by omega, by omega, rfl, rfl, fun _ => rfl, fun _ => rfl⟩
  · exact ⟨1, 4, by omega, by omega, rfl, rfl, fun _ => rfl, fun _ => rfl⟩
  · exact ⟨1, 60, by omega, by omega, rfl, rfl, fun _ => rfl, fun _ => rfl⟩
  · exact ⟨0, 3000, by omega, by omega, rfl, rfl, fun _ => rfl, fun _ => rfl⟩
  · exact ⟨0, 1500, by omega, by omega, rfl, rfl, fun _ => rfl, fun _ => rfl⟩
theorem or_bit {b x y : Nat} : (b ||| 2 ^ x).testBit y = (b.testBit y || decide (x = y)) := by
  rw [Nat.testBit_or, Nat.testBit_two_pow]
theorem AL2 {a : Nat → Int32} {l : List Nat} {x : Nat} {o : Nat} (H : AL a 0 l) (ho : l.length = o) : AL (upd a o (nI x)) 0 (l ++ [x]) := by
  have := AL.snoc_u (x := x) H
  rw [Nat.zero_add, ho] at this
  exact this
theorem flat_s (P : List (List Nat)) (l : List Nat) : (P ++ [l]).flatten = P.flatten ++ l := by
  rw [List.flatten_append]
  show P.flatten ++ (l ++ []) = _
  rw [List.append_nil]
theorem flat_ne {P : List (List Nat)} (h1 : P ≠ []) (h2 : ∀ l ∈ P, l ≠ []) : 0 < P.flatten.length := by
  cases P with
  | nil => exact absurd rfl h1
  | cons l P =>
    have := h2 l List.mem_cons_self
    rw [List.flatten_cons, List.length_append]
    cases l with
    | nil => exact absurd rfl this
    | cons a l =>
      rw [List.length_cons]
      omega
theorem ok2_ne {l : List Nat} (h : okC l ∨ okD l) : l ≠ [] := by
  rcases h with ⟨a, b, m, _, _, _, _, e⟩ | ⟨j, v, _, _, _, _, e⟩ <;> rw [e] <;> exact List.cons_ne_nil _ _
section Ls
variable {h X : Hp} {c O Q d T I Z A : Nat → Int32} {ch : Nat → Nat} {len ln p s : Nat} {P1 P2 : List (List Nat)}
/-- the reference's setting, once a fault is there -/
theorem set29_f {j : Nat} (hj : j < 8) (d16 : ¬ d 16 = 0) (hlo : ∃ lo hh, p_X10_leastOf (mH X d T (upd I j 1) Z A) (nI j) = some (lo, mH X d T (upd I j 1) Z A) ∧ p_X10_mostOf (mH X d T (upd I j 1) Z A) (nI j) = some (hh, mH X d T (upd I j 1) Z A)) : ∃ T', q_X10_setting_29 (mH X d T I Z A) 110 (nI j) = some (mH X d T' (upd I j 1) Z A) := by
  obtain ⟨lo, hh, e1, e2⟩ := hlo
  refine ⟨upd T j lo, ?_⟩
  unfold q_X10_setting_29
  simp only [if_pos (show ib (nI j) 8 from ib_n hj (by omega)), nI_clamp (show j < 2 ^ 31 by omega)]
  rw [nv_eq, mH_w3, goOn_1 d16, Option.bind_some, e1, Option.bind_some]
  dsimp +instances only
  rw [e2, Option.bind_some]
  dsimp +instances only
  rw [numeral_1 d16, Option.bind_some]
  dsimp +instances only
  rw [nv_eq, mH_w2]
theorem set_line (hT : ∀ j, j < len → h 2 j = nI (ch j) ∧ ch j ≤ 255) (hT2 : ∀ j, j < len → X 111 j = nI (ch j) ∧ ch j ≤ 255) (hl9 : len ≤ 900) (R : RS len ln p s P1 P2 c O Q d T I Z A) {i : Nat} (hi : i < 8) (c4 : c 4 = 1) (c6 : c 6 = nI i) (d14 : d 14 = 0) (d15 : d 15 = nI (wip i)) : LO h X len ln (p_X3_readLine (cH h c O Q) (0 + 1)) (p_X10_readLine (mH X d T I Z A) 110) (d 22) := by
  obtain ⟨a1, a2, a3, a4, a5, a6, a7, a8, a9, a10, a11, a12, a13, a14, a15, a16, a17, b1, b2, b3, b4, b5, ⟨b, bb, b6, b7⟩, b8, b9, b10, b11, b12, b13, b14, b15, b16, b17⟩ := R
  have sp : s < p := a10 (by rw [c4]; decide)
  have hw := wip_lt hi
  have pC : p_X3_readLine (cH h c O Q) (0 + 1) = Option.bind (p_X3_checkWord (cH h c O Q) (0 + 1) (nI i)) fun r9 => Option.bind (p_X3_put r9 (0 + 1) (nI i)) fun r10 => Option.bind (p_X9_numbersOf r10 (nI i)) fun r11 => lp (b_X3_readLine_36 (0 + 1) (nI i) r11.1) FU (r11.2, 0) := by
    unfold p_X3_readLine
    rw [if_pos (by rw [cH_1]; exact c4), cH_1, c6, nv_eq]
  have pM : p_X10_readLine (mH X d T I Z A) 110 = Option.bind (p_X10_setting (mH X d T I Z A) 110 (nI (wip i))) fun r10 => q_X10_readLine_59 r10 110 := by
    unfold p_X10_readLine
    rw [if_pos (by rw [mH_0]; exact d14), mH_0, d15, if_neg (show ¬ (8 : Int32) ≤ nI (wip i) from nI_ge (b := 8) hw (by omega))]
  rw [pC, pM]
  have fault : ∀ (f : Int32) (c1 : Nat → Int32), ¬ f = 0 → p_X3_checkWord (cH h c O Q) (0 + 1) (nI i) = some (cH h c1 O Q) → c1 10 = f → c1 11 = c 5 → c1 8 = c 8 → p_X10_setting (mH X d T I Z A) 110 (nI (wip i)) = q_X10_setting_29 (mH X (fau d f) T I Z A) 110 (nI (wip i)) → LO h X len ln (Option.bind (p_X3_checkWord (cH h c O Q) (0 + 1) (nI i)) fun r9 => Option.bind (p_X3_put r9 (0 + 1) (nI i)) fun r10 => Option.bind (p_X9_numbersOf r10 (nI i)) fun r11 => lp (b_X3_readLine_36 (0 + 1) (nI i) r11.1) FU (r11.2, 0)) (Option.bind (p_X10_setting (mH X d T I Z A) 110 (nI (wip i))) fun r10 => q_X10_readLine_59 r10 110) (d 22) := fun f c1 fz e1 e2 e3 e4 e5 => by
    obtain ⟨c', O', k1, k2⟩ := cl_f (h := h) (c := c1) (O := O) (Q := Q) (i := i) (by omega) (by rw [e4, b1]) (by omega) (by rw [e2]; exact fz)
    have z16 : ¬ fau d f 16 = 0 := by rw [fau_16]; exact fz
    obtain ⟨lo, hh, _, _, _, _, l1, l2⟩ := rng8 hi
    obtain ⟨T', k3⟩ := set29_f (T := T) (I := I) (Z := Z) (A := A) (X := X) hw z16 ⟨_, _, l1 _, l2 _⟩
    refine Or.inr ⟨c', O', Q, upd (fau d f) 10 (fau d f 10 + 1), T', upd I (wip i) 1, Z, A, ?_, ?_, ?_, ?_, ?_, ?_⟩
    · rw [e1, Option.bind_some, k1]
    · rw [e5, k3, Option.bind_some, q59_f z16]
    · rw [k2 _ (by omega), e2]
      exact fz
    · rw [k2 _ (by omega), e2, upd_n _ _ (by omega), fau_16]
    · rw [k2 _ (by omega), e3, upd_n _ _ (by omega), fau_17, a5, a6]
    · rw [upd_n _ _ (by omega), fau_n _ _ (by omega) (by omega)]
  have i8 : nI i ≤ 8 := nI_le (b := 8) (by omega) (by omega)
  have n8 : ¬ nI i = 8 := fun u => by have := nI_inj (b := 8) (by omega) (by omega) u; omega
  have n9 : ¬ nI i = 9 := fun u => by have := nI_inj (b := 9) (by omega) (by omega) u; omega
  by_cases z2 : P2 = []
  · subst z2
    rw [if_pos rfl] at b5
    have d8 : d 8 ≤ 0 := by
      rw [b3]
      decide
    have cw : ∀ r, (if (((c 12) >>> (nI i &&& 31)) &&& 1) = 1 then (Option.bind (p_X3_refuse (cH h c O Q) (0 + 1) 3) fun r1 => nv (hp r1 (0 + 1) 12 ((r1 (0 + 1) 12) ||| (1 <<< (nI i &&& 31)))) fun h2 => some h2) else (nv (hp (cH h c O Q) (0 + 1) 12 ((c 12) ||| (1 <<< (nI i &&& 31)))) fun h3 => some h3)) = r → p_X3_checkWord (cH h c O Q) (0 + 1) (nI i) = r := fun r e => by
      unfold p_X3_checkWord
      rw [if_pos i8, if_pos (by rw [cH_1]; exact b5)]
      unfold q_X3_checkWord_27
      rw [if_neg n8, if_neg n9]
      unfold q_X3_checkWord_59
      rw [if_neg (by rw [cH_1, b10]; exact nI_nlt (a := 4) b9 (by omega)), if_pos (by rw [cH_1, b14]; exact nI_le (b := 200) b13 (by omega))]
      unfold q_X3_checkWord_82
      rw [if_neg (show ¬ (8 : Int32) ≤ nI i from nI_ge (b := 8) hi (by omega)), cH_1]
      exact e
    have cm : ∀ r, (if I (wip i) = 0 then (q_X10_setting_29 (mH X d T I Z A) 110 (nI (wip i))) else (Option.bind (p_X10_wrong (mH X d T I Z A) 110 3) fun r10 => q_X10_setting_29 r10 110 (nI (wip i)))) = r → p_X10_setting (mH X d T I Z A) 110 (nI (wip i)) = r := fun r e => by
      unfold p_X10_setting
      rw [if_pos (by rw [mH_0]; exact d8)]
      simp only [if_pos (show ib (nI (wip i)) 8 from ib_n hw (by omega)), nI_clamp (show wip i < 2 ^ 31 by omega)]
      rw [mH_3]
      exact e
    by_cases tb : b.testBit i = true
    · refine fault 3 _ (by decide) (cw (some (cH h (upd (upd (upd c 10 3) 11 (c 5)) 12 (c 12 ||| (1 <<< (nI i &&& 31)))) O Q)) ?_) ?_ ?_ ?_ (cm _ ?_)
      · rw [if_pos (by rw [b6]; exact (bit_t bb hi).mpr tb), ref_0 a11, Option.bind_some, cH_1, upd_n _ _ (by omega), upd_n _ _ (by omega), nv_eq, cH_w1]
      · rw [upd_n _ _ (by omega), upd_n _ _ (by omega), upd_s]
      · rw [upd_n _ _ (by omega), upd_s]
      · rw [upd_n _ _ (by omega), upd_n _ _ (by omega), upd_n _ _ (by omega)]
      · rw [b7 i hi, if_pos tb, if_neg one_nz, show p_X10_wrong (mH X d T I Z A) 110 3 = some (mH X (fau d 3) T I Z A) from wrg_0 a12 3, Option.bind_some]
    · obtain ⟨lo, hh, r1, r2, r3, r4, l1, l2⟩ := rng8 hi
      have c1w : cntw i = 1 := by
        rcases (show i = 0 ∨ i = 1 ∨ i = 2 ∨ i = 3 ∨ i = 4 ∨ i = 5 ∨ i = 6 ∨ i = 7 by omega) with rfl | rfl | rfl | rfl | rfl | rfl | rfl | rfl <;> rfl
      have t0 : tbv 0 i = nI i := by
        rcases (show i = 0 ∨ i = 1 ∨ i = 2 ∨ i = 3 ∨ i = 4 ∨ i = 5 ∨ i = 6 ∨ i = 7 by omega) with rfl | rfl | rfl | rfl | rfl | rfl | rfl | rfl <;> rfl
      rw [List.append_nil] at b1 b2 a17
      have hon : P1.flatten.length < 900 := by omega
      obtain ⟨F, hF⟩ : ∃ F, FU = F + 1 + 1 := ⟨FU - 2, by have := FU_gt (k := 2) (by omega); omega⟩
      have eC : (Option.bind (p_X3_checkWord (cH h c O Q) (0 + 1) (nI i)) fun r9 => Option.bind (p_X3_put r9 (0 + 1) (nI i)) fun r10 => Option.bind (p_X9_numbersOf r10 (nI i)) fun r11 => lp (b_X3_readLine_36 (0 + 1) (nI i) r11.1) FU (r11.2, 0)) = Option.bind (p_X3_nextToken (cH h (upd (upd c 12 (nI (b ||| 2 ^ i))) 8 (nI (P1.flatten.length + 1))) (upd O P1.flatten.length (nI i)) Q) (0 + 1)) fun r5 => Option.bind (p_X3_readNumber r5 (0 + 1) (nI i)) fun r7 => lp (b_X3_readLine_36 (0 + 1) (nI i) (nI 1)) (F + 1) (r7, nI 1) := by
        rw [cw (some (cH h (upd c 12 (nI (b ||| 2 ^ i))) O Q)) (by rw [if_neg (by rw [b6]; exact fun u => tb ((bit_t bb hi).mp u)), nv_eq, cH_w1, b6, bit_s hi]), Option.bind_some, cl_go (on := P1.flatten.length) (by omega) (by rw [upd_n _ _ (by omega), b1]) hon, c1w, hF, lstep (r0 := i) (by omega) t0 (by omega) (by omega) (by omega), if_pos (by rw [cH_1, upd_n _ _ (by omega), upd_n _ _ (by omega), a11])]
        rfl
      have eM : (Option.bind (p_X10_setting (mH X d T I Z A) 110 (nI (wip i))) fun r10 => q_X10_readLine_59 r10 110) = Option.bind (p_X10_token (mH X d T (upd I (wip i) 1) Z A) 110) fun g => Option.bind (some g) fun g2 => Option.bind (p_X10_numeral g2 110 (nI lo) (nI hh)) fun r6 => q_X10_readLine_59 (hp r6.2 (110 + 2) (wip i) r6.1) 110 := by
        rw [cm _ rfl, if_pos (by rw [b7 i hi, if_neg tb])]
        unfold q_X10_setting_29
        simp only [if_pos (show ib (nI (wip i)) 8 from ib_n hw (by omega)), nI_clamp (show wip i < 2 ^ 31 by omega)]
        rw [nv_eq, mH_w3, goOn_0 a12]
        cases p_X10_token (mH X d T (upd I (wip i) 1) Z A) 110 with
        | none => rfl
        | some g =>
          simp only [Option.bind_some, l1, l2, nv_eq]
          cases p_X10_numeral g 110 (nI lo) (nI hh) <;> rfl
      rw [eC, eM]
      rcases num_step (h := h) (X := X) (c := upd (upd c 12 (nI (b ||| 2 ^ i))) 8 (nI (P1.flatten.length + 1))) (O := upd O P1.flatten.length (nI i)) (Q := Q) (d := d) (T := T) (I := upd I (wip i) 1) (Z := Z) (A := A) hT hT2 hl9 (by rw [upd_n _ _ (by omega), upd_n _ _ (by omega), a1]) a2 (p0 := p) (on := P1.flatten.length + 1) (r := i) (lo := lo) (hi := hh) a9 (by rw [upd_n _ _ (by omega), upd_n _ _ (by omega), a3]) a4 (by omega) (by omega) r3 r4 (by omega) r1 (by rw [upd_n _ _ (by omega), upd_n _ _ (by omega), a11]) a12 (upd_s _ _ _) (by omega) some (d 6) (d 8) (d 9) T (upd I (wip i) 1) Z A (fun d' hd' => by rw [up3_same (hd' 6 (by omega)) (hd' 8 (by omega)) (hd' 9 (by omega))]) with ⟨a, c2, d1, p1, v1, v2, w1, w2, w3, w4, w5, w6, w7, w8, w9⟩ | ⟨f, c2, O2, d1, fz, w1, w2, w3, w4, w5, w6⟩
      · rw [w1, w2, lend (by omega)]
        have cc : ∀ j, j < 3 ∨ 8 < j → j ≠ 12 → c2 j = c j := fun j hj h12 => by rw [w8 j hj, upd_n _ _ (by omega), upd_n _ _ h12]
        have c12 : c2 12 = nI (b ||| 2 ^ i) := by rw [w8 _ (by omega), upd_n _ _ (by omega), upd_s]
        have dd : ∀ j, j < 12 ∨ 15 < j → d1 j = d j := fun j hj => by rw [w9 j hj, up3_same rfl rfl rfl]
        have ee := end_sim (h := h) (X := X) (c := c2) (O := upd (upd O P1.flatten.length (nI i)) (P1.flatten.length + 1) (nI a)) (Q := Q) (d := d1) (T := T) (I := upd I (wip i) 1) (Z := Z) (A := A) hT hT2 hl9 (by rw [cc _ (by omega) (by omega), a1]) (by rw [dd _ (by omega), a2]) (p0 := p1) (ln := ln) w7 w4 w5 (by rw [cc _ (by omega) (by omega), a11]) (by rw [dd _ (by omega), a12]) (by rw [cc _ (by omega) (by omega), a14]) (by rw [dd _ (by omega), a15]) (fun r => some (hp r (110 + 2) (wip i) (nI a))) (d1 6) (d1 8) (d1 9) (upd T (wip i) (nI a)) (upd I (wip i) 1) Z A (fun d' hd' => by rw [mH_w2, up3_same (hd' 6 (by omega)) (hd' 8 (by omega)) (hd' 9 (by omega))])
        rcases ee with ⟨c3, d3, p2, s2, x1, x2, x3, x4, x5, x6, x7, x8, x9, x10, x11, x12, x13, x14, x15'⟩ | ⟨c3, d3, x1, x2, x3, x4, x5, x6⟩
        · have x16 : ∀ j, j < 12 ∨ 15 < j → j ≠ 10 → d3 j = d1 j := fun j h1 h2 => by rw [x15' j h1 h2, up3_same rfl rfl rfl]
          refine Or.inl ⟨p2, s2, P1 ++ [[i, a]], [], c3, _, Q, d3, _, _, Z, A, x1, x2, ?_, ?_⟩
          · have fl : (P1 ++ [[i, a]] ++ []).flatten = P1.flatten ++ [i, a] := by rw [List.append_nil, flat_s]
            have ll : (P1.flatten ++ [i, a]).length = P1.flatten.length + 1 + 1 := by rw [List.length_append]; rfl
            have nh : ¬ ([i, a] : List Nat).head? = some 8 := fun u => by
              have : i = 8 := Option.some.inj u
              omega
            have h8e : hdl 8 (P1 ++ [[i, a]]) = hdl 8 P1 := by rw [hdl_s, if_neg nh, List.append_nil]
            refine ⟨?_, ?_, x3, x4, x5, x6, x7, x9, x10, x11, ?_, ?_, ?_, x12, x13, ⟨by omega, by have := a16.2; simp only [List.length_append, List.length_cons, List.length_nil] at this ⊢; omega⟩, ?_, ?_, ?_, ?_, ?_, ?_, ⟨b ||| 2 ^ i, bit_lt bb hi, ?_, fun j hj => ?_⟩, fun j hj => ?_, ?_, ?_, ?_, ?_, b13, ?_, ?_, fun l hl => ?_, b17⟩
            · rw [x14 _ (by omega) (by omega), cc _ (by omega) (by omega), a1]
            · rw [x16 _ (by omega) (by omega), dd _ (by omega), a2]
            · rw [x14 _ (by omega) (by omega), cc _ (by omega) (by omega), a11]
            · rw [x16 _ (by omega) (by omega), dd _ (by omega), a12]
            · rw [x14 _ (by omega) (by omega), cc _ (by omega) (by omega), a13]
            · rw [fl, ll]
              omega
            · rw [x14 _ (by omega) (by omega), w3, fl, ll]
            · rw [fl, show P1.flatten ++ [i, a] = P1.flatten ++ [i] ++ [a] by rw [List.append_assoc]; rfl]
              exact AL2 (AL2 b2 rfl) (by rw [List.length_append]; rfl)
            · rw [x16 _ (by omega) (by omega), dd _ (by omega), b3]
            · exact b4
            · rw [x14 _ (by omega) (by omega), cc _ (by omega) (by omega), b5, if_pos rfl]
            · rw [x14 _ (by omega) (by omega), c12]
            · rw [or_bit]
              by_cases e : i = j
              · subst e
                rw [upd_s, decide_eq_true rfl, Bool.or_true, if_pos rfl]
              · rw [upd_n _ _ (fun u => e (wip_inj hj hi u).symm), b7 j hj, decide_eq_false e, Bool.or_false]
            · rw [vset_s]
              by_cases e : i = j
              · subst e
                rw [upd_s, if_pos (show ([i, a] : List Nat).head? = some i from rfl)]
                rfl
              · rw [upd_n _ _ (fun u => e (wip_inj hj hi u).symm), b8 j hj, if_neg (show ¬ ([i, a] : List Nat).head? = some j from fun u => e (Option.some.inj u))]
            · rw [h8e]
              exact b9
            · rw [x14 _ (by omega) (by omega), cc _ (by omega) (by omega), h8e, b10]
            · rw [x16 _ (by omega) (by omega), dd _ (by omega), h8e, b11]
            · rw [h8e]
              exact b12
            · rw [x14 _ (by omega) (by omega), cc _ (by omega) (by omega), b14]
            · rw [x16 _ (by omega) (by omega), dd _ (by omega), b15]
            · rcases List.mem_append.mp hl with u | u
              · exact b16 l u
              · rw [List.mem_singleton.mp u]
                exact Or.inl ⟨i, a, lo, hh, hi, r3, r4, v1, v2, r2, rfl⟩
          · rw [x16 _ (by omega) (by omega), dd _ (by omega)]
        · refine Or.inr ⟨c3, _, Q, d3, _, _, Z, A, x1, x2, ?_, ?_, ?_, ?_⟩
          · rw [x3]
            exact one_nz
          · rw [x3, x4]
          · rw [x5]
          · rw [x6 _ (by omega), up3_same rfl rfl rfl, dd _ (by omega)]
      · have z16 : ¬ d1 16 = 0 := by rw [w5]; exact fz
        rw [w1, w2]
        refine Or.inr ⟨c2, O2, Q, upd d1 10 (d1 10 + 1), upd T (wip i) (nI lo), upd I (wip i) 1, Z, A, ?_, ?_, ?_, ?_, ?_, ?_⟩
        · rw [lend (by omega), q69_f (by rw [w3]; exact fz)]
        · show q_X10_readLine_59 (hp (mH X d1 T (upd I (wip i) 1) Z A) (110 + 2) (wip i) (nI lo)) 110 = _
          rw [mH_w2, q59_f z16]
        · rw [w3]
          exact fz
        · rw [upd_n _ _ (by omega), w5, w3]
        · rw [upd_n _ _ (by omega), w4]
        · rw [upd_n _ _ (by omega), w6 _ (by omega), up3_same rfl rfl rfl]
  · rw [if_neg z2] at b5
    have w : p_X10_wrong (mH X d T I Z A) 110 1 = some (mH X (fau d 1) T I Z A) := wrg_0 a12 1
    refine fault 1 (upd (upd c 10 1) 11 (c 5)) (by decide) ?_ ?_ ?_ ?_ ?_
    · unfold p_X3_checkWord
      rw [if_pos i8, if_neg (by rw [cH_1, b5]; exact one_nz), ref_0 a11, Option.bind_some]
    · rw [upd_n _ _ (by omega), upd_s]
    · rw [upd_s]
    · rw [upd_n _ _ (by omega), upd_n _ _ (by omega)]
    · have hpos := flat_ne z2 (fun l hl => ok2_ne (b17 l hl))
      have hle : P2.flatten.length ≤ s := by
        rw [List.flatten_append, List.length_append] at a17
        omega
      unfold p_X10_setting
      rw [if_neg (by rw [mH_0, b3]; exact nI_nle hpos (by omega)), w, Option.bind_some]
end Ls
