/-! a token, on both sides -/
section To
variable {h X : Hp} {c O Q d T I Z A : Nat → Int32} {ch : Nat → Nat} {len s : Nat}
theorem wrd_sim (hT : ∀ j, j < len → h 2 j = nI (ch j) ∧ ch j ≤ 255) (hT2 : ∀ j, j < len → X 111 j = nI (ch j) ∧ ch j ≤ 255) (hl9 : len ≤ 900) (c2 : c 2 = nI len) (d11 : d 11 = nI len) {nl : Nat} (hsn : s + nl ≤ len) (hd : ∀ q, q < nl → ltr (ch (s + q))) (hnd : s + nl < len → ¬ ltr (ch (s + nl))) (k v k' v' : Int32) : ∃ kk vv kk' vv', p_X3_scanWord (cH h (ct c (nI s) k (nI s) v) O Q) (0 + 1) = some (cH h (ct c (nI (s + nl)) kk (nI s) vv) O Q) ∧ lp (b_X10_token_64 110) FU (mH X (md d (nI s) (nI s) k' v') T I Z A) = some (mH X (md d (nI (s + nl)) (nI s) kk' vv') T I Z A) ∧ tkr kk vv kk' vv' ∧ ¬ kk = 0 := by
  have C : p_X3_scanWord (cH h (ct c (nI s) k (nI s) v) O Q) (0 + 1) = lp (b_X3_scanWord_46 (0 + 1)) FU (cH h (ct c (nI (s + nl)) 4 (nI s) v) O Q, 0) := by
    unfold p_X3_scanWord
    have := lp_fo (b := b_X3_scanWord_0 (0 + 1)) (fun i => cH h (ct c (nI (s + i)) k (nI s) v) O Q) nl (lp (b_X3_scanWord_46 (0 + 1)) FU (cH h (ct c (nI (s + nl)) 4 (nI s) v) O Q, 0)) (fun K i hi => by
      have hch := (hT (s + i) (by omega)).2
      obtain ⟨g, hg⟩ : ∃ g, g = cH h (ct c (nI (s + i)) k (nI s) v) O Q := ⟨_, rfl⟩
      have g1 : g (0 + 1) = ct c (nI (s + i)) k (nI s) v := by rw [hg, cH_1]
      have g2 : g (0 + 1 + 1) (s + i) = nI (ch (s + i)) := by rw [hg, cH_2, (hT _ (by omega)).1]
      rw [← hg]
      unfold b_X3_scanWord_0
      rw [g1, ct_n _ _ _ _ _ (by omega), c2, ct_3, if_neg (nI_ge (by omega) (by omega))]
      simp only [if_pos (show ib (nI (s + i)) 900 from ib_n (by omega) (by omega)), nI_clamp (show s + i < 2 ^ 31 by omega)]
      rw [g2, (ltrC g hch).1 (hd i hi), Option.bind_some]
      dsimp +instances only
      rw [if_neg one_nz, g1, ct_3, nv_eq, hg, cH_w1, ct_u3, nI_1, Nat.add_assoc]) (fun K => by
      obtain ⟨g, hg⟩ : ∃ g, g = cH h (ct c (nI (s + nl)) k (nI s) v) O Q := ⟨_, rfl⟩
      have g1 : g (0 + 1) = ct c (nI (s + nl)) k (nI s) v := by rw [hg, cH_1]
      have g4 : hp g (0 + 1) 4 4 = cH h (ct c (nI (s + nl)) 4 (nI s) v) O Q := by rw [hg, cH_w1, ct_u4]
      rw [← hg]
      unfold b_X3_scanWord_0
      rw [g1, ct_n _ _ _ _ _ (by omega), c2, ct_3]
      by_cases u : s + nl < len
      · have g2 : g (0 + 1 + 1) (s + nl) = nI (ch (s + nl)) := by rw [hg, cH_2, (hT _ u).1]
        rw [if_neg (nI_ge u (by omega))]
        simp only [if_pos (show ib (nI (s + nl)) 900 from ib_n (by omega) (by omega)), nI_clamp (show s + nl < 2 ^ 31 by omega)]
        rw [g2, (ltrC g (hT _ u).2).2 (hnd u), Option.bind_some]
        dsimp +instances only
        rw [if_pos rfl, nv_eq, g4]
      · rw [if_pos (nI_le (by omega) (by omega)), nv_eq, g4]) nl 0 FU (by omega) (FU_gt (by omega))
    exact this
  have Mm : ∀ r : Int32, p_X10_wordHere (mH X (md d (nI (s + nl)) (nI s) k' v') T I Z A) 110 = some (r, mH X (md d (nI (s + nl)) (nI s) k' v') T I Z A) → lp (b_X10_token_64 110) FU (mH X (md d (nI s) (nI s) k' v') T I Z A) = some (mH X (md d (nI (s + nl)) (nI s) (if r = -1 then 4 else 0) r) T I Z A) := fun r hr => by
    have := lp_fo (b := b_X10_token_64 110) (fun i => mH X (md d (nI (s + i)) (nI s) k' v') T I Z A) nl (some (mH X (md d (nI (s + nl)) (nI s) (if r = -1 then 4 else 0) r) T I Z A)) (fun K i hi => by
      have hch := (hT2 (s + i) (by omega)).2
      have hh := here_m (T := T) (I := I) (Z := Z) (A := A) hT2 hl9 d11 (p := s + i) (by omega) (nI s) k' v'
      rw [if_pos (by omega)] at hh
      unfold b_X10_token_64
      rw [hh, Option.bind_some]
      dsimp +instances only
      rw [(ltrM _ hch).1 (hd i hi), Option.bind_some]
      dsimp +instances only
      rw [if_neg one_nz, mH_0, md_12, nv_eq, mH_w0, md_u12, nI_1, Nat.add_assoc]) (fun K => by
      have hh := here_m (T := T) (I := I) (Z := Z) (A := A) hT2 hl9 d11 (p := s + nl) hsn (nI s) k' v'
      have fin : (Option.bind (p_X10_wordHere (mH X (md d (nI (s + nl)) (nI s) k' v') T I Z A) 110) fun r10 => nv (hp r10.2 110 15 r10.1) fun h11 => if (h11 110 15) = (-1) then (nv (hp h11 110 14 4) fun h12 => some h12) else (nv (hp h11 110 14 0) fun h13 => some h13)) = some (mH X (md d (nI (s + nl)) (nI s) (if r = -1 then 4 else 0) r) T I Z A) := by
        rw [hr, Option.bind_some]
        dsimp +instances only
        rw [nv_eq, mH_w0, md_u15, mH_0, md_15, nv_eq, nv_eq, mH_w0, mH_w0, md_u14, md_u14]
        by_cases z : r = -1
        · rw [if_pos z, if_pos z]
        · rw [if_neg z, if_neg z]
      unfold b_X10_token_64
      rw [hh, Option.bind_some]
      dsimp +instances only
      by_cases u : s + nl < len
      · rw [if_pos u, (ltrM _ (hT2 _ u).2).2 (hnd u), Option.bind_some]
        dsimp +instances only
        rw [if_pos rfl]
        exact fin
      · rw [if_neg u, ltrM1, Option.bind_some]
        dsimp +instances only
        rw [if_pos rfl]
        exact fin) nl 0 FU (by omega) (FU_gt (by omega))
    exact this
  rw [C]
  rcases word_sim (h := h) (X := X) (c := ct c (nI (s + nl)) 4 (nI s) v) (O := O) (Q := Q) (d := md d (nI (s + nl)) (nI s) k' v') (T := T) (I := I) (Z := Z) (A := A) hT hT2 hl9 rfl rfl rfl rfl rfl hsn with ⟨i, hi, e1, e2⟩ | ⟨e1, e2⟩
  · refine ⟨1, nI i, 0, nI (wip i), ?_, ?_, Or.inr (Or.inl ⟨i, hi, rfl, rfl, rfl, rfl⟩), by decide⟩
    · rw [e1, ct_u4, ct_u6]
    · rw [Mm _ e2, if_neg]
      intro u
      have hw : wip i < 13 := by
        rcases (show i = 0 ∨ i = 1 ∨ i = 2 ∨ i = 3 ∨ i = 4 ∨ i = 5 ∨ i = 6 ∨ i = 7 ∨ i = 8 ∨ i = 9 ∨ i = 10 ∨ i = 11 ∨ i = 12 by omega) with rfl | rfl | rfl | rfl | rfl | rfl | rfl | rfl | rfl | rfl | rfl | rfl | rfl <;> decide
      have : ¬ nI (wip i) < 0 := nI_pos (by omega)
      rw [u] at this
      exact this (by decide)
  · refine ⟨4, v, 4, -1, e1, ?_, Or.inr (Or.inr (Or.inr (Or.inr ⟨rfl, rfl⟩))), by decide⟩
    rw [Mm _ e2, if_pos rfl]
def blk (a : Nat) : Prop := a = 10 ∨ a = 32
/-- after the blanks -/
theorem tok1 (hT : ∀ j, j < len → h 2 j = nI (ch j) ∧ ch j ≤ 255) (hT2 : ∀ j, j < len → X 111 j = nI (ch j) ∧ ch j ≤ 255) (hl9 : len ≤ 900) (c2 : c 2 = nI len) (d11 : d 11 = nI len) (hs : s ≤ len) (hb : s < len → ¬ blk (ch s)) (k a v k' a' v' : Int32) : ∃ p kk vv kk' vv', (∀ K, b_X3_nextToken_0 (0 + 1) K (cH h (ct c (nI s) k a v) O Q) = some (cH h (ct c (nI p) kk (nI s) vv) O Q)) ∧ (∀ K, b_X10_token_0 110 K (mH X (md d (nI s) a' k' v') T I Z A) = some (mH X (md d (nI p) (nI s) kk' vv') T I Z A)) ∧ s ≤ p ∧ p ≤ len ∧ (¬ kk = 0 → s < p) ∧ tkr kk vv kk' vv' := by
  obtain ⟨g, hg⟩ : ∃ g, g = cH h (ct c (nI s) k a v) O Q := ⟨_, rfl⟩
  obtain ⟨gs, hgs⟩ : ∃ gs, gs = cH h (ct c (nI s) k (nI s) v) O Q := ⟨_, rfl⟩
  have g1 : g (0 + 1) = ct c (nI s) k a v := by rw [hg, cH_1]
  have s1 : gs (0 + 1) = ct c (nI s) k (nI s) v := by rw [hgs, cH_1]
  have gw : hp g (0 + 1) 5 (nI s) = gs := by rw [hg, hgs, cH_w1, ct_u5]
  have hh := here_m (T := T) (I := I) (Z := Z) (A := A) hT2 hl9 d11 (p := s) hs a' k' v'
  have hh2 := here_m (T := T) (I := I) (Z := Z) (A := A) hT2 hl9 d11 (p := s) hs (nI s) k' v'
  by_cases u : s < len
  · have hch := (hT s u).2
    have nb := hb u
    have n10 : ¬ nI (ch s) = 10 := fun z => nb (Or.inl (nI_inj (b := 10) (by omega) (by omega) z))
    have n32 : ¬ nI (ch s) = 32 := fun z => nb (Or.inr (nI_inj (b := 32) (by omega) (by omega) z))
    have g2 : g (0 + 1 + 1) s = nI (ch s) := by rw [hg, cH_2, (hT _ u).1]
    have s2 : gs (0 + 1 + 1) s = nI (ch s) := by rw [hgs, cH_2, (hT _ u).1]
    rw [if_pos u] at hh hh2
    have eC : ∀ K, b_X3_nextToken_0 (0 + 1) K g = q_X3_nextToken_52 g (0 + 1) := fun K => by
      unfold b_X3_nextToken_0
      rw [g1, ct_n _ _ _ _ _ (by omega), c2, ct_3, if_neg (nI_ge u (by omega))]
      simp only [if_pos (show ib (nI s) 900 from ib_n (by omega) (by omega)), nI_clamp (show s < 2 ^ 31 by omega)]
      rw [g2, if_neg n10, if_neg n32]
    have eM : ∀ K, b_X10_token_0 110 K (mH X (md d (nI s) a' k' v') T I Z A) = Option.bind (p_X10_isSmall (mH X (md d (nI s) (nI s) k' v') T I Z A) (nI (ch s))) fun r22 => if r22.1 = 0 then (Option.bind (p_X10_isDigit r22.2 (nI (ch s))) fun r23 => if r23.1 = 0 then (if nI (ch s) = 59 then (nv (hp r23.2 110 14 2) fun h24 => nv (hp h24 110 12 ((h24 110 12) + 1)) fun h25 => some h25) else (nv (hp r23.2 110 14 4) fun h26 => nv (hp h26 110 12 ((h26 110 12) + 1)) fun h27 => some h27)) else (nv (hp r23.2 110 14 1) fun h28 => nv (hp h28 110 15 0) fun h29 => lp (b_X10_token_132 110) FU h29)) else (lp (b_X10_token_64 110) FU r22.2) := fun K => by
      unfold b_X10_token_0
      rw [hh, Option.bind_some]
      dsimp +instances only
      rw [if_neg n10, hh, Option.bind_some]
      dsimp +instances only
      rw [if_neg n32, mH_0, md_12, nv_eq, mH_w0, md_u13, hh2, Option.bind_some]
      dsimp +instances only
      rw [if_neg (fun z => by
        have : ¬ nI (ch s) < 0 := nI_pos (by omega)
        rw [z] at this
        exact this (by decide))]
    have eC2 : ∀ r : Option Hp, (Option.bind (p_X3_isDigit gs (nI (ch s))) fun r3 => if r3.1 = 0 then (if ib (r3.2 (0 + 1) 3) 900 then (Option.bind (p_X3_isLetter r3.2 (r3.2 (0 + 1 + 1) (Int32.toNatClampNeg (r3.2 (0 + 1) 3)))) fun r5 => if r5.1 = 0 then (if ib (r5.2 (0 + 1) 3) 900 then (if (r5.2 (0 + 1 + 1) (Int32.toNatClampNeg (r5.2 (0 + 1) 3))) = 59 then (nv (hp r5.2 (0 + 1) 4 3) fun h7 => nv (hp h7 (0 + 1) 3 ((h7 (0 + 1) 3) + 1)) fun h8 => some h8) else (nv (hp r5.2 (0 + 1) 4 4) fun h9 => nv (hp h9 (0 + 1) 3 ((h9 (0 + 1) 3) + 1)) fun h10 => some h10)) else none) else (Option.bind (p_X3_scanWord r5.2 (0 + 1)) fun r11 => some r11)) else none) else (Option.bind (p_X3_scanNumber r3.2 (0 + 1)) fun r12 => some r12)) = r → q_X3_nextToken_52 g (0 + 1) = r := fun r e => by
      unfold q_X3_nextToken_52
      rw [g1, ct_3, nv_eq, gw, s1, ct_3, ct_n _ _ _ _ _ (by omega), c2, if_pos (nI_lt u (by omega))]
      simp only [if_pos (show ib (nI s) 900 from ib_n (by omega) (by omega)), nI_clamp (show s < 2 ^ 31 by omega)]
      rw [s2]
      exact e
    by_cases hl : ltr (ch s)
    · have ndg : ¬ dig (ch s) := fun z => by
        have := hl.1
        have := z.2
        omega
      obtain ⟨nl, l1, l2, l3⟩ := run_ex (fun q => 97 ≤ ch q ∧ ch q ≤ 122) s (len - s)
      have l0 : 0 < nl := by
        rcases Nat.eq_zero_or_pos nl with z | z
        · subst z
          exact absurd hl (l3 (by omega))
        · exact z
      obtain ⟨kk, vv, kk', vv', w1, w2, w3, w4⟩ := wrd_sim (O := O) (Q := Q) (T := T) (I := I) (Z := Z) (A := A) hT hT2 hl9 c2 d11 (nl := nl) (by omega) l2 (fun z => l3 (by omega)) k v k' v'
      refine ⟨s + nl, kk, vv, kk', vv', fun K => ?_, fun K => ?_, by omega, by omega, fun _ => by omega, w3⟩
      · rw [← hg, eC]
        refine eC2 _ ?_
        rw [(digC gs hch).2 ndg, Option.bind_some]
        dsimp +instances only
        rw [if_pos rfl, s1, ct_3]
        simp only [if_pos (show ib (nI s) 900 from ib_n (by omega) (by omega)), nI_clamp (show s < 2 ^ 31 by omega)]
        rw [s2, (ltrC gs hch).1 hl, Option.bind_some]
        dsimp +instances only
        rw [if_neg one_nz, hgs, w1, Option.bind_some]
      · rw [eM, (ltrM _ hch).1 hl, Option.bind_some]
        dsimp +instances only
        rw [if_neg one_nz]
        exact w2
    · by_cases hd : dig (ch s)
      · obtain ⟨nd, l1, l2, l3⟩ := run_ex (fun q => 48 ≤ ch q ∧ ch q ≤ 57) s (len - s)
        have l0 : 0 < nd := by
          rcases Nat.eq_zero_or_pos nd with z | z
          · subst z
            exact absurd hd (l3 (by omega))
          · exact z
        have w1 := num_c (c := c) (O := O) (Q := Q) hT hl9 c2 (nd := nd) (by omega) l2 (fun z => l3 (by omega)) k v
        have w2 := num_m (d := d) (T := T) (I := I) (Z := Z) (A := A) hT2 hl9 d11 (nd := nd) (by omega) l2 (fun z => l3 (by omega)) (nI s) 1
        refine ⟨s + nd, 2, nI (min (nvl ch s nd) 100000), 1, nI (nvl ch s nd), fun K => ?_, fun K => ?_, by omega, by omega, fun _ => by omega, Or.inr (Or.inr (Or.inl ⟨nvl ch s nd, nvl_lt nd l2, rfl, rfl, rfl, rfl⟩))⟩
        · rw [← hg, eC]
          refine eC2 _ ?_
          rw [(digC gs hch).1 hd, Option.bind_some]
          dsimp +instances only
          rw [if_neg one_nz, hgs, w1, Option.bind_some]
        · rw [eM, (ltrM _ hch).2 hl, Option.bind_some]
          dsimp +instances only
          rw [if_pos rfl, (digM _ hch).1 hd, Option.bind_some]
          dsimp +instances only
          rw [if_neg one_nz, nv_eq, nv_eq, mH_w0, mH_w0, md_u14, md_u15]
          exact w2
      · have eCd : ∀ r : Option Hp, (if nI (ch s) = 59 then (nv (hp gs (0 + 1) 4 3) fun h7 => nv (hp h7 (0 + 1) 3 ((h7 (0 + 1) 3) + 1)) fun h8 => some h8) else (nv (hp gs (0 + 1) 4 4) fun h9 => nv (hp h9 (0 + 1) 3 ((h9 (0 + 1) 3) + 1)) fun h10 => some h10)) = r → q_X3_nextToken_52 g (0 + 1) = r := fun r e => by
          refine eC2 _ ?_
          rw [(digC gs hch).2 hd, Option.bind_some]
          dsimp +instances only
          rw [if_pos rfl, s1, ct_3]
          simp only [if_pos (show ib (nI s) 900 from ib_n (by omega) (by omega)), nI_clamp (show s < 2 ^ 31 by omega)]
          rw [s2, (ltrC gs hch).2 hl, Option.bind_some]
          dsimp +instances only
          rw [if_pos rfl, s1, ct_3]
          simp only [if_pos (show ib (nI s) 900 from ib_n (by omega) (by omega)), nI_clamp (show s < 2 ^ 31 by omega)]
          rw [s2]
          exact e
        have eMd : ∀ K, b_X10_token_0 110 K (mH X (md d (nI s) a' k' v') T I Z A) = if nI (ch s) = 59 then some (mH X (md d (nI (s + 1)) (nI s) 2 v') T I Z A) else some (mH X (md d (nI (s + 1)) (nI s) 4 v') T I Z A) := fun K => by
          rw [eM, (ltrM _ hch).2 hl, Option.bind_some]
          dsimp +instances only
          rw [if_pos rfl, (digM _ hch).2 hd, Option.bind_some]
          dsimp +instances only
          rw [if_pos rfl]
          simp only [nv_eq, mH_w0, md_u14, mH_0, md_12, md_u12, nI_1]
        by_cases z : nI (ch s) = 59
        · refine ⟨s + 1, 3, v, 2, v', fun K => ?_, fun K => ?_, by omega, by omega, fun _ => by omega, Or.inr (Or.inr (Or.inr (Or.inl ⟨rfl, rfl⟩)))⟩
          · rw [← hg, eC]
            refine eCd _ ?_
            rw [if_pos z, nv_eq, nv_eq, hgs, cH_w1, ct_u4, cH_1, ct_3, cH_w1, ct_u3, nI_1]
          · rw [eMd, if_pos z]
        · refine ⟨s + 1, 4, v, 4, v', fun K => ?_, fun K => ?_, by omega, by omega, fun _ => by omega, Or.inr (Or.inr (Or.inr (Or.inr ⟨rfl, rfl⟩)))⟩
          · rw [← hg, eC]
            refine eCd _ ?_
            rw [if_neg z, nv_eq, nv_eq, hgs, cH_w1, ct_u4, cH_1, ct_3, cH_w1, ct_u3, nI_1]
          · rw [eMd, if_neg z]
  · have es : s = len := by omega
    rw [if_neg u] at hh hh2
    refine ⟨s, 0, v, 3, v', fun K => ?_, fun K => ?_, by omega, by omega, fun z => absurd rfl z, Or.inl ⟨rfl, rfl⟩⟩
    · rw [← hg]
      unfold b_X3_nextToken_0
      rw [g1, ct_n _ _ _ _ _ (by omega), c2, ct_3, if_pos (nI_le (by omega) (by omega))]
      unfold q_X3_nextToken_52
      rw [g1, ct_3, nv_eq, gw, s1, ct_3, ct_n _ _ _ _ _ (by omega), c2, if_neg (nI_nlt (by omega) (by omega)), nv_eq, hgs, cH_w1, ct_u4]
    · unfold b_X10_token_0
      rw [hh, Option.bind_some]
      dsimp +instances only
      rw [if_neg (by decide), hh, Option.bind_some]
      dsimp +instances only
      rw [if_neg (by decide), mH_0, md_12, nv_eq, mH_w0, md_u13, hh2, Option.bind_some]
      dsimp +instances only
      rw [if_pos rfl, nv_eq, mH_w0, md_u14]
theorem token_sim (hT : ∀ j, j < len → h 2 j = nI (ch j) ∧ ch j ≤ 255) (hT2 : ∀ j, j < len → X 111 j = nI (ch j) ∧ ch j ≤ 255) (hl9 : len ≤ 900) (c2 : c 2 = nI len) (d11 : d 11 = nI len) {p0 : Nat} (hp0 : p0 ≤ len) (c3 : c 3 = nI p0) (d12 : d 12 = nI p0) : ∃ p s kk vv kk' vv', p_X3_nextToken (cH h c O Q) (0 + 1) = some (cH h (ct c (nI p) kk (nI s) vv) O Q) ∧ p_X10_token (mH X d T I Z A) 110 = some (mH X (md d (nI p) (nI s) kk' vv') T I Z A) ∧ p0 ≤ s ∧ s ≤ p ∧ p ≤ len ∧ (¬ kk = 0 → s < p) ∧ tkr kk vv kk' vv' := by
  obtain ⟨nb, l1, l2, l3⟩ := run_ex (fun q => ch q = 10 ∨ ch q = 32) p0 (len - p0)
  obtain ⟨p, kk, vv, kk', vv', t1, t2, t3, t4, t5, t6⟩ := tok1 (c := c) (O := O) (Q := Q) (d := d) (T := T) (I := I) (Z := Z) (A := A) hT hT2 hl9 c2 d11 (s := p0 + nb) (by omega) (fun z => l3 (by omega)) (c 4) (c 5) (c 6) (d 14) (d 13) (d 15)
  refine ⟨p, p0 + nb, kk, vv, kk', vv', ?_, ?_, by omega, t3, t4, t5, t6⟩
  · unfold p_X3_nextToken
    have := lp_fo (b := b_X3_nextToken_0 (0 + 1)) (fun i => cH h (ct c (nI (p0 + i)) (c 4) (c 5) (c 6)) O Q) nb _ (fun K i hi => by
      have hch := (hT (p0 + i) (by omega)).2
      have hbl := l2 i hi
      obtain ⟨g, hg⟩ : ∃ g, g = cH h (ct c (nI (p0 + i)) (c 4) (c 5) (c 6)) O Q := ⟨_, rfl⟩
      have g1 : g (0 + 1) = ct c (nI (p0 + i)) (c 4) (c 5) (c 6) := by rw [hg, cH_1]
      have g2 : g (0 + 1 + 1) (p0 + i) = nI (ch (p0 + i)) := by rw [hg, cH_2, (hT _ (by omega)).1]
      rw [← hg]
      unfold b_X3_nextToken_0
      rw [g1, ct_n _ _ _ _ _ (by omega), c2, ct_3, if_neg (nI_ge (by omega) (by omega))]
      simp only [if_pos (show ib (nI (p0 + i)) 900 from ib_n (by omega) (by omega)), nI_clamp (show p0 + i < 2 ^ 31 by omega)]
      rw [g2, nv_eq, hg, cH_w1, ct_u3, nI_1]
      rcases hbl with z | z
      · rw [z, if_pos (show nI 10 = 10 from rfl), Nat.add_assoc]
      · rw [z, if_neg (by decide), if_pos (show nI 32 = 32 from rfl), Nat.add_assoc]) t1 nb 0 FU (by omega) (FU_gt (by omega))
    rw [show p0 + 0 = p0 from rfl, ← c3, ct_eta] at this
    exact this
  · unfold p_X10_token
    have := lp_fo (b := b_X10_token_0 110) (fun i => mH X (md d (nI (p0 + i)) (d 13) (d 14) (d 15)) T I Z A) nb _ (fun K i hi => by
      have hch := (hT2 (p0 + i) (by omega)).2
      have hbl := l2 i hi
      have hh := here_m (T := T) (I := I) (Z := Z) (A := A) hT2 hl9 d11 (p := p0 + i) (by omega) (d 13) (d 14) (d 15)
      rw [if_pos (by omega)] at hh
      unfold b_X10_token_0
      rw [hh, Option.bind_some]
      dsimp +instances only
      rw [hh, Option.bind_some]
      dsimp +instances only
      rcases hbl with z | z
      · rw [z, if_pos (show nI 10 = 10 from rfl), mH_0, md_12, nv_eq, mH_w0, md_u12, nI_1, Nat.add_assoc]
      · rw [z, if_neg (by decide), if_pos (show nI 32 = 32 from rfl), mH_0, md_12, nv_eq, mH_w0, md_u12, nI_1, Nat.add_assoc]) t2 nb 0 FU (by omega) (FU_gt (by omega))
    rw [show p0 + 0 = p0 from rfl, ← d12, md_eta] at this
    exact this
end To
