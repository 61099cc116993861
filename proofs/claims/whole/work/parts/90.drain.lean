/-! drain, ahead -/
section Td
variable {Bd : Nat} {h : Hp}
theorem isM_n (h : Hp) {x : Int32} (a : x < 0 ∨ (999 : Int32) < x) : p_X10_isMore h x = some (0, h) := by
  unfold p_X10_isMore
  by_cases c : x < 0
  · rw [if_pos c]
  · rw [if_neg c, if_pos (a.resolve_left c)]
theorem isM_y (h : Hp) {k : Nat} (h2 : k ≤ 999) : p_X10_isMore h (nI k) = some (1, h) := by
  unfold p_X10_isMore
  rw [if_neg (nI_pos (by omega)), if_neg (show ¬ (999 : Int32) < nI k from nI_nlt (a := 999) h2 (by omega))]
/-- a drain with the settings as they are -/
theorem dr_same (G : GR Bd h) (hd : Bd + 200000 ≤ 5000000) {e : Nat} (he : e ≤ 999) {hc : Hp} (K : KC h hc) : ∃ L hB h', L.length ≤ 200 ∧ p_X6_begin hc (0 + 59) (0 + 10) = some hB ∧ p_X6_drainCopy hB (0 + 59) (nI e) = some h' ∧ KC h h' ∧ h' (0 + 59) 1 = nI L.length ∧ ∀ X, (∀ k, k < 3715 → X 116 k = h 116 k) → (mt X (X 116) (h 116 4) (h 116 7) = X) → ∃ S' m y sn n N' nw' ol' L', p_X10_drains X 110 (nI e) = some (mt X S' (h 116 4) (h 116 7)) ∧ Rel true false (tbT (X 116) L (h (0 + 10 + 1) 0)) m y sn (Bd + e * 200) n N' 200 nw' ol' L' h' (0 + 59 + 1) S' ∧ X 116 14 = nI (pl (X 116) 1 L).length := by
  obtain ⟨m, y, sn, n, N, nw, ol, L, R, hLS, g1, g2, g3, g4, g5, g6, g7⟩ := G
  obtain ⟨tv, tv1, tv2, tv3⟩ := g3
  have hnn := R.n200
  have hL : L.length ≤ n := nd_len n L R.el.2.2.2.2.1 (fun x hx => ((R.el.2.2.2.2.2.1 x).mp hx).1)
  have hT : h (0 + 10 + 1) 0 = nI tv := by rw [g1, tv3]
  obtain ⟨hB, h', b1, b2, b3, b4, b5, b6, b7⟩ := dr_run R hLS he hd K (h (0 + 10 + 1) 0) (by rw [hT]; exact nI_pos' (by omega)) (by rw [hT]; exact nI_le (b := 99999999) (by omega) (by omega)) (q := h (0 + 10 + 1) 2) (by rw [R.qua]; exact R.i6)
  rw [hp_same (b2 0 (by omega)), hp_same (b2 2 (by omega))] at b3
  refine ⟨L, hB, h', by omega, b1, b3, b4, b5, fun X hX hE => ?_⟩
  obtain ⟨S', N', nw', ol', L', c1, c2⟩ := b7 (X 116) (fun k hk _ _ => hX k hk)
  have c3 := c1 X (h 116 4) (h 116 7) (Or.inl g1.symm)
  rw [fa_upd_same (show X 116 6 = h (0 + 10 + 1) 2 by rw [hX 6 (by omega), R.qua]), hE] at c3
  refine ⟨S', m, y, sn, n, N', nw', ol', L', c3, c2, ?_⟩
  exact (R.ext (fun k hk _ _ => hX k hk)).ep.1
theorem drain_m (G : GR Bd h) (hB : Bd + 1000 ≤ 5000000) (hB2 : Bd + 200000 ≤ 5000000) (x z : Int32) : Met2 (Bd + 1000) h (fun h => p_X9_drain h 0 x z) (fun h => p_X10_drain h 110 x z) := by
  have bad : (x < 0 ∨ (999 : Int32) < x) → Met2 (Bd + 1000) h (fun h => p_X9_drain h 0 x z) (fun h => p_X10_drain h 110 x z) := fun a => by
    refine no_m G hB (r := -1) ?_ ?_
    · show p_X9_drain h 0 x z = _
      unfold p_X9_drain
      by_cases c : x < 0
      · rw [if_pos c]
      · rw [if_neg c, if_pos (a.resolve_left c)]
    · show p_X10_drain h 110 x z = _
      unfold p_X10_drain
      rw [nv_eq, isM_n _ a, Option.bind_some]
      dsimp +instances only
      rw [if_pos rfl]
  rcases rng3 x (lo := 0) (hi := 999) (by omega) (by omega) with a | a | ⟨e, _, he, rfl⟩
  · exact bad (Or.inl a)
  · exact bad (Or.inr a)
  · have pC : p_X9_drain h 0 (nI e) z = if z < 0 then (some ((-1), h)) else (if z ≤ 4 then (Option.bind (p_X6_afterDrain h (0 + 59) (0 + 10) (nI e) z) fun r1 => some (r1.1, r1.2)) else (some ((-1), h))) := by
      unfold p_X9_drain
      rw [if_neg (nI_pos (by omega)), if_neg (show ¬ (999 : Int32) < nI e from nI_nlt (a := 999) he (by omega))]
    have pM : ∀ h1 : Hp, p_X10_drain h1 110 (nI e) z = if z < 0 then (some ((-1), hp h1 110 0 0)) else (if z ≤ 4 then (Option.bind (p_X10_copies (hp h1 110 0 0) (110 + 6) (110 + 7)) fun r3 => Option.bind (p_X10_drains r3 110 (nI e)) fun r4 => if 3 ≤ z then (if z = 3 then (nv (r4 (110 + 6) 0) fun v5 => Option.bind (p_X10_copies r4 (110 + 7) (110 + 6)) fun r6 => some (v5, r6)) else (Option.bind (p_X10_waits r4 110 (r4 (110 + 7) 14) 0) fun r7 => Option.bind (p_X10_copies r7.2 (110 + 7) (110 + 6)) fun r8 => some (r7.1, r8))) else (if ib (14 + z) 3715 then (if ib (14 + z) 3715 then (nv ((r4 (110 + 6) (Int32.toNatClampNeg (14 + z))) - (r4 (110 + 7) (Int32.toNatClampNeg (14 + z)))) fun v11 => Option.bind (p_X10_copies r4 (110 + 7) (110 + 6)) fun r12 => some (v11, r12)) else none) else none)) else (some ((-1), hp h1 110 0 0))) := fun h1 => by
      unfold p_X10_drain
      rw [nv_eq, isM_y _ he, Option.bind_some]
      dsimp +instances only
      rw [if_neg one_nz]
    by_cases c : z < 0 ∨ ¬ z ≤ 4
    · refine no_m G hB (r := -1) ?_ ?_
      · show p_X9_drain h 0 (nI e) z = _
        rw [pC]
        by_cases c1 : z < 0
        · rw [if_pos c1]
        · rw [if_neg c1, if_neg (c.resolve_left c1)]
      · show p_X10_drain h 110 (nI e) z = _
        rw [pM]
        by_cases c1 : z < 0
        · rw [if_pos c1]
        · rw [if_neg c1, if_neg (c.resolve_left c1)]
    · have c1 : ¬ z < 0 := fun u => c (Or.inl u)
      have c2 : z ≤ 4 := Decidable.byContradiction fun u => c (Or.inr u)
      obtain ⟨j, hj, rfl⟩ : ∃ j, j ≤ 4 ∧ z = nI j := by
        obtain ⟨j, hj, rfl⟩ := nI_of c1
        exact ⟨j, (nI_leI (b := 4) hj (by omega)).mp c2, rfl⟩
      obtain ⟨L, hB', h', l200, b1, b2, q5, b4, b5⟩ := dr_same G hB2 he (KC.refl G)
      have g5 : h 110 22 = -2 := by
        obtain ⟨_, _, _, _, _, _, _, _, _, _, _, _, _, _, g5, _, _⟩ := G
        exact g5
      have eC : p_X6_afterDrain h (0 + 59) (0 + 10) (nI e) (nI j) = if nI j = 3 then (some (h' (0 + 59 + 1) 7, h')) else (if nI j = 4 then (Option.bind (p_X1_greatestWaitFrom h' (0 + 59 + 1 + 2) (nI L.length)) fun r3 => some (r3.1, r3.2)) else (Option.bind (p_X6_tallyOf h' (0 + 59) (nI j)) fun r4 => some (r4.1, r4.2))) := by
        unfold p_X6_afterDrain
        rw [b1, Option.bind_some, b2, Option.bind_some, b4]
      have fin : ∀ (r : Int32), (if nI j = 3 then (some (h' (0 + 59 + 1) 7, h')) else (if nI j = 4 then (Option.bind (p_X1_greatestWaitFrom h' (0 + 59 + 1 + 2) (nI L.length)) fun r3 => some (r3.1, r3.2)) else (Option.bind (p_X6_tallyOf h' (0 + 59) (nI j)) fun r4 => some (r4.1, r4.2)))) = some (r, h') → (∀ (S S' : Nat → Int32) T m y sn Bd n' N' nw' ol' L', Rel true false (tbT S L T) m y sn Bd n' N' 200 nw' ol' L' h' (0 + 59 + 1) S' → S 14 = nI (pl S 1 L).length → ∀ X X1 : Hp, (∀ k, k < 3715 → X 117 k = S k) → p_X10_copies (mt X S' (h 116 4) (h 116 7)) (110 + 7) (110 + 6) = some X1 → (if 3 ≤ nI j then (if nI j = 3 then (nv (mt X S' (h 116 4) (h 116 7) (110 + 6) 0) fun v5 => Option.bind (p_X10_copies (mt X S' (h 116 4) (h 116 7)) (110 + 7) (110 + 6)) fun r6 => some (v5, r6)) else (Option.bind (p_X10_waits (mt X S' (h 116 4) (h 116 7)) 110 (mt X S' (h 116 4) (h 116 7) (110 + 7) 14) 0) fun r7 => Option.bind (p_X10_copies r7.2 (110 + 7) (110 + 6)) fun r8 => some (r7.1, r8))) else (if ib (14 + nI j) 3715 then (if ib (14 + nI j) 3715 then (nv ((mt X S' (h 116 4) (h 116 7) (110 + 6) (Int32.toNatClampNeg (14 + nI j))) - (mt X S' (h 116 4) (h 116 7) (110 + 7) (Int32.toNatClampNeg (14 + nI j)))) fun v11 => Option.bind (p_X10_copies (mt X S' (h 116 4) (h 116 7)) (110 + 7) (110 + 6)) fun r12 => some (v11, r12)) else none) else none)) = some (r, X1)) → Met2 (Bd + 1000) h (fun h => p_X9_drain h 0 (nI e) (nI j)) (fun h => p_X10_drain h 110 (nI e) (nI j)) := fun r aC aM => by
        refine tri_m G hB (r := r) (h1 := h') ?_ q5 (fun G1 => ?_)
        · show p_X9_drain h 0 (nI e) (nI j) = _
          rw [pC, if_neg c1, if_pos c2, eC, aC, Option.bind_some]
        · obtain ⟨X, x1, x2⟩ := m_copy (hp h' 110 0 0)
          obtain ⟨xe, xf, x22, xt⟩ := KM.use (Bd := Bd) q5 g5 x2
          obtain ⟨S', m, y, sn, n, N', nw', ol', L', s1, s2, s3⟩ := b5 X xe xt
          obtain ⟨X1, y1, y2⟩ := m_back x2 S' (h 116 4) (h 116 7)
          refine ⟨X1, ?_, y2⟩
          show p_X10_drain h' 110 (nI e) (nI j) = _
          rw [pM, if_neg c1, if_pos c2, x1, Option.bind_some, s1, Option.bind_some]
          exact aM (X 116) S' _ m y sn _ n N' nw' ol' L' s2 s3 X X1 (fun k hk => by rw [xf k hk, xe k hk]) y1
      obtain ⟨S1, _, _, _, _, _, _, _, L1, _, q4, q6⟩ := b5 h (fun _ _ => rfl) (mt_eta h)
      obtain ⟨M0, m1, m2, m3, m4, m5, _, _⟩ := from_eq q4 l200
      rcases (show j < 3 ∨ j = 3 ∨ j = 4 by omega) with u | rfl | rfl
      · obtain ⟨i, hi, ti⟩ : ∃ i, i < 5 ∧ tbv 5 j = nI i ∧ ((j = 0 ∧ i = 1) ∨ (j = 1 ∧ i = 2) ∨ (j = 2 ∧ i = 4)) := by
          rcases (show j = 0 ∨ j = 1 ∨ j = 2 by omega) with rfl | rfl | rfl
          · exact ⟨1, by omega, rfl, by omega⟩
          · exact ⟨2, by omega, rfl, by omega⟩
          · exact ⟨4, by omega, rfl, by omega⟩
        refine fin (h' (0 + 59 + 1 + 2 + 13) i) ?_ ?_
        · rw [if_neg (fun u => by have := nI_inj (b := 3) (by omega) (by omega) u; omega), if_neg (fun u => by have := nI_inj (b := 4) (by omega) (by omega) u; omega)]
          unfold p_X6_tallyOf q_X6_tallyOf_21
          rw [if_neg (nI_pos (by omega)), if_pos (show nI j < 4 from nI_lt (b := 4) (by omega) (by omega))]
          simp only [if_pos (show ib (nI j) 4 from ib_n (by omega) (by omega)), nI_clamp (show j < 2 ^ 31 by omega), ti.1]
          rw [if_neg (nI_pos (by omega)), if_pos (show nI i < 5 from nI_lt (b := 5) (by omega) (by omega))]
          simp only [if_pos (show ib (nI i) 5 from ib_n (by omega) (by omega)), nI_clamp (show i < 2 ^ 31 by omega)]
          rfl
        · intro S S' T m y sn Bd' n' N' nw' ol' L' RR h14 X X1 hX hb
          have j1 : (14 : Int32) + nI j = nI (14 + j) := nI_add 14 j
          have e7 : mt X S' (h 116 4) (h 116 7) (110 + 7) (14 + j) = S (14 + j) := by
            rw [mt_n _ _ _ _ (by omega)]
            exact hX _ (by omega)
          rw [if_neg (show ¬ (3 : Int32) ≤ nI j from nI_ge (b := 3) (by omega) (by omega)), j1]
          simp only [if_pos (show ib (nI (14 + j)) 3715 from ib_n (by omega) (by omega)), nI_clamp (show 14 + j < 2 ^ 31 by omega)]
          rw [nv_eq, hb, Option.bind_some, e7, mt_r _ _ _ _ (by omega) (by omega)]
          have key : S' (14 + j) - S (14 + j) = h' (0 + 59 + 1 + 2 + 13) i := by
            obtain ⟨a1, a2, a3, a4⟩ := tally_eq RR
            rcases ti.2 with ⟨rfl, rfl⟩ | ⟨rfl, rfl⟩ | ⟨rfl, rfl⟩
            · exact a1
            · exact a2
            · exact a3
          rw [key]
      · refine fin (h' (0 + 59 + 1) 7) (by rw [if_pos (show nI 3 = 3 from rfl)]) ?_
        intro S S' T m y sn Bd' n' N' nw' ol' L' RR h14 X X1 hX hb
        rw [if_pos (show (3 : Int32) ≤ nI 3 by decide), if_pos (show nI 3 = 3 from rfl), nv_eq, hb, Option.bind_some, mt_r _ _ _ _ (by omega) (by omega), RR.now]
      · refine fin (M0.foldl (fG S1) (-2)) ?_ ?_
        · rw [if_neg (by decide), if_pos (show nI 4 = 4 from rfl), m3, Option.bind_some]
        · intro S S' T m y sn Bd' n' N' nw' ol' L' RR h14 X X1 hX hb
          obtain ⟨M1, k1, k2, k3, k4, k5, _, _⟩ := from_eq RR l200
          rw [m3] at k3
          have e7 : mt X S' (h 116 4) (h 116 7) (110 + 7) 14 = nI (pl S 1 L).length := by
            rw [mt_n _ _ _ _ (by omega), ← h14]
            exact hX _ (by omega)
          rw [if_pos (show (3 : Int32) ≤ nI 4 by decide), if_neg (by decide), e7, k5, Option.bind_some]
          dsimp +instances only
          rw [hb, Option.bind_some, if_pos rfl]
          have e2 := congrArg Prod.fst (Option.some.inj k3)
          dsimp only at e2
          rw [e2]
end Td
/-! ahead -/
section Ta
variable {m y sn n : Nat} {tb : Nat → Int32} {w : Nat}
theorem Rel.w0 {bg : Bool} {Bd N tk : Nat} {nw ol L : List Nat} {h : Hp} {S : Nat → Int32} (R : Rel bg false tb m y sn Bd n N tk nw ol L h w S) : h (w + 40) 3 = 0 := by
  obtain ⟨k, u1, u2, u3, u4⟩ := R.wi
  exact u4 rfl
theorem ah_end {x i : Nat} (hx : x < 2 ^ 31) (M : Nat) (Y : Hp) : lp (b_X10_ahead_26 110 (nI x)) (M + 1) (Y, -2, nI i) = Option.bind (p_X10_copies Y (110 + 7) (110 + 6)) fun r1 => some (-2, r1) := by
  rw [lp_s]
  generalize lp (b_X10_ahead_26 110 (nI x)) M = K
  unfold b_X10_ahead_26
  dsimp +instances only
  by_cases z : nI x < nI i
  · rw [if_pos z]
  · rw [if_neg z, if_pos (by decide)]
theorem ah_sim {T x : Nat} (hwT : w = T + 1) (hx : x < 2 ^ 31) (c : Nat) : ∀ {h : Hp} {S : Nat → Int32} {N Bd i : Nat} {nw ol L : List Nat}, Rel true false tb m y sn Bd n N 200 nw ol L h w S → LSt n nw ol S → fa_cnt (sd S) n ≤ c → i + c ≤ 200 → i ≤ x → ∃ r h' S', (∀ M, c + 1 < M → lp (b_X6_sentInTurn_7 T (nI x)) M (h, nI i) = some (r, h')) ∧ (∀ hm l M (last : Int32), c + 2 < M → ¬ last < 0 → lp (b_X10_ahead_26 110 (nI x)) M (mt hm S (h (w + 1) 0) l, last, nI i) = Option.bind (p_X10_copies (mt hm S' (h (w + 1) 0) l) (110 + 7) (110 + 6)) fun r1 => some (r, r1)) ∧ h' (w + 40) 3 = 0 ∧ Fr w h h' := by
  subst hwT
  have none_c : ∀ {h : Hp} {S : Nat → Int32} {N Bd i : Nat} {nw ol L : List Nat}, Rel true false tb m y sn Bd n N 200 nw ol L h (T + 1) S → fa_cnt (sd S) n = 0 → i ≤ 200 → ∀ M, 0 < M → lp (b_X6_sentInTurn_7 T (nI x)) M (h, nI i) = some (-2, h) := fun {h S N Bd i nw ol L} R h0 hi M hM => by
    obtain ⟨M', rfl⟩ : ∃ m', M = m' + 1 := ⟨M - 1, by omega⟩
    rw [lp_s]
    generalize lp (b_X6_sentInTurn_7 T (nI x)) M' = K
    unfold b_X6_sentInTurn_7
    dsimp +instances only
    have hz : h (T + 1) 8 ≤ 0 := by
      rw [R.stg, R.cf.2.1, h0]
      decide
    by_cases z : (200 : Int32) ≤ nI i
    · rw [if_pos z]
    · rw [if_neg z, if_pos hz]
  have step_m : ∀ {S S1 : Nat → Int32} {r t : Int32} {i : Nat}, i ≤ x → (∀ hm l, p_X10_serves (mt hm S t l) 110 = some (r, mt hm S1 t l)) → ∀ hm l M (last : Int32), ¬ last < 0 → lp (b_X10_ahead_26 110 (nI x)) (M + 1) (mt hm S t l, last, nI i) = lp (b_X10_ahead_26 110 (nI x)) M (mt hm S1 t l, r, nI (i + 1)) := fun {S S1 r t i} hi e hm l M last hl => by
    rw [lp_s]
    generalize lp (b_X10_ahead_26 110 (nI x)) M = K
    unfold b_X10_ahead_26
    dsimp +instances only
    rw [if_neg (nI_nlt hi hx), if_neg hl, e, Option.bind_some, nI_1]
  induction c with
  | zero =>
    intro h S N Bd i nw ol L R hLS hc hi hix
    obtain ⟨h1, S1, L1, nw1, ol1, N1, r, aC, aM, R1, hLS1, aF, a10, a12, a17, aO⟩ := serve_sim R hLS
    have hr : r = -2 := by
      rcases aO with ⟨f, _, _, q⟩ | ⟨q, _⟩
      · omega
      · exact q
    subst hr
    refine ⟨-2, h, S1, fun M hM => none_c R (by omega) (by omega) M (by omega), fun hm l M last hM hl => ?_, R.w0, Fr.refl _ h⟩
    obtain ⟨M', rfl⟩ : ∃ m', M = m' + 2 := ⟨M - 2, by omega⟩
    rw [step_m hix (fun hm l => aM hm _ l (Or.inl rfl)) hm l (M' + 1) last hl, ah_end hx]
  | succ c ih =>
    intro h S N Bd i nw ol L R hLS hc hi hix
    have hcn := fa_cnt_le (sd S) n
    have hnn := R.n200
    obtain ⟨h1, S1, L1, nw1, ol1, N1, r, aC, aM, R1, hLS1, aF, a10, a12, a17, aO⟩ := serve_sim R hLS
    have hT : h1 (T + 1 + 1) 0 = h (T + 1 + 1) 0 := aF.2 0
    rcases Nat.eq_zero_or_pos (fa_cnt (sd S) n) with h0 | h0
    · have hr : r = -2 := by
        rcases aO with ⟨f, _, _, q⟩ | ⟨q, _⟩
        · omega
        · exact q
      subst hr
      refine ⟨-2, h, S1, fun M hM => none_c R h0 (by omega) M (by omega), fun hm l M last hM hl => ?_, R.w0, Fr.refl _ h⟩
      obtain ⟨M', rfl⟩ : ∃ m', M = m' + 2 := ⟨M - 2, by omega⟩
      rw [step_m hix (fun hm l => aM hm _ l (Or.inl rfl)) hm l (M' + 1) last hl, ah_end hx]
    · have stepC : ∀ M, lp (b_X6_sentInTurn_7 T (nI x)) (M + 1) (h, nI i) = if r < 0 then lp (b_X6_sentInTurn_7 T (nI x)) M (h1, nI (i + 1)) else (if nI i = nI x then some (r, h1) else lp (b_X6_sentInTurn_7 T (nI x)) M (h1, nI (i + 1))) := fun M => by
        rw [lp_s]
        generalize lp (b_X6_sentInTurn_7 T (nI x)) M = K
        unfold b_X6_sentInTurn_7
        dsimp +instances only
        rw [if_neg (show ¬ (200 : Int32) ≤ nI i from nI_ge (b := 200) (by omega) (by omega)), if_neg (by rw [R.stg, R.cf.2.1]; exact nI_nle h0 (by omega)), aC, Option.bind_some, nI_1]
      rcases aO with ⟨f, f1, rfl, f3⟩ | ⟨rfl, f3⟩
      · have f0 : ¬ nI f < 0 := nI_pos (by omega)
        by_cases e : i = x
        · subst e
          refine ⟨nI f, h1, S1, fun M hM => ?_, fun hm l M last hM hl => ?_, R1.w0, aF⟩
          · obtain ⟨M', rfl⟩ : ∃ m', M = m' + 1 := ⟨M - 1, by omega⟩
            rw [stepC, if_neg f0, if_pos rfl]
          · obtain ⟨M', rfl⟩ : ∃ m', M = m' + 2 := ⟨M - 2, by omega⟩
            rw [step_m hix (fun hm l => aM hm _ l (Or.inl rfl)) hm l (M' + 1) last hl, lp_s]
            generalize lp (b_X10_ahead_26 110 (nI i)) M' = K
            unfold b_X10_ahead_26
            dsimp +instances only
            rw [if_pos (nI_lt (by omega) (by omega))]
        · obtain ⟨r2, h2, S2, i1, i2, i3, i4⟩ := ih (i := i + 1) R1 hLS1 (by omega) (by omega) (by omega)
          refine ⟨r2, h2, S2, fun M hM => ?_, fun hm l M last hM hl => ?_, i3, aF.trans i4⟩
          · obtain ⟨M', rfl⟩ : ∃ m', M = m' + 1 := ⟨M - 1, by omega⟩
            rw [stepC, if_neg f0, if_neg (fun u => e (nI_inj (by omega) hx u))]
            exact i1 M' (by omega)
          · obtain ⟨M', rfl⟩ : ∃ m', M = m' + 1 := ⟨M - 1, by omega⟩
            rw [step_m hix (fun hm l => aM hm _ l (Or.inl rfl)) hm l M' last hl]
            have := i2 hm l M' (nI f) (by omega) f0
            rw [hT] at this
            exact this
      · refine ⟨-2, h1, S1, fun M hM => ?_, fun hm l M last hM hl => ?_, R1.w0, aF⟩
        · obtain ⟨M', rfl⟩ : ∃ m', M = m' + 1 := ⟨M - 1, by omega⟩
          rw [stepC, if_pos (by decide)]
          exact none_c R1 f3 (by omega) M' (by omega)
        · obtain ⟨M', rfl⟩ : ∃ m', M = m' + 2 := ⟨M - 2, by omega⟩
          rw [step_m hix (fun hm l => aM hm _ l (Or.inl rfl)) hm l (M' + 1) last hl, ah_end hx]
end Ta
section Ta2
variable {Bd : Nat} {h : Hp}
theorem ahead_m (G : GR Bd h) (hB : Bd + 1000 ≤ 5000000) (x : Int32) : Met2 (Bd + 1000) h (fun h => p_X9_ahead h 0 x) (fun h => p_X10_ahead h 110 x) := by
  by_cases a : x < 0
  · have a0 : ¬ (0 : Int32) ≤ x := (fa_of_lt a).2.1
    refine no_m G hB (r := -1) ?_ ?_
    · show p_X9_ahead h 0 x = _
      unfold p_X9_ahead
      rw [if_neg a0]
    · show p_X10_ahead h 110 x = _
      unfold p_X10_ahead
      rw [nv_eq, if_neg a0]
  · obtain ⟨k, hk, rfl⟩ := nI_of a
    have a0 : (0 : Int32) ≤ nI k := nI_pos' hk
    have G0 := G
    obtain ⟨m, y, sn, n, N, nw, ol, L, R, hLS, g1, g2, g3, g4, g5, g6, g7⟩ := G
    have hnn := R.n200
    obtain ⟨hB', b1, b2, b3, b4, b5, b6, b7⟩ := tri R (KC.refl G0) (S := h 116) (fun _ _ _ _ => rfl)
    have main : ∀ S : Nat → Int32, (∀ k, k < 3715 → k ≠ 4 → k ≠ 7 → S k = h 116 k) → ∃ r h', lp (b_X6_sentInTurn_7 (0 + 59) (nI k)) FU (hB', 0) = some (r, h') ∧ KC h h' ∧ ∃ S', ∀ hm, lp (b_X10_ahead_26 110 (nI k)) FU (mt hm S (h 116 4) (h 116 7), 0, 0) = Option.bind (p_X10_copies (mt hm S' (h 116 4) (h 116 7)) (110 + 7) (110 + 6)) fun r1 => some (r, r1) := fun S hS => by
      obtain ⟨hB2, c1, c2, c3, c4, c5, c6, c7⟩ := tri R (KC.refl G0) hS
      rw [b1] at c1
      cases c1
      have hcn := fa_cnt_le (sd S) n
      obtain ⟨r, h', S', f1, f2, f3, f4⟩ := ah_sim (T := 0 + 59) rfl hk 200 (i := 0) c2 (hLS.ext hnn hS) (by omega) (by omega) (by omega)
      have f1' := f1 FU (FU_gt (by omega))
      rw [nI_0] at f1'
      refine ⟨r, h', f1', ⟨fun o ho => ?_, f3⟩, S', fun hm => ?_⟩
      · rw [f4.1 o (by omega), b7.1 o ho]
      · have := f2 hm (h 116 7) FU 0 (FU_gt (by omega)) (by decide)
        rw [b6 0 (by omega), g1, nI_0] at this
        exact this
    obtain ⟨r, h', q1, q2, q3⟩ := main (h 116) (fun _ _ _ _ => rfl)
    refine tri_m G0 hB (r := r) (h1 := h') ?_ q2 (fun G1 => ?_)
    · show p_X9_ahead h 0 (nI k) = _
      unfold p_X9_ahead p_X6_sentInTurn
      rw [if_pos a0, b1, Option.bind_some, q1, Option.bind_some]
    · obtain ⟨X, x1, x2⟩ := m_copy (hp h' 110 0 0)
      obtain ⟨xe, xf, x22, xt⟩ := KM.use (Bd := Bd) q2 g5 x2
      obtain ⟨r2, h2, w1, w2, S', w3⟩ := main (X 116) (fun k hk _ _ => xe k hk)
      rw [q1] at w1
      cases w1
      obtain ⟨X1, y1, y2⟩ := m_back x2 S' (h 116 4) (h 116 7)
      have w4 := w3 X
      rw [xt, y1, Option.bind_some] at w4
      refine ⟨X1, ?_, y2⟩
      show p_X10_ahead h' 110 (nI k) = _
      unfold p_X10_ahead
      rw [nv_eq, if_pos a0, x1, Option.bind_some]
      exact w4
end Ta2
