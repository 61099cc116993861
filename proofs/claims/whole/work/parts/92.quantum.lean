/-! bestQuantum -/
section Tq
variable {Bd : Nat} {h : Hp}
def QOk (h : Hp) (e : Nat) (q : Int32) (h' : Hp) (v : Int32) : Prop := KC h h' ∧ p_X1_waitsFrom h' (0 + 59 + 1 + 2) (h' (0 + 59) 1) = some (v, h') ∧ ∀ b X, (∀ k, k < 3715 → b 116 k = h 116 k) → KM b X → ∃ S', p_X10_drains (hp X (110 + 6) 6 q) 110 (nI e) = some (mt X S' (h 116 4) (h 116 7)) ∧ p_X10_waits (mt X S' (h 116 4) (h 116 7)) 110 (mt X S' (h 116 4) (h 116 7) (110 + 7) 14) 1 = some (v, mt X S' (h 116 4) (h 116 7))
theorem bq_it (G : GR Bd h) (hd : Bd + 200000 ≤ 5000000) {e : Nat} (he : e ≤ 999) {q : Int32} (hq : rg q 50 3000) {hc : Hp} (K : KC h hc) : ∃ hB h' v, p_X6_begin hc (0 + 59) (0 + 10) = some hB ∧ p_X6_drainCopy (hp hB (0 + 59 + 1 + 1) 2 q) (0 + 59) (nI e) = some h' ∧ QOk h e q h' v := by
  obtain ⟨m, y, sn, n, N, nw, ol, L, R, hLS, g1, g2, g3, g4, g5, g6, g7⟩ := G
  obtain ⟨tv, tv1, tv2, tv3⟩ := g3
  have hnn := R.n200
  have hL : L.length ≤ n := nd_len n L R.el.2.2.2.2.1 (fun x hx => ((R.el.2.2.2.2.2.1 x).mp hx).1)
  have hT : h (0 + 10 + 1) 0 = nI tv := by rw [g1, tv3]
  obtain ⟨hB, h', b1, b2, b3, b4, b5, b6, b7⟩ := dr_run R hLS he hd K (h (0 + 10 + 1) 0) (by rw [hT]; exact nI_pos' (by omega)) (by rw [hT]; exact nI_le (b := 99999999) (by omega) (by omega)) hq
  rw [hp_same (b2 0 (by omega))] at b3
  obtain ⟨S1, N1, nw1, ol1, L1, c1, c2⟩ := b7 (h 116) (fun _ _ _ _ => rfl)
  obtain ⟨M0, m1, m2, m3, m4, m5, _, _⟩ := from_eq c2 (by omega)
  refine ⟨hB, h', M0.foldl (fW S1) 0, b1, b3, b4, by rw [b5]; exact m2, fun b X hb KX => ?_⟩
  have xe : ∀ k, k < 3715 → X 116 k = h 116 k := fun k hk => by rw [KX.2.1 k hk, hb k hk]
  have xf : ∀ k, k < 3715 → X 117 k = h 116 k := fun k hk => by rw [KX.2.2 k hk, hb k hk]
  have xt : mt X (X 116) (h 116 4) (h 116 7) = X := by
    have := mt_eta X
    rw [xe 4 (by omega), xe 7 (by omega)] at this
    exact this
  obtain ⟨S', N', nw', ol', L', d1, d2⟩ := b7 (X 116) (fun k hk _ _ => xe k hk)
  have d3 := d1 X (h 116 4) (h 116 7) (Or.inl g1.symm)
  rw [← mt_hp _ _ _ _ _ (by omega) (by omega), xt] at d3
  obtain ⟨M1, k1, k2, k3, k4, k5, _, _⟩ := from_eq d2 (by omega)
  rw [m2] at k2
  have ev := congrArg Prod.fst (Option.some.inj k2)
  dsimp only at ev
  have e14 : mt X S' (h 116 4) (h 116 7) (110 + 7) 14 = nI (pl (X 116) 1 L).length := by
    rw [mt_n _ _ _ _ (by omega), show X (110 + 7) 14 = h 116 14 from xf 14 (by omega), ← xe 14 (by omega)]
    exact (R.ext (fun k hk _ _ => xe k hk)).ep.1
  refine ⟨S', d3, ?_⟩
  rw [e14, k5, if_neg (by decide), ev]
theorem bq_main (G : GR Bd h) (hd : Bd + 200000 ≤ 5000000) {e : Nat} (he : e ≤ 999) : ∀ (j i : Nat) (hc : Hp) (bc bm wv : Int32), i + j = 60 → KC h hc → ((bc = 0 ∧ bm = -1) ∨ (bc = bm ∧ ∃ z, 1 ≤ z ∧ z ≤ 3000 ∧ bc = nI z)) → (1 ≤ i → bc = bm) → ∃ r h', KC h h' ∧ (∀ M, j < M → lp (b_X6_quantumOfLeastWaits_9 (0 + 59) (0 + 10) (nI e)) M (hc, bc, wv, nI (50 * i + 50)) = some (r, h')) ∧ ∀ b X, (∀ k, k < 3715 → b 116 k = h 116 k) → KM b X → ∀ M, j < M → ∃ X' r', KM b X' ∧ lp (b_X10_bestQuantum_33 110 (nI e)) M (X, bm, wv, nI (50 * i + 50)) = some (r', X') ∧ (1 ≤ i + j → r' = r)
  | 0, i, hc, bc, bm, wv, hi, K, hb, hbi => by
    have t30 : tbv 2 (Int32.toNatClampNeg 2) = 3000 := rfl
    refine ⟨bc, hc, K, fun M hM => ?_, fun b X hb' KX M hM => ⟨X, bm, KX, ?_, fun _ => (hbi (by omega)).symm⟩⟩
    · obtain ⟨M', rfl⟩ : ∃ m', M = m' + 1 := ⟨M - 1, by omega⟩
      rw [lp_s]
      generalize lp (b_X6_quantumOfLeastWaits_9 (0 + 59) (0 + 10) (nI e)) M' = Kk
      unfold b_X6_quantumOfLeastWaits_9
      dsimp +instances only
      rw [t30, if_pos (show (3000 : Int32) < nI (50 * i + 50) from nI_lt (a := 3000) (by omega) (by omega))]
    · obtain ⟨M', rfl⟩ : ∃ m', M = m' + 1 := ⟨M - 1, by omega⟩
      rw [lp_s]
      generalize lp (b_X10_bestQuantum_33 110 (nI e)) M' = Kk
      unfold b_X10_bestQuantum_33
      dsimp +instances only
      rw [if_pos (show (3000 : Int32) < nI (50 * i + 50) from nI_lt (a := 3000) (by omega) (by omega))]
  | j + 1, i, hc, bc, bm, wv, hi, K, hb, hbi => by
    have t30 : tbv 2 (Int32.toNatClampNeg 2) = 3000 := rfl
    have n50 : nI (50 * i + 50) + 50 = nI (50 * (i + 1) + 50) := by
      rw [show 50 * (i + 1) + 50 = 50 * i + 50 + 50 by omega]
      exact nI_add _ 50
    obtain ⟨hB, h1, v, b1, b2, Q⟩ := bq_it G hd he (q := nI (50 * i + 50)) ⟨50 * i + 50, by omega, by omega, rfl⟩ K
    have stepC : ∀ M, lp (b_X6_quantumOfLeastWaits_9 (0 + 59) (0 + 10) (nI e)) (M + 1) (hc, bc, wv, nI (50 * i + 50)) = if bc = 0 then lp (b_X6_quantumOfLeastWaits_9 (0 + 59) (0 + 10) (nI e)) M (h1, nI (50 * i + 50), v, nI (50 * (i + 1) + 50)) else (if wv ≤ v then lp (b_X6_quantumOfLeastWaits_9 (0 + 59) (0 + 10) (nI e)) M (h1, bc, wv, nI (50 * (i + 1) + 50)) else lp (b_X6_quantumOfLeastWaits_9 (0 + 59) (0 + 10) (nI e)) M (h1, nI (50 * i + 50), v, nI (50 * (i + 1) + 50))) := fun M => by
      rw [lp_s]
      generalize lp (b_X6_quantumOfLeastWaits_9 (0 + 59) (0 + 10) (nI e)) M = Kk
      unfold b_X6_quantumOfLeastWaits_9
      dsimp +instances only
      rw [t30, if_neg (show ¬ (3000 : Int32) < nI (50 * i + 50) from nI_nlt (a := 3000) (by omega) (by omega)), b1, Option.bind_some, nv_eq, b2, Option.bind_some, Q.2.1, Option.bind_some, n50]
    have stepM : ∀ b X, (∀ k, k < 3715 → b 116 k = h 116 k) → KM b X → ∃ X1, KM b X1 ∧ ∀ M, lp (b_X10_bestQuantum_33 110 (nI e)) (M + 1) (X, bm, wv, nI (50 * i + 50)) = if bm = -1 then lp (b_X10_bestQuantum_33 110 (nI e)) M (X1, nI (50 * i + 50), v, nI (50 * (i + 1) + 50)) else (if v < wv then lp (b_X10_bestQuantum_33 110 (nI e)) M (X1, nI (50 * i + 50), v, nI (50 * (i + 1) + 50)) else lp (b_X10_bestQuantum_33 110 (nI e)) M (X1, bm, wv, nI (50 * (i + 1) + 50))) := fun b X hb' KX => by
      obtain ⟨S', d1, d2⟩ := Q.2.2 b X hb' KX
      obtain ⟨X1, y1, y2⟩ := m_back KX S' (h 116 4) (h 116 7)
      refine ⟨X1, y2, fun M => ?_⟩
      rw [lp_s]
      generalize lp (b_X10_bestQuantum_33 110 (nI e)) M = Kk
      unfold b_X10_bestQuantum_33
      dsimp +instances only
      rw [if_neg (show ¬ (3000 : Int32) < nI (50 * i + 50) from nI_nlt (a := 3000) (by omega) (by omega)), nv_eq, d1, Option.bind_some, d2, Option.bind_some]
      dsimp +instances only
      rw [y1, Option.bind_some, n50]
    have fin : ∀ (bc' wv' : Int32), (∃ z, 1 ≤ z ∧ z ≤ 3000 ∧ bc' = nI z) → (∀ M, lp (b_X6_quantumOfLeastWaits_9 (0 + 59) (0 + 10) (nI e)) (M + 1) (hc, bc, wv, nI (50 * i + 50)) = lp (b_X6_quantumOfLeastWaits_9 (0 + 59) (0 + 10) (nI e)) M (h1, bc', wv', nI (50 * (i + 1) + 50))) → (∀ b X, (∀ k, k < 3715 → b 116 k = h 116 k) → KM b X → ∃ X1, KM b X1 ∧ ∀ M, lp (b_X10_bestQuantum_33 110 (nI e)) (M + 1) (X, bm, wv, nI (50 * i + 50)) = lp (b_X10_bestQuantum_33 110 (nI e)) M (X1, bc', wv', nI (50 * (i + 1) + 50))) → ∃ r h', KC h h' ∧ (∀ M, j + 1 < M → lp (b_X6_quantumOfLeastWaits_9 (0 + 59) (0 + 10) (nI e)) M (hc, bc, wv, nI (50 * i + 50)) = some (r, h')) ∧ ∀ b X, (∀ k, k < 3715 → b 116 k = h 116 k) → KM b X → ∀ M, j + 1 < M → ∃ X' r', KM b X' ∧ lp (b_X10_bestQuantum_33 110 (nI e)) M (X, bm, wv, nI (50 * i + 50)) = some (r', X') ∧ (1 ≤ i + (j + 1) → r' = r) := fun bc' wv' hz sC sM => by
      obtain ⟨r, h', i1, i2, i3⟩ := bq_main G hd he j (i + 1) h1 bc' bc' wv' (by omega) Q.1 (Or.inr ⟨rfl, hz⟩) (fun _ => rfl)
      refine ⟨r, h', i1, fun M hM => ?_, fun b X hb' KX M hM => ?_⟩
      · obtain ⟨M', rfl⟩ : ∃ m', M = m' + 1 := ⟨M - 1, by omega⟩
        rw [sC]
        exact i2 M' (by omega)
      · obtain ⟨M', rfl⟩ : ∃ m', M = m' + 1 := ⟨M - 1, by omega⟩
        obtain ⟨X1, x1, x2⟩ := sM b X hb' KX
        obtain ⟨X', r', k1, k2, k3⟩ := i3 b X1 hb' x1 M' (by omega)
        exact ⟨X', r', k1, by rw [x2]; exact k2, fun _ => k3 (by omega)⟩
    have zz : ∃ z, 1 ≤ z ∧ z ≤ 3000 ∧ nI (50 * i + 50) = nI z := ⟨50 * i + 50, by omega, by omega, rfl⟩
    rcases hb with ⟨u1, u2⟩ | ⟨u1, z, z1, z2, z3⟩
    · refine fin (nI (50 * i + 50)) v zz (fun M => by rw [stepC, if_pos u1]) (fun b X hb' KX => ?_)
      obtain ⟨X1, x1, x2⟩ := stepM b X hb' KX
      exact ⟨X1, x1, fun M => by rw [x2, if_pos u2]⟩
    · have c0 : ¬ bc = 0 := by
        rw [z3]
        exact nI_ne0 (by omega) (by omega)
      have c1 : ¬ bm = -1 := by
        rw [← u1, z3]
        intro u
        have : ¬ nI z < 0 := nI_pos (by omega)
        rw [u] at this
        exact this (by decide)
      by_cases c : wv ≤ v
      · refine fin bc wv ⟨z, z1, z2, z3⟩ (fun M => by rw [stepC, if_neg c0, if_pos c]) (fun b X hb' KX => ?_)
        obtain ⟨X1, x1, x2⟩ := stepM b X hb' KX
        exact ⟨X1, x1, fun M => by rw [x2, if_neg c1, if_neg (fun u => (fa_of_lt u).2.1 c), u1]⟩
      · refine fin (nI (50 * i + 50)) v zz (fun M => by rw [stepC, if_neg c0, if_neg c]) (fun b X hb' KX => ?_)
        obtain ⟨X1, x1, x2⟩ := stepM b X hb' KX
        exact ⟨X1, x1, fun M => by rw [x2, if_neg c1, if_pos (fa_of_nle c)]⟩
theorem bestQuantum_m (G : GR Bd h) (hB : Bd + 1000 ≤ 5000000) (hB2 : Bd + 200000 ≤ 5000000) (x : Int32) : Met2 (Bd + 1000) h (fun h => p_X9_bestQuantum h 0 x) (fun h => p_X10_bestQuantum h 110 x) := by
  have bad : (x < 0 ∨ (999 : Int32) < x) → Met2 (Bd + 1000) h (fun h => p_X9_bestQuantum h 0 x) (fun h => p_X10_bestQuantum h 110 x) := fun a => by
    refine no_m G hB (r := -1) ?_ ?_
    · show p_X9_bestQuantum h 0 x = _
      unfold p_X9_bestQuantum
      by_cases c : x < 0
      · rw [if_pos c]
      · rw [if_neg c, if_neg (fa_of_lt (a.resolve_left c)).2.1]
    · show p_X10_bestQuantum h 110 x = _
      unfold p_X10_bestQuantum
      rw [nv_eq, isM_n _ a, Option.bind_some]
      dsimp +instances only
      rw [if_pos rfl]
  rcases rng3 x (lo := 0) (hi := 999) (by omega) (by omega) with a | a | ⟨e, _, he, rfl⟩
  · exact bad (Or.inl a)
  · exact bad (Or.inr a)
  · obtain ⟨r, h', K, q1, q2⟩ := bq_main G hB2 he 60 0 h 0 (-1) 0 (by omega) (KC.refl G) (Or.inl ⟨rfl, rfl⟩) (fun u => absurd u (by omega))
    have q1' := q1 FU (FU_gt (by omega))
    refine tri_m G hB (r := r) (h1 := h') ?_ K (fun G1 => ?_)
    · show p_X9_bestQuantum h 0 (nI e) = _
      unfold p_X9_bestQuantum p_X6_quantumOfLeastWaits
      rw [if_neg (nI_pos (by omega)), if_pos (show nI e ≤ 999 from nI_le (b := 999) he (by omega)), show (50 : Int32) = nI (50 * 0 + 50) from rfl, q1', Option.bind_some]
    · obtain ⟨X, x1, x2⟩ := m_copy (hp h' 110 0 0)
      obtain ⟨X', r', y1, y2, y3⟩ := q2 (hp h' 110 0 0) X (fun k hk => by rw [hp_n (by omega), K.1 _ (by omega)]) x2 FU (FU_gt (by omega))
      rw [y3 (by omega)] at y2
      refine ⟨X', ?_, y1⟩
      show p_X10_bestQuantum h' 110 (nI e) = _
      unfold p_X10_bestQuantum
      rw [nv_eq, isM_y _ he, Option.bind_some]
      dsimp +instances only
      rw [if_neg one_nz, x1, Option.bind_some]
      exact y2
end Tq
