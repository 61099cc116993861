/-! bestTarget: the loops -/
section Tb
variable {Bd : Nat} {h : Hp}
theorem bt_main (G : GR Bd h) {d : Nat} (hd : Bd + d ≤ 5000000) (hd2 : d ≤ 200) (w : Nat) : ∀ (T k : Nat) (hc : Hp) (bc bm yy : Int32), KC h hc → 100 ≤ T + w → k < T → T ≤ 100000000 → (bc = bm ∨ (yy = -1 ∧ T ≤ 99)) → ∃ r h', KC h h' ∧ (∀ M, w < M → lp (b_X6_targetOfMostBytes_15 (0 + 59) (0 + 10) (nI d)) M (hc, bc, yy, nI T, nI k) = some (r, h')) ∧ ∀ b X, (∀ k, k < 3715 → b 116 k = h 116 k) → b 110 22 = -2 → KM b X → ∀ M, w + 1 < M → ∃ X', KM b X' ∧ lp (b_X10_bestTarget_32 110 (nI d)) M (X, bm, yy, nI T) = some (r, X') := by
  have t99 : tbv 2 (Int32.toNatClampNeg 0) = 99 := rfl
  have endM : ∀ (T : Nat), 100 ≤ T → T < 2 ^ 31 → ∀ (X : Hp) (bm yy : Int32) M, 0 < M → lp (b_X10_bestTarget_32 110 (nI d)) M (X, bm, yy, nI T) = some (bm, X) := fun T h1 h2 X bm yy M hM => by
    obtain ⟨M', rfl⟩ : ∃ m', M = m' + 1 := ⟨M - 1, by omega⟩
    rw [lp_s]
    generalize lp (b_X10_bestTarget_32 110 (nI d)) M' = Kk
    unfold b_X10_bestTarget_32
    dsimp +instances only
    rw [if_pos (show (99 : Int32) < nI T from nI_lt (a := 99) (by omega) h2)]
  have endC : ∀ (T k : Nat), 100 ≤ T → T < 2 ^ 31 → ∀ (X : Hp) (bc yy : Int32) M, 0 < M → lp (b_X6_targetOfMostBytes_15 (0 + 59) (0 + 10) (nI d)) M (X, bc, yy, nI T, nI k) = some (bc, X) := fun T k h1 h2 X bc yy M hM => by
    obtain ⟨M', rfl⟩ : ∃ m', M = m' + 1 := ⟨M - 1, by omega⟩
    rw [lp_s]
    generalize lp (b_X6_targetOfMostBytes_15 (0 + 59) (0 + 10) (nI d)) M' = Kk
    unfold b_X6_targetOfMostBytes_15
    dsimp +instances only
    rw [t99]
    by_cases z : (99 : Int32) ≤ nI k
    · rw [if_pos z]
    · rw [if_neg z, if_pos (show (99 : Int32) < nI T from nI_lt (a := 99) (by omega) h2)]
  induction w using Nat.strongRecOn with
  | ind w ih =>
    intro T k hc bc bm yy K hw hk hT hbb
    by_cases c : 100 ≤ T
    · have eb : bc = bm := hbb.resolve_right (fun u => by omega)
      refine ⟨bc, hc, K, fun M hM => endC T k c (by omega) hc bc yy M (by omega), fun b X hb h22 KX M hM => ⟨X, KX, ?_⟩⟩
      rw [endM T c (by omega) X bm yy M (by omega), eb]
    · obtain ⟨hB, h', LL, v, b1, b2, D⟩ := bt_it G hd hd2 (show T ≤ 99 by omega) K
      have l1 := D.2.2.1
      have l2 := D.2.2.2.1
      have v3 := D.2.2.2.2.1
      have stepC : ∀ M, lp (b_X6_targetOfMostBytes_15 (0 + 59) (0 + 10) (nI d)) (M + 1) (hc, bc, yy, nI T, nI k) = if nI v ≤ yy then lp (b_X6_targetOfMostBytes_15 (0 + 59) (0 + 10) (nI d)) M (h', bc, yy, nI (LL + 1), nI (k + 1)) else lp (b_X6_targetOfMostBytes_15 (0 + 59) (0 + 10) (nI d)) M (h', nI T, nI v, nI (LL + 1), nI (k + 1)) := fun M => by
        rw [lp_s]
        generalize lp (b_X6_targetOfMostBytes_15 (0 + 59) (0 + 10) (nI d)) M = Kk
        have := lp_it (b := b_X6_targetOfMostBytes_54 Kk (0 + 59) (0 + 10) (nI d) bc yy (nI T) (nI k)) (f := fun h => p_X8_tick h (0 + 59 + 1)) (N := d) (fin := fun q => Option.bind (p_X1_bytesSentFrom q (0 + 59 + 1 + 2) (q (0 + 59) 1)) fun r1 => if r1.1 ≤ yy then (nv ((r1.2 (0 + 59 + 1) 12) + 1) fun v2 => Kk (r1.2, bc, yy, v2, nI k + 1)) else (nv ((r1.2 (0 + 59 + 1) 12) + 1) fun v3 => Kk (r1.2, nI T, r1.1, v3, nI k + 1))) (fun K h i hi => by
          unfold b_X6_targetOfMostBytes_54
          dsimp +instances only
          rw [if_neg (nI_ge hi (by omega)), nI_1]) (fun K h => by
          unfold b_X6_targetOfMostBytes_54
          dsimp +instances only
          rw [if_pos (nI_le (Nat.le_refl _) (by omega))]) d 0 FU _ h' (by omega) (FU_gt (by omega)) b2
        rw [nI_0] at this
        unfold b_X6_targetOfMostBytes_15
        dsimp +instances only
        rw [t99, if_neg (show ¬ (99 : Int32) ≤ nI k from nI_ge (b := 99) (by omega) (by omega)), if_neg (show ¬ (99 : Int32) < nI T from nI_nlt (a := 99) (by omega) (by omega)), b1, Option.bind_some, nv_eq, this, D.2.2.2.2.2.1, Option.bind_some]
        dsimp +instances only
        rw [D.2.1, nv_eq, nv_eq, nI_1, nI_1]
      -- after this run
      have next : ∀ (bc' bm' yy' : Int32), bc' = bm' → (∀ M, lp (b_X6_targetOfMostBytes_15 (0 + 59) (0 + 10) (nI d)) (M + 1) (hc, bc, yy, nI T, nI k) = lp (b_X6_targetOfMostBytes_15 (0 + 59) (0 + 10) (nI d)) M (h', bc', yy', nI (LL + 1), nI (k + 1))) → (∀ b X, (∀ k, k < 3715 → b 116 k = h 116 k) → b 110 22 = -2 → KM b X → ∀ j M, 1 ≤ j → T + j ≤ LL + 1 → T + j ≤ 100 → ∃ X', KM b X' ∧ lp (b_X10_bestTarget_32 110 (nI d)) (M + j) (X, bm, yy, nI T) = lp (b_X10_bestTarget_32 110 (nI d)) M (X', bm', yy', nI (T + j))) → ∃ r h', KC h h' ∧ (∀ M, w < M → lp (b_X6_targetOfMostBytes_15 (0 + 59) (0 + 10) (nI d)) M (hc, bc, yy, nI T, nI k) = some (r, h')) ∧ ∀ b X, (∀ k, k < 3715 → b 116 k = h 116 k) → b 110 22 = -2 → KM b X → ∀ M, w + 1 < M → ∃ X', KM b X' ∧ lp (b_X10_bestTarget_32 110 (nI d)) M (X, bm, yy, nI T) = some (r, X') := fun bc' bm' yy' ee sC sM => by
        by_cases c2 : 100 ≤ LL + 1
        · refine ⟨bc', h', D.1, fun M hM => ?_, fun b X hb h22 KX M hM => ?_⟩
          · obtain ⟨M', rfl⟩ : ∃ m', M = m' + 1 := ⟨M - 1, by omega⟩
            rw [sC]
            exact endC (LL + 1) (k + 1) c2 (by omega) h' bc' yy' M' (by omega)
          · obtain ⟨X', k1, k2⟩ := sM b X hb h22 KX (100 - T) (M - (100 - T)) (by omega) (by omega) (by omega)
            refine ⟨X', k1, ?_⟩
            rw [show M - (100 - T) + (100 - T) = M by omega] at k2
            rw [k2, show T + (100 - T) = 100 by omega, endM 100 (by omega) (by omega) X' _ _ _ (by omega), ee]
        · obtain ⟨r, h2, i1, i2, i3⟩ := ih (100 - (LL + 1)) (by omega) (LL + 1) (k + 1) h' bc' bm' yy' D.1 (by omega) (by omega) (by omega) (Or.inl ee)
          refine ⟨r, h2, i1, fun M hM => ?_, fun b X hb h22 KX M hM => ?_⟩
          · obtain ⟨M', rfl⟩ : ∃ m', M = m' + 1 := ⟨M - 1, by omega⟩
            rw [sC]
            exact i2 M' (by omega)
          · obtain ⟨X1, k1, k2⟩ := sM b X hb h22 KX (LL + 1 - T) (M - (LL + 1 - T)) (by omega) (by omega) (by omega)
            obtain ⟨X', k3, k4⟩ := i3 b X1 hb h22 k1 (M - (LL + 1 - T)) (by omega)
            refine ⟨X', k3, ?_⟩
            rw [show M - (LL + 1 - T) + (LL + 1 - T) = M by omega] at k2
            rw [k2, show T + (LL + 1 - T) = LL + 1 by omega, k4]
      by_cases cv : nI v ≤ yy
      · have eb : bc = bm := hbb.resolve_right (fun u => by
          rw [u.1] at cv
          exact absurd (Int32.le_trans (nI_pos' (n := v) (by omega)) cv) (by decide))
        refine next bc bm yy eb (fun M => by rw [stepC, if_pos cv]) (fun b X hb h22 KX j M j1 j2 j3 => ?_)
        obtain ⟨X', k1, k2⟩ := bt_all D hb h22 bm yy KX j1 j2 j3 M
        exact ⟨X', k1, by rw [k2, if_neg (fun u => (fa_of_lt u).2.1 cv)]⟩
      · refine next (nI T) (nI T) (nI v) rfl (fun M => by rw [stepC, if_neg cv]) (fun b X hb h22 KX j M j1 j2 j3 => ?_)
        obtain ⟨X', k1, k2⟩ := bt_all D hb h22 bm yy KX j1 j2 j3 M
        exact ⟨X', k1, by rw [k2, if_pos (fa_of_nle cv)]⟩
theorem bestTarget_m (G : GR Bd h) (hB : Bd + 1000 ≤ 5000000) (x : Int32) : Met2 (Bd + 1000) h (fun h => p_X9_bestTarget h 0 x) (fun h => p_X10_bestTarget h 110 x) := by
  have bad : (x < 1 ∨ (200 : Int32) < x) → Met2 (Bd + 1000) h (fun h => p_X9_bestTarget h 0 x) (fun h => p_X10_bestTarget h 110 x) := fun a => by
    refine no_m G hB (r := -1) ?_ ?_
    · show p_X9_bestTarget h 0 x = _
      unfold p_X9_bestTarget
      rw [fit18_n h a, Option.bind_some]
      dsimp +instances only
      rw [if_pos rfl]
    · show p_X10_bestTarget h 110 x = _
      unfold p_X10_bestTarget
      rw [nv_eq, isT_n _ a, Option.bind_some]
      dsimp +instances only
      rw [if_pos rfl]
  rcases rng3 x (lo := 1) (hi := 200) (by omega) (by omega) with a | a | ⟨d, hd1, hd2, rfl⟩
  · exact bad (Or.inl a)
  · exact bad (Or.inr a)
  · obtain ⟨r, h', K, q1, q2⟩ := bt_main G (d := d) (by omega) hd2 99 1 0 h (nI 1) (-1) (-1) (KC.refl G) (by omega) (by omega) (by omega) (Or.inr ⟨rfl, by omega⟩)
    have q1' := q1 FU (FU_gt (by omega))
    rw [nI_0] at q1'
    have g5 : h 110 22 = -2 := by
      obtain ⟨_, _, _, _, _, _, _, _, _, _, _, _, _, _, g5, _, _⟩ := G
      exact g5
    refine tri_m G hB (r := r) (h1 := h') ?_ K (fun G1 => ?_)
    · show p_X9_bestTarget h 0 (nI d) = _
      unfold p_X9_bestTarget p_X6_targetOfMostBytes
      rw [fit18_y h hd1 hd2, Option.bind_some]
      dsimp +instances only
      rw [if_neg one_nz, nv_eq, show tbv 1 (Int32.toNatClampNeg 0) = nI 1 from rfl, q1', Option.bind_some]
    · obtain ⟨X, x1, x2⟩ := m_copy (hp h' 110 0 0)
      obtain ⟨X', y1, y2⟩ := q2 (hp h' 110 0 0) X (fun k hk => by rw [hp_n (by omega), K.1 _ (by omega)]) (by rw [hp_k _ _ (by omega), K.1 _ (by omega), g5]) x2 FU (FU_gt (by omega))
      refine ⟨X', ?_, y1⟩
      show p_X10_bestTarget h' 110 (nI d) = _
      unfold p_X10_bestTarget
      rw [nv_eq, isT_y _ hd1 hd2, Option.bind_some]
      dsimp +instances only
      rw [if_neg one_nz, x1, Option.bind_some]
      exact y2
end Tb
