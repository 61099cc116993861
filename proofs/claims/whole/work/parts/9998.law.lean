/-! the law: one call -/
theorem met_use {Bd : Nat} {h : Hp} {c mm : Hp → Option (Int32 × Hp)} (M : Met2 Bd h c mm) (K : Hp → Option Unit) : ∃ h', GR Bd h' ∧ (Option.bind (c h) fun r7 => Option.bind (mm r7.2) fun r13 => if r7.1 = r13.1 then K r13.2 else none) = K h' := by
  obtain ⟨r, h1, h2, a, b, G⟩ := M
  refine ⟨h2, G, ?_⟩
  rw [a, Option.bind_some]
  dsimp +instances only
  rw [b, Option.bind_some, if_pos rfl]
theorem metB_use {Bd : Nat} {h : Hp} {x z : Int32} (M : MetB Bd h x z) (K : Hp → Option Unit) : ∃ h', GR Bd h' ∧ (Option.bind (p_L_bk h 0 x z 120) fun r112 => Option.bind (p_X10_bucket r112.2 110 x z) fun r115 => Option.bind (p_X10_thrown r115.2 110) fun r116 => if r116.1 = r112.1 then (if r112.1 = 0 then (if (lg_cmp (Int32.toInt64 (r116.2 120 0)) (Int32.toInt64 r115.1)) = 0 then (K r116.2) else (none)) else (K r116.2)) else (none)) = K h' := by
  obtain ⟨r, h1, v, h2, a, b, c, d, G⟩ := M
  refine ⟨h2, G, ?_⟩
  rw [a, Option.bind_some]
  dsimp +instances only
  rw [b, Option.bind_some]
  dsimp +instances only
  unfold p_X10_thrown
  rw [Option.bind_some]
  dsimp +instances only
  rw [if_pos c]
  by_cases u : r = 0
  · rw [if_pos u, d u, if_pos ((lg_cmp_eq _ _).mpr rfl)]
  · rw [if_neg u]
set_option maxRecDepth 4000 in
set_option maxHeartbeats 4000000 in
theorem law_step {Bd i L : Nat} {h : Hp} {xs : Nat → Int32} (G : GR Bd h) (hB : Bd + 200000 ≤ 5000000) (h9 : 899000 ≤ Bd) (hi : 6 * i + 6 ≤ L) (hL : L ≤ 3072) (K : Hp × Int32 → Option Unit) : ∃ h', GR (Bd + 1000) h' ∧ b_law xs L K (h, nI (6 * i)) = K (h', nI (6 * i) + 6) := by
  have hB1 : Bd + 1000 ≤ 5000000 := by omega
  have i0 : ib (nI (6 * i)) L := ib_n (by omega) (by omega)
  have i1 : ib (nI (6 * i) + 1) L := by rw [show nI (6 * i) + 1 = nI (6 * i + 1) from nI_add _ 1]; exact ib_n (by omega) (by omega)
  have i2 : ib (nI (6 * i) + 2) L := by rw [show nI (6 * i) + 2 = nI (6 * i + 2) from nI_add _ 2]; exact ib_n (by omega) (by omega)
  have i3 : ib (nI (6 * i) + 3) L := by rw [show nI (6 * i) + 3 = nI (6 * i + 3) from nI_add _ 3]; exact ib_n (by omega) (by omega)
  have i4 : ib (nI (6 * i) + 4) L := by rw [show nI (6 * i) + 4 = nI (6 * i + 4) from nI_add _ 4]; exact ib_n (by omega) (by omega)
  have i5 : ib (nI (6 * i) + 5) L := by rw [show nI (6 * i) + 5 = nI (6 * i + 5) from nI_add _ 5]; exact ib_n (by omega) (by omega)
  have cl : ¬ Int32.ofNat L - 6 < nI (6 * i) := by
    rw [show Int32.ofNat L - 6 = nI (L - 6) from pk_sub (a := L) (b := 6) (by omega)]
    exact nI_nlt (by omega) (by omega)
  unfold b_law
  dsimp +instances only
  simp only [if_neg cl, if_pos i0, if_pos i1, if_pos i2, if_pos i3, if_pos i4, if_pos i5]
  generalize xs (Int32.toNatClampNeg (nI (6 * i) + 1)) = y1
  generalize xs (Int32.toNatClampNeg (nI (6 * i) + 2)) = y2
  generalize xs (Int32.toNatClampNeg (nI (6 * i) + 3)) = y3
  generalize xs (Int32.toNatClampNeg (nI (6 * i) + 4)) = y4
  generalize xs (Int32.toNatClampNeg (nI (6 * i) + 5)) = y5
  generalize (xs (Int32.toNatClampNeg (nI (6 * i)))) &&& 63 = cc
  by_cases c0 : cc = 0
  · rw [if_pos c0]
    exact met_use (feed_m G hB1 y1 y2 y3 y4 y5) (fun g => K (g, nI (6 * i) + 6))
  rw [if_neg c0]
  by_cases c1 : cc = 1
  · rw [if_pos c1]
    exact met_use (text_m G hB1 (by omega) y1) (fun g => K (g, nI (6 * i) + 6))
  rw [if_neg c1]
  by_cases c2 : cc = 2
  · rw [if_pos c2]
    exact met_use (fault_m G hB1 y1) (fun g => K (g, nI (6 * i) + 6))
  rw [if_neg c2]
  by_cases c3 : cc = 3
  · rw [if_pos c3]
    exact met_use (come_m G hB1 y1 y2 y3) (fun g => K (g, nI (6 * i) + 6))
  rw [if_neg c3]
  by_cases c4 : cc = 4
  · rw [if_pos c4]
    exact met_use (pass_m G hB1 y1) (fun g => K (g, nI (6 * i) + 6))
  rw [if_neg c4]
  by_cases c5 : cc = 5
  · rw [if_pos c5]
    exact met_use (go_m' G hB1 ) (fun g => K (g, nI (6 * i) + 6))
  rw [if_neg c5]
  by_cases c6 : cc = 6
  · rw [if_pos c6]
    exact met_use (run_m G hB1 y1) (fun g => K (g, nI (6 * i) + 6))
  rw [if_neg c6]
  by_cases c7 : cc = 7
  · rw [if_pos c7]
    exact met_use (sender_m G hB1 y1 y2) (fun g => K (g, nI (6 * i) + 6))
  rw [if_neg c7]
  by_cases c8 : cc = 8
  · rw [if_pos c8]
    exact met_use (whose_m G hB1 y1) (fun g => K (g, nI (6 * i) + 6))
  rw [if_neg c8]
  by_cases c9 : cc = 9
  · rw [if_pos c9]
    exact met_use (ifRun_m G hB1 y1 y2) (fun g => K (g, nI (6 * i) + 6))
  rw [if_neg c9]
  by_cases c10 : cc = 10
  · rw [if_pos c10]
    exact met_use (firstCut_m G hB1 y1) (fun g => K (g, nI (6 * i) + 6))
  rw [if_neg c10]
  by_cases c11 : cc = 11
  · rw [if_pos c11]
    exact met_use (leastLimit_m G hB1 y1) (fun g => K (g, nI (6 * i) + 6))
  rw [if_neg c11]
  by_cases c12 : cc = 12
  · rw [if_pos c12]
    exact met_use (bestTarget_m G hB1 y1) (fun g => K (g, nI (6 * i) + 6))
  rw [if_neg c12]
  by_cases c13 : cc = 13
  · rw [if_pos c13]
    exact met_use (settle_m G hB1 y1 y2) (fun g => K (g, nI (6 * i) + 6))
  rw [if_neg c13]
  by_cases c14 : cc = 14
  · rw [if_pos c14]
    exact met_use (watch_m G hB1 y1 y2) (fun g => K (g, nI (6 * i) + 6))
  rw [if_neg c14]
  by_cases c15 : cc = 15
  · rw [if_pos c15]
    exact met_use (watched_m G hB1 y1) (fun g => K (g, nI (6 * i) + 6))
  rw [if_neg c15]
  by_cases c16 : cc = 16
  · rw [if_pos c16]
    exact met_use (set_m G hB1 y1) (fun g => K (g, nI (6 * i) + 6))
  rw [if_neg c16]
  by_cases c17 : cc = 17
  · rw [if_pos c17]
    exact met_use (bucketFor_m G hB1 y1) (fun g => K (g, nI (6 * i) + 6))
  rw [if_neg c17]
  by_cases c18 : cc = 18
  · rw [if_pos c18]
    exact metB_use (bucket_m G hB1 y1 y2) (fun g => K (g, nI (6 * i) + 6))
  rw [if_neg c18]
  by_cases c19 : cc = 19
  · rw [if_pos c19]
    exact met_use (inBucket_m G hB1 y1 y2) (fun g => K (g, nI (6 * i) + 6))
  rw [if_neg c19]
  by_cases c20 : cc = 20
  · rw [if_pos c20]
    exact met_use (order_m G hB1 y1) (fun g => K (g, nI (6 * i) + 6))
  rw [if_neg c20]
  by_cases c21 : cc = 21
  · rw [if_pos c21]
    exact met_use (frame_m G hB1 y1 y2) (fun g => K (g, nI (6 * i) + 6))
  rw [if_neg c21]
  by_cases c22 : cc = 22
  · rw [if_pos c22]
    exact met_use (past_m G hB1 y1 y2) (fun g => K (g, nI (6 * i) + 6))
  rw [if_neg c22]
  by_cases c23 : cc = 23
  · rw [if_pos c23]
    exact met_use (eldest_m G hB1 y1 y2) (fun g => K (g, nI (6 * i) + 6))
  rw [if_neg c23]
  by_cases c24 : cc = 24
  · rw [if_pos c24]
    exact met_use (least_m G hB1 y1) (fun g => K (g, nI (6 * i) + 6))
  rw [if_neg c24]
  by_cases c25 : cc = 25
  · rw [if_pos c25]
    exact met_use (rootBy_m' G hB1 y1) (fun g => K (g, nI (6 * i) + 6))
  rw [if_neg c25]
  by_cases c26 : cc = 26
  · rw [if_pos c26]
    exact met_use (exact_m' G hB1 y1) (fun g => K (g, nI (6 * i) + 6))
  rw [if_neg c26]
  by_cases c27 : cc = 27
  · rw [if_pos c27]
    exact met_use (farthest_m' G hB1 y1 y2) (fun g => K (g, nI (6 * i) + 6))
  rw [if_neg c27]
  by_cases c28 : cc = 28
  · rw [if_pos c28]
    exact met_use (flow_m G hB1 y1 y2) (fun g => K (g, nI (6 * i) + 6))
  rw [if_neg c28]
  by_cases c29 : cc = 29
  · rw [if_pos c29]
    exact met_use (uneven_m G hB1 ) (fun g => K (g, nI (6 * i) + 6))
  rw [if_neg c29]
  by_cases c30 : cc = 30
  · rw [if_pos c30]
    exact met_use (ahead_m G hB1 y1) (fun g => K (g, nI (6 * i) + 6))
  rw [if_neg c30]
  by_cases c31 : cc = 31
  · rw [if_pos c31]
    exact met_use (drain_m G hB1 hB y1 y2) (fun g => K (g, nI (6 * i) + 6))
  rw [if_neg c31]
  by_cases c32 : cc = 32
  · rw [if_pos c32]
    exact met_use (leastTarget_m G hB1 hB y1) (fun g => K (g, nI (6 * i) + 6))
  rw [if_neg c32]
  by_cases c33 : cc = 33
  · rw [if_pos c33]
    exact met_use (bestQuantum_m G hB1 hB y1) (fun g => K (g, nI (6 * i) + 6))
  rw [if_neg c33]
  by_cases c34 : cc = 34
  · rw [if_pos c34]
    exact met_use (shared_m G hB1 ) (fun g => K (g, nI (6 * i) + 6))
  rw [if_neg c34]
  by_cases c35 : cc = 35
  · rw [if_pos c35]
    exact met_use (within_m G hB1 y1 y2) (fun g => K (g, nI (6 * i) + 6))
  rw [if_neg c35]
  by_cases c36 : cc = 36
  · rw [if_pos c36]
    exact met_use (middle_m G hB1 ) (fun g => K (g, nI (6 * i) + 6))
  rw [if_neg c36]
  by_cases c37 : cc = 37
  · rw [if_pos c37]
    exact met_use (load_m G hB1 y1) (fun g => K (g, nI (6 * i) + 6))
  rw [if_neg c37]
  by_cases c38 : cc = 38
  · rw [if_pos c38]
    exact met_use (count_m G hB1 y1) (fun g => K (g, nI (6 * i) + 6))
  rw [if_neg c38]
  exact ⟨h, G.bd (by omega) hB1, rfl⟩
theorem law_loop {L : Nat} {xs : Nat → Int32} (hL : L ≤ 3072) : ∀ (m i : Nat) (h : Hp), GR (899000 + 1000 * i) h → 6 * i ≤ L + 5 → L + 6 ≤ 6 * (i + m) + 5 → ∀ M, m < M → lp (b_law xs L) M (h, nI (6 * i)) = some () := by
  intro m
  induction m with
  | zero =>
    intro i h G h1 h2 M hM
    obtain ⟨M', rfl⟩ : ∃ m', M = m' + 1 := ⟨M - 1, by omega⟩
    rw [lp_s]
    generalize lp (b_law xs L) M' = K
    unfold b_law
    rw [if_pos]
    show Int32.ofNat L - 6 < nI (6 * i)
    by_cases u : 6 ≤ L
    · rw [show Int32.ofNat L - 6 = nI (L - 6) from pk_sub (a := L) (b := 6) u]
      exact nI_lt (by omega) (by omega)
    · exact fa_trans (pk_sneg (a := L) (b := 6) (by omega) (by omega)) (nI_pos' (by omega))
  | succ m ih =>
    intro i h G h1 h2 M hM
    obtain ⟨M', rfl⟩ : ∃ m', M = m' + 1 := ⟨M - 1, by omega⟩
    rw [lp_s]
    by_cases u : 6 * i + 6 ≤ L
    · obtain ⟨h', G', e⟩ := law_step G (by omega) (by omega) u hL (lp (b_law xs L) M')
      rw [e, show nI (6 * i) + 6 = nI (6 * (i + 1)) from nI_add (6 * i) 6]
      exact ih (i + 1) h' (by rw [show 899000 + 1000 * (i + 1) = 899000 + 1000 * i + 1000 by omega]; exact G') (by omega) (by omega) M' (by omega)
    · generalize lp (b_law xs L) M' = K
      unfold b_law
      rw [if_pos]
      show Int32.ofNat L - 6 < nI (6 * i)
      by_cases v : 6 ≤ L
      · rw [show Int32.ofNat L - 6 = nI (L - 6) from pk_sub (a := L) (b := 6) v]
        exact nI_lt (by omega) (by omega)
      · exact fa_trans (pk_sneg (a := L) (b := 6) (by omega) (by omega)) (nI_pos' (by omega))
theorem law_pure {h2 : Hp} (G : GR 0 (H0 h2)) {L : Nat} (hL : L ≤ 3072) (xs : Nat → Int32) : lp (b_law xs L) 600 (H0 h2, 0) = some () := by
  have G1 : GR (899000 + 1000 * 0) (H0 h2) := G.bd (Nat.zero_le _) (Nat.le_of_ble_eq_true rfl)
  have := law_loop (xs := xs) hL 513 0 (H0 h2) G1 (by omega) (by omega) 600 (by omega)
  rw [show nI (6 * 0) = 0 from rfl] at this
  exact this
