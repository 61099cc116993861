theorem nI_mul (a b : Nat) : nI a * nI b = nI (a * b) := (Int32.ofNat_mul a b).symm
theorem ib_n {k N : Nat} (h : k < N) (hN : N < 2 ^ 31) : ib (nI k) N := nI_in h hN
/-! farthest -/
def gapN (k : Nat) : Int32 := if nI (exg k 65535) ≤ rts k then rts k - nI (exg k 65535) else nI (exg k 65535) - rts k
theorem gapN_c (k : Nat) : (if 0 ≤ (rts k - nI (exg k 65535)) then (rts k - nI (exg k 65535)) else 0 - (rts k - nI (exg k 65535))) = gapN k := by
  obtain ⟨a, h1, h2, e⟩ := rts_rng k
  have h3 := (exg_spec k 65535).2.1
  unfold gapN
  rw [e]
  generalize exg k 65535 = x at h3
  have s1 : (nI a - nI x).toInt = (a : Int) - x := by
    rw [Int32.toInt_sub, nI_toInt (by omega), nI_toInt (by omega)]
    exact bm32 (by omega) (by omega)
  have s2 : (nI x - nI a).toInt = (x : Int) - a := by
    rw [Int32.toInt_sub, nI_toInt (by omega), nI_toInt (by omega)]
    exact bm32 (by omega) (by omega)
  have z0 : (0 : Int32).toInt = 0 := by decide +kernel
  by_cases hc : x ≤ a
  · rw [if_pos (by rw [Int32.le_iff_toInt_le, s1, z0]; omega), if_pos (nI_le hc (by omega))]
  · rw [if_neg (by rw [Int32.le_iff_toInt_le, s1, z0]; omega), if_neg (show ¬ nI x ≤ nI a from nI_ge (by omega) (by omega))]
    apply Int32.toInt_inj.mp
    rw [s2, Int32.toInt_sub, z0, s1]
    rw [bm32 (by omega) (by omega)]
    omega
theorem gapN_rng (k : Nat) : ∃ d : Nat, d ≤ 65535 ∧ gapN k = nI d := by
  obtain ⟨a, h1, h2, e⟩ := rts_rng k
  have h3 := (exg_spec k 65535).2.1
  unfold gapN
  rw [e]
  generalize exg k 65535 = x at h3
  by_cases hc : x ≤ a
  · rw [if_pos (nI_le hc (by omega))]
    refine ⟨a - x, by omega, Int32.toInt_inj.mp ?_⟩
    rw [Int32.toInt_sub, nI_toInt (by omega), nI_toInt (by omega), nI_toInt (by omega), bm32 (by omega) (by omega)]
    omega
  · rw [if_neg (show ¬ nI x ≤ nI a from nI_ge (by omega) (by omega))]
    refine ⟨x - a, by omega, Int32.toInt_inj.mp ?_⟩
    rw [Int32.toInt_sub, nI_toInt (by omega), nI_toInt (by omega), nI_toInt (by omega), bm32 (by omega) (by omega)]
    omega
/-- the worst so far, behind the counts up to k -/
def far : Nat → Int32 × Int32
  | 0 => (1, 0)
  | k + 1 => if gapN (k + 1) ≤ (far k).2 then far k else (nI (k + 1), gapN (k + 1))
theorem far_s (k : Nat) : far (k + 1) = if gapN (k + 1) ≤ (far k).2 then far k else (nI (k + 1), gapN (k + 1)) := rfl
theorem far_c (h : Hp) {n : Nat} (hn : n ≤ 999) (x1 : Int32) : ∀ (k i m : Nat), i + k = n → k < m → lp (b_X4_worst_11 (nI n) x1) m (h, rts i, (far i).1, (far i).2, nI (i + 1)) = some (if x1 = 0 then (far n).1 else (far n).2, h)
  | 0, i, m, h2, h3 => by
    obtain ⟨m', rfl⟩ : ∃ m', m = m' + 1 := ⟨m - 1, by omega⟩
    have e : i = n := by omega
    subst e
    rw [lp_s]
    simp only [b_X4_worst_11, if_pos (nI_lt (show i < i + 1 by omega) (by omega))]
    split <;> rfl
  | k + 1, i, m, h2, h3 => by
    obtain ⟨m', rfl⟩ : ∃ m', m = m' + 1 := ⟨m - 1, by omega⟩
    have ih := far_c h hn x1 k (i + 1) m' (by omega) (by omega)
    rw [lp_s]
    generalize lp (b_X4_worst_11 (nI n) x1) m' = K at ih ⊢
    have hq : q_X4_worst_30 K h (nI n) x1 (rts (i + 1)) (far i).1 (far i).2 (nI (i + 1)) = K (h, rts (i + 1), (far (i + 1)).1, (far (i + 1)).2, nI (i + 1 + 1)) := by
      simp only [q_X4_worst_30, trueRoot_c h (show i + 1 ≤ 999 by omega), Option.bind_some, gapN_c, nv_eq, nI_1]
      rw [far_s]
      split <;> rfl
    simp only [b_X4_worst_11, if_neg (nI_nlt (show i + 1 ≤ n by omega) (by omega))]
    by_cases h1 : i = 0
    · subst h1
      have hle : nI (0 + 1) ≤ (1 : Int32) := by decide +kernel
      rw [if_pos hle]
      exact hq.trans ih
    · have hle : ¬ nI (i + 1) ≤ (1 : Int32) := nI_ge (b := i + 1) (a := 1) (by omega) (by omega)
      have e1 : p_X4_step h (rts i) (nI (i + 1)) = some (rts (i + 1), h) := by rw [stp_eq, ← rts_s (by omega)]
      simp only [if_neg hle, e1, Option.bind_some]
      exact hq.trans ih
theorem exg_step (k : Nat) : exg (k + 1) (exg k 65535) = exg (k + 1) 65535 := by
  obtain ⟨a, b, c⟩ := exg_spec (k + 1) 65535
  obtain ⟨a', b', c'⟩ := exg_spec k 65535
  refine exg_uniq a ?_ (fun r h1 h2 => c r h1 (by omega))
  rcases Nat.lt_or_ge (exg k 65535) (exg (k + 1) 65535) with h | h
  · exact absurd (Nat.le_trans (Nat.mul_le_mul_left _ (Nat.le_succ k)) a) (c' _ h b)
  · exact h
theorem far_in (h : Hp) {n : Nat} (hn : n ≤ 999) (x1 x2 x3 x5 x6 : Int32) (k39 : Hp × Int32 × Int32 × Int32 × Int32 × Int32 → Option (Int32 × Hp)) : ∀ (R m : Nat), R ≤ 65535 → R < m → lp (b_X10_farthest_58 k39 x1 x2 x3 x5 x6 (nI n)) m (h, nI R) = if nI (exg n R) ≤ x3 then q_X10_farthest_99 k39 h x1 x2 x3 (nI (exg n R)) x5 x6 (nI n) (x3 - nI (exg n R)) else q_X10_farthest_99 k39 h x1 x2 x3 (nI (exg n R)) x5 x6 (nI n) (nI (exg n R) - x3)
  | 0, m, h1, h2 => by
    obtain ⟨m', rfl⟩ : ∃ m', m = m' + 1 := ⟨m - 1, by omega⟩
    rw [lp_s]
    rw [show exg n 0 = 0 from rfl]
    simp only [b_X10_farthest_58]
    rw [if_pos ((cmpP h1 hn).mpr (by omega))]
  | R + 1, m, h1, h2 => by
    obtain ⟨m', rfl⟩ : ∃ m', m = m' + 1 := ⟨m - 1, by omega⟩
    rw [lp_s]
    by_cases hc : (R + 1) * (R + 1) * n ≤ 4294967296
    · have ex : exg n (R + 1) = R + 1 := if_pos hc
      rw [ex]
      simp only [b_X10_farthest_58]
      rw [if_pos ((cmpP h1 hn).mpr hc)]
    · have ex : exg n (R + 1) = exg n R := if_neg hc
      rw [ex]
      simp only [b_X10_farthest_58]
      rw [if_neg (fun z => hc ((cmpP h1 hn).mp z)), i_pred]
      exact far_in h hn x1 x2 x3 x5 x6 k39 R m' (by omega) (by omega)
theorem far_q (K : Hp × Int32 × Int32 × Int32 × Int32 × Int32 → Option (Int32 × Hp)) (h : Hp) (n x1 : Int32) (i : Nat) (hi : 1 ≤ i) : (if nI (exg (i + 1) 65535) ≤ rts (i + 1) then q_X10_farthest_99 K h n x1 (rts (i + 1)) (nI (exg (i + 1) 65535)) (far i).1 (far i).2 (nI (i + 1)) (rts (i + 1) - nI (exg (i + 1) 65535)) else q_X10_farthest_99 K h n x1 (rts (i + 1)) (nI (exg (i + 1) 65535)) (far i).1 (far i).2 (nI (i + 1)) (nI (exg (i + 1) 65535) - rts (i + 1))) = K (h, rts (i + 1), nI (exg (i + 1) 65535), (far (i + 1)).1, (far (i + 1)).2, nI (i + 1 + 1)) := by
  have e : (if nI (exg (i + 1) 65535) ≤ rts (i + 1) then q_X10_farthest_99 K h n x1 (rts (i + 1)) (nI (exg (i + 1) 65535)) (far i).1 (far i).2 (nI (i + 1)) (rts (i + 1) - nI (exg (i + 1) 65535)) else q_X10_farthest_99 K h n x1 (rts (i + 1)) (nI (exg (i + 1) 65535)) (far i).1 (far i).2 (nI (i + 1)) (nI (exg (i + 1) 65535) - rts (i + 1))) = q_X10_farthest_99 K h n x1 (rts (i + 1)) (nI (exg (i + 1) 65535)) (far i).1 (far i).2 (nI (i + 1)) (gapN (i + 1)) := by
    unfold gapN
    split <;> rfl
  rw [e]
  simp only [q_X10_farthest_99, nI_1]
  rw [far_s]
  by_cases hc : (far i).2 < gapN (i + 1)
  · rw [if_pos hc, if_neg (fa_of_lt hc).2.1]
  · rw [if_neg hc, if_pos (fa_of_nlt hc)]
theorem b39 (K : Hp × Int32 × Int32 × Int32 × Int32 × Int32 → Option (Int32 × Hp)) (h : Hp) {n i E : Nat} (x1 a b : Int32) (hi : 1 ≤ i) (hin : i + 1 ≤ n) (hn : n ≤ 999) (hE : E ≤ 65535) : b_X10_farthest_39 (nI n) x1 K (h, rts i, nI E, a, b, nI (i + 1)) = if nI (exg (i + 1) E) ≤ rts (i + 1) then q_X10_farthest_99 K h (nI n) x1 (rts (i + 1)) (nI (exg (i + 1) E)) a b (nI (i + 1)) (rts (i + 1) - nI (exg (i + 1) E)) else q_X10_farthest_99 K h (nI n) x1 (rts (i + 1)) (nI (exg (i + 1) E)) a b (nI (i + 1)) (nI (exg (i + 1) E) - rts (i + 1)) := by
  have hle : ¬ nI (i + 1) ≤ (1 : Int32) := nI_ge (b := i + 1) (a := 1) (by omega) (by omega)
  obtain ⟨z, ha1, ha2, ha⟩ := rts_rng i
  have e1 : p_X10_stepped h (rts i) (nI (i + 1)) = some (rts (i + 1), h) := by rw [ha, stm_eq h (by omega) (by omega), ← ha, ← rts_s hi]
  rw [← far_in h (show i + 1 ≤ 999 by omega) (nI n) x1 (rts (i + 1)) a b K E FU hE (FU_gt (by omega))]
  simp only [b_X10_farthest_39]
  rw [if_neg (nI_nlt (show i + 1 ≤ n by omega) (by omega)), if_neg hle, e1, Option.bind_some]
theorem far_m (h : Hp) {n : Nat} (hn : n ≤ 999) (x1 : Int32) (k : Nat) : ∀ (i m : Nat), 1 ≤ i → i + k = n → k < m → lp (b_X10_farthest_39 (nI n) x1) m (h, rts i, nI (exg i 65535), (far i).1, (far i).2, nI (i + 1)) = some (if x1 = 0 then (far n).1 else (far n).2, h) := by
  induction k with
  | zero =>
    intro i m h1 h2 h3
    obtain ⟨m', rfl⟩ : ∃ m', m = m' + 1 := ⟨m - 1, by omega⟩
    have e : i = n := by omega
    subst e
    rw [lp_s]
    simp only [b_X10_farthest_39, if_pos (nI_lt (show i < i + 1 by omega) (by omega))]
    split <;> rfl
  | succ k hyp =>
    intro i m h1 h2 h3
    obtain ⟨m', rfl⟩ : ∃ m', m = m' + 1 := ⟨m - 1, by omega⟩
    have ih := hyp (i + 1) m' (by omega) (by omega) (by omega)
    rw [lp_s]
    generalize lp (b_X10_farthest_39 (nI n) x1) m' = K at ih ⊢
    rw [b39 K h x1 _ _ h1 (by omega) hn (exg_spec i 65535).2.1, exg_step, far_q K h _ _ i h1]
    exact ih
theorem gap1 : gapN 1 = 0 := by
  have e : exg 1 65535 = 65535 := exg_uniq (by decide) (by omega) (fun r h1 h2 => by omega)
  unfold gapN
  rw [e]
  decide +kernel
theorem far1 : far 1 = (1, 0) := by
  unfold far
  rw [gap1]
  rfl
theorem farM (h : Hp) {n : Nat} (h1 : 1 ≤ n) (hn : n ≤ 999) (x1 : Int32) : lp (b_X10_farthest_39 (nI n) x1) FU (h, 65535, 65535, 0, (-1), 1) = some (if x1 = 0 then (far n).1 else (far n).2, h) := by
  have e : exg 1 65535 = 65535 := exg_uniq (by decide) (by omega) (fun r h1 h2 => by omega)
  have ih := far_m h hn x1 (n - 1) 1 1999999 (by omega) (by omega) (by omega)
  rw [show FU = 1999999 + 1 from rfl, lp_s]
  generalize lp (b_X10_farthest_39 (nI n) x1) 1999999 = K at ih ⊢
  have c1 : ¬ nI n < (1 : Int32) := nI_nlt (a := n) (b := 1) (by omega) (by omega)
  simp only [b_X10_farthest_39, if_neg c1, if_pos (show (1 : Int32) ≤ 1 by decide)]
  have f1 := far_in h (n := 1) (by omega) (nI n) x1 65535 0 (-1) K 65535 FU (by omega) (FU_gt (by omega))
  rw [e] at f1
  refine Eq.trans (show _ = _ from f1) ?_
  rw [if_pos (show nI 65535 ≤ (65535 : Int32) by decide +kernel)]
  simp only [q_X10_farthest_99]
  rw [if_pos (show (-1 : Int32) < 65535 - nI 65535 by decide +kernel)]
  rw [far1, e] at ih
  exact ih
theorem farthest_q (x y : Int32) : q1 (fun h => p_X9_farthest h 0 x y) (fun h => p_X10_farthest h 110 x y) := by
  by_cases hx : x < 1 ∨ ¬ x ≤ 999
  · refine ⟨-1, fun h => ?_, fun h => ?_⟩
    · show p_X9_farthest h 0 x y = _
      unfold p_X9_farthest
      by_cases h1 : x < 1
      · rw [if_pos h1]
      · rw [if_neg h1, if_pos (fa_of_nle (hx.resolve_left h1))]
    · show p_X10_farthest h 110 x y = _
      unfold p_X10_farthest
      rw [nv_eq, isCount_n _ hx, Option.bind_some, if_pos rfl]
  · obtain ⟨n, h1, h2, rfl⟩ := x_cnt (fun h => hx (Or.inl h)) (Classical.not_not.mp fun h => hx (Or.inr h))
    have g1 : ¬ nI n < 1 := fun z => hx (Or.inl z)
    have g2 : ¬ (999 : Int32) < nI n := nI_nlt (a := 999) h2 (by omega)
    by_cases hy : y < 0 ∨ ¬ y ≤ 1
    · refine ⟨-1, fun h => ?_, fun h => ?_⟩
      · show p_X9_farthest h 0 (nI n) y = _
        unfold p_X9_farthest
        rw [if_neg g1, if_neg g2]
        by_cases h3 : y < 0
        · rw [if_pos h3]
        · rw [if_neg h3, if_neg (hy.resolve_left h3)]
      · show p_X10_farthest h 110 (nI n) y = _
        unfold p_X10_farthest
        rw [nv_eq, isCount_y _ h1 h2, Option.bind_some, if_neg (show ¬ (1 : Int32) = 0 by decide)]
        by_cases h3 : y < 0
        · rw [if_pos h3]
        · rw [if_neg h3, if_neg (hy.resolve_left h3)]
    · have y1 : ¬ y < 0 := fun z => hy (Or.inl z)
      have y2 : y ≤ 1 := Classical.not_not.mp fun z => hy (Or.inr z)
      refine ⟨if y = 0 then (far n).1 else (far n).2, fun h => ?_, fun h => ?_⟩
      · show p_X9_farthest h 0 (nI n) y = _
        unfold p_X9_farthest p_X4_worst
        rw [if_neg g1, if_neg g2, if_neg y1, if_pos y2, show (h, (65535 : Int32), (1 : Int32), (0 : Int32), (1 : Int32)) = (h, rts 0, (far 0).1, (far 0).2, nI (0 + 1)) from rfl, far_c h h2 y n 0 FU (by omega) (FU_gt (by omega))]
        rfl
      · show p_X10_farthest h 110 (nI n) y = _
        unfold p_X10_farthest
        rw [nv_eq, isCount_y _ h1 h2, Option.bind_some, if_neg (show ¬ (1 : Int32) = 0 by decide), if_neg y1, if_pos y2]
        exact farM _ h1 h2 y
/-! keys, sets -/
def stN (k m : Nat) : Nat := k * 40503 % 65536 / 256 % m
theorem setOf_c (h : Hp) {w k m : Nat} (hk : k ≤ 9999) (h1 : 1 ≤ m) (h2 : m ≤ 4) (hm : h (w + 1) 3 = nI m) : p_X8_setOf h w (nI k) = some (nI (stN k m), h) := by
  unfold p_X8_setOf p_X9_remainder
  have e1 : nI k * (40503 : Int32) = nI (k * 40503) := nI_mul k 40503
  have e2 : nI (k * 40503) &&& (65535 : Int32) = nI (k * 40503 % 65536) := fa_mask (k * 40503) 16
  have e3 : nI (k * 40503 % 65536) >>> ((8 : Int32) &&& 31) = nI (k * 40503 % 65536 / 256) := pk_shrN (by omega) _ 8 (by decide +kernel)
  have c1 : ¬ nI m ≤ (0 : Int32) := nI_nle (by omega) (by omega)
  rw [hm, e1, e2, e3, if_neg c1, if_pos (nI_ne0 (by omega) (by omega)), pk_rem (by omega) (by omega) (by omega)]
  rfl
theorem setOf_m (h : Hp) {k m : Nat} (hk : k ≤ 9999) (h1 : 1 ≤ m) (h2 : m ≤ 4) : p_X10_setOf h (nI k) (nI m) = some (nI (stN k m), h) := by
  unfold p_X10_setOf
  have e1 : nI k * (40503 : Int32) = nI (k * 40503) := nI_mul k 40503
  have e2 : nI (k * 40503) - nI (k * 40503) / (65536 : Int32) * 65536 = nI (k * 40503 % 65536) := pk_rem (a := k * 40503) (d := 65536) (by omega) (by omega) (by omega)
  have e3 : nI (k * 40503 % 65536) / (256 : Int32) = nI (k * 40503 % 65536 / 256) := pk_div (d := 256) (by omega) (by omega) (by omega)
  rw [e1, e2, e3, if_pos (nI_ne0 (by omega) (by omega)), pk_rem (by omega) (by omega) (by omega)]
  rfl
