/-! within, middle, count, bucket -/
theorem nd_cnt : ∀ (n : Nat) (P : Nat → Bool) (M : List Nat), M.Nodup → (∀ f, f ∈ M ↔ f < n ∧ P f = true) → M.length = fa_cnt P n
  | 0, P, M, _, e => by
    cases M with
    | nil => rfl
    | cons a M => exact absurd ((e a).mp (List.mem_cons_self)).1 (Nat.not_lt_zero a)
  | n + 1, P, M, d, e => by
    by_cases hn : P n = true
    · have hm : n ∈ M := (e n).mpr ⟨Nat.lt_succ_self n, hn⟩
      have ih := nd_cnt n P (M.erase n) (d.erase n) (fun f => by
        rw [d.mem_erase_iff, e f]
        constructor
        · rintro ⟨a, b, c⟩
          exact ⟨by omega, c⟩
        · rintro ⟨a, c⟩
          exact ⟨by omega, by omega, c⟩)
      have hl := List.length_erase_of_mem hm
      have hp := List.length_pos_of_mem hm
      rw [fa_cnt_yes hn, ← ih, hl]
      omega
    · rw [fa_cnt_no (Bool.eq_false_iff.mpr hn)]
      refine nd_cnt n P M d (fun f => ?_)
      rw [e f]
      constructor
      · rintro ⟨a, c⟩
        have : f ≠ n := fun u => hn (u ▸ c)
        exact ⟨by omega, c⟩
      · rintro ⟨a, c⟩
        exact ⟨by omega, c⟩
theorem fa_cnt_co (p : Nat → Bool) : ∀ n, fa_cnt p n + fa_cnt (fun i => !p i) n = n
  | 0 => rfl
  | n + 1 => by
    have ih := fa_cnt_co p n
    by_cases hn : p n = true
    · rw [fa_cnt_yes hn, fa_cnt_no (p := fun i => !p i) (by rw [hn]; rfl)]
      omega
    · rw [fa_cnt_no (Bool.eq_false_iff.mpr hn), fa_cnt_yes (p := fun i => !p i) (by rw [Bool.eq_false_iff.mpr hn]; rfl)]
      omega
theorem filt_take {P : Nat → Bool} {M : List Nat} {i f : Nat} (hi : M[i]? = some f) : ((M.take (i + 1)).filter P).length = ((M.take i).filter P).length + (if P f then 1 else 0) := by
  rw [List.take_add_one, hi, List.filter_append, List.length_append]
  congr 1
  cases hp : P f
  · simp [hp]
  · simp [hp]
section Qc
variable {Bd : Nat} {h : Hp}
def wiv (S : Nat → Int32) (lo hi : Int32) (f : Nat) : Bool := decide (¬ wt S f < lo ∧ ¬ hi < wt S f)
def wi1 (S : Nat → Int32) (lo hi : Int32) (f : Nat) : Bool := decide (S (276 + 12 * f + 6) = 1) && wiv S lo hi f
section Cl
variable {bg rl : Bool} {tb : Nat → Int32} {m y sn n N w : Nat} {nw ol L : List Nat} {S : Nat → Int32}
theorem sent_mem (R : Rel bg rl tb m y sn Bd n N 200 nw ol L h w S) (f : Nat) : f ∈ pl S 1 L ↔ f < n ∧ S (276 + 12 * f + 6) = 1 := by
  have hnn := R.n200
  unfold pl
  rw [List.mem_filter, R.el.2.2.2.2.2.1 f, decide_eq_true_iff]
  constructor
  · rintro ⟨⟨a, b, c⟩, d⟩
    exact ⟨a, d⟩
  · rintro ⟨a, d⟩
    exact ⟨⟨a, by omega, by rw [d]; decide⟩, d⟩
theorem sent_nd (R : Rel bg rl tb m y sn Bd n N 200 nw ol L h w S) : (pl S 1 L).Nodup := R.el.2.2.2.2.1.filter _
theorem sent_len (R : Rel bg rl tb m y sn Bd n N 200 nw ol L h w S) : (pl S 1 L).length ≤ n := nd_len n _ (sent_nd R) (fun x hx => ((sent_mem R x).mp hx).1)
theorem sent_cnt (R : Rel bg rl tb m y sn Bd n N 200 nw ol L h w S) (P : Nat → Bool) : ((pl S 1 L).filter P).length = fa_cnt (fun f => decide (S (276 + 12 * f + 6) = 1) && P f) n := by
  refine nd_cnt n _ _ ((sent_nd R).filter _) (fun f => ?_)
  rw [List.mem_filter, sent_mem R f, Bool.and_eq_true, decide_eq_true_iff]
  constructor
  · rintro ⟨⟨a, b⟩, c⟩
    exact ⟨a, b, c⟩
  · rintro ⟨a, b, c⟩
    exact ⟨⟨a, b⟩, c⟩
theorem c_within (R : Rel bg rl tb m y sn Bd n N 200 nw ol L h w S) (lo hi : Int32) : p_X1_sentWithin h (w + 2) lo hi = some (nI (fa_cnt (wi1 S lo hi) n), h) := by
  have hnn := R.n200
  unfold p_X1_sentWithin
  have := lp_for (b := b_X1_sentWithin_5 (w + 2) lo hi) (fun i => (h, nI (fa_cnt (wi1 S lo hi) i), nI i)) n (nI (fa_cnt (wi1 S lo hi) n), h) (fun K i hi' => by
    have i2 : ib (nI i) 200 := ib_n (by omega) (by omega)
    unfold b_X1_sentWithin_5
    dsimp +instances only
    rw [if_neg (by rw [R.many, R.i1]; exact nI_ge hi' (by omega))]
    simp only [if_pos i2, nI_clamp (show i < 2 ^ 31 by omega)]
    rw [R.f9 hi' (by omega), c_waitOf R hi', Option.bind_some]
    dsimp +instances only
    rw [c_waitOf R hi', Option.bind_some]
    dsimp +instances only
    rw [nI_1 i]
    by_cases c1 : S (276 + 12 * i + 6) = 1
    · rw [if_pos c1]
      by_cases c2 : wt S i < lo
      · rw [if_pos c2, fa_cnt_no (p := wi1 S lo hi) (by unfold wi1; rw [show wiv S lo hi i = false from decide_eq_false (fun u => u.1 c2), Bool.and_false])]
      · rw [if_neg c2]
        by_cases c3 : hi < wt S i
        · rw [if_pos c3, fa_cnt_no (p := wi1 S lo hi) (by unfold wi1; rw [show wiv S lo hi i = false from decide_eq_false (fun u => u.2 c3), Bool.and_false])]
        · rw [if_neg c3, fa_cnt_yes (p := wi1 S lo hi) (by unfold wi1; rw [decide_eq_true c1, show wiv S lo hi i = true from decide_eq_true ⟨c2, c3⟩]; rfl), nI_1]
    · rw [if_neg c1, fa_cnt_no (p := wi1 S lo hi) (by unfold wi1; rw [decide_eq_false c1, Bool.false_and])]) (fun K => by
    unfold b_X1_sentWithin_5
    dsimp +instances only
    rw [if_pos (by rw [R.many, R.i1]; exact nI_le (by omega) (by omega))]) n 0 FU (by omega) (FU_gt (by omega))
  have f0 : fa_cnt (wi1 S lo hi) 0 = 0 := rfl
  rw [f0, nI_0] at this
  exact this
theorem m_waitOf (R : Rel bg rl tb m y sn Bd n N 200 nw ol L h w S) (hm : Hp) (t l : Int32) {i f : Nat} (hi : (pl S 1 L)[i]? = some f) : p_X10_waitOf (mt hm S t l) 110 (nI i) = some (wt S f, mt hm S t l) := by
  have hnn := R.n200
  have hl := sent_len R
  have hil : i < (pl S 1 L).length := (List.getElem?_eq_some_iff.mp hi).1
  have hf := ((sent_mem R f).mp (List.mem_of_getElem? hi)).1
  have e : S (2676 + i) = nI f := R.ep.2.1 i f hi
  have j1 : (2676 : Int32) + nI i = nI (2676 + i) := nI_add 2676 i
  unfold p_X10_waitOf
  rw [j1, if_pos (ib_n (by omega) (by omega)), nv_eq, nI_clamp (by omega), mt_r _ _ _ _ (by omega) (by omega), e, m_frameOf_7 hm S t l (b := f) (by omega), Option.bind_some]
  dsimp +instances only
  rw [m_frameOf_3 hm S t l (b := f) (by omega), Option.bind_some]
  rfl
theorem m_within (R : Rel bg rl tb m y sn Bd n N 200 nw ol L h w S) (hm : Hp) (t l lo hi : Int32) : lp (b_X10_within_28 110 lo hi) FU (mt hm S t l, 0, 0) = some (nI (fa_cnt (wi1 S lo hi) n), mt hm S t l) := by
  have hnn := R.n200
  have hl := sent_len R
  have hz : ∀ v : Int32, v + 0 = v := Int32.add_zero
  obtain ⟨M, hM⟩ : ∃ M, M = pl S 1 L := ⟨_, rfl⟩
  have hc : (M.filter (wiv S lo hi)).length = fa_cnt (wi1 S lo hi) n := by
    rw [hM]
    exact sent_cnt R (wiv S lo hi)
  have hw : ∀ i f, M[i]? = some f → p_X10_waitOf (mt hm S t l) 110 (nI i) = some (wt S f, mt hm S t l) := fun i f hi => m_waitOf R hm t l (by rw [← hM]; exact hi)
  have e14 : S 14 = nI M.length := by
    rw [hM]
    exact R.ep.1
  rw [← hM] at hl
  rw [← hc]
  have := lp_for (b := b_X10_within_28 110 lo hi) (fun i => (mt hm S t l, nI ((M.take i).filter (wiv S lo hi)).length, nI i)) M.length (nI (M.filter (wiv S lo hi)).length, mt hm S t l) (fun K i hi' => by
    obtain ⟨f, hf⟩ : ∃ f, M[i]? = some f := ⟨_, List.getElem?_eq_getElem hi'⟩
    unfold b_X10_within_28
    dsimp +instances only
    rw [if_neg (by rw [mt_r _ _ _ _ (by omega) (by omega), e14]; exact nI_ge hi' (by omega)), hw i f hf, Option.bind_some]
    dsimp +instances only
    rw [hw i f hf, Option.bind_some]
    dsimp +instances only
    simp only [nv_eq]
    rw [hz, filt_take hf, nI_1, nI_1]
    by_cases c2 : wt S f < lo
    · rw [if_pos c2, show wiv S lo hi f = false from decide_eq_false (fun u => u.1 c2)]
      rfl
    · rw [if_neg c2]
      by_cases c3 : hi < wt S f
      · rw [if_pos c3, show wiv S lo hi f = false from decide_eq_false (fun u => u.2 c3)]
        rfl
      · rw [if_neg c3, show wiv S lo hi f = true from decide_eq_true ⟨c2, c3⟩]
        rfl) (fun K => by
    unfold b_X10_within_28
    dsimp +instances only
    rw [if_pos (by rw [mt_r _ _ _ _ (by omega) (by omega), e14]; exact nI_le (by omega) (by omega)), List.take_length]) M.length 0 FU (by omega) (FU_gt (by omega))
  rw [List.take_zero, List.filter_nil, List.length_nil, nI_0] at this
  exact this
end Cl
theorem within_m (G : GR Bd h) (hB : Bd + 1000 ≤ 5000000) (x z : Int32) : Met2 (Bd + 1000) h (fun h => p_X9_within h 0 x z) (fun h => p_X10_within h 110 x z) := by
  have G0 := G
  obtain ⟨m, y, sn, n, N, nw, ol, L, R, hLS, g1, g2, g3, g4, g5, g6, g7⟩ := G
  by_cases c1 : x < 0
  · refine no_m G0 hB (r := -1) ?_ ?_
    · show p_X9_within h 0 x z = _
      unfold p_X9_within
      rw [if_pos c1]
    · show p_X10_within h 110 x z = _
      unfold p_X10_within
      rw [nv_eq, if_pos c1]
  · by_cases c2 : z < x
    · refine no_m G0 hB (r := -1) ?_ ?_
      · show p_X9_within h 0 x z = _
        unfold p_X9_within
        rw [if_neg c1, if_pos c2]
      · show p_X10_within h 110 x z = _
        unfold p_X10_within
        rw [nv_eq, if_neg c1, if_pos c2]
    · by_cases c3 : z ≤ 9999999
      · have kM := m_within R (hp h 110 0 0) (h 116 4) (h 116 7) x z
        rw [← GR.S0] at kM
        refine no_m G0 hB (r := nI (fa_cnt (wi1 (h 116) x z) n)) ?_ ?_
        · show p_X9_within h 0 x z = _
          unfold p_X9_within
          rw [if_neg c1, if_neg c2, if_pos c3, c_within R, Option.bind_some]
        · show p_X10_within h 110 x z = _
          unfold p_X10_within
          rw [nv_eq, if_neg c1, if_neg c2, if_pos c3]
          exact kM
      · refine no_m G0 hB (r := -1) ?_ ?_
        · show p_X9_within h 0 x z = _
          unfold p_X9_within
          rw [if_neg c1, if_neg c2, if_neg c3]
        · show p_X10_within h 110 x z = _
          unfold p_X10_within
          rw [nv_eq, if_neg c1, if_neg c2, if_neg c3]
/-! count -/
theorem bsum_0 {S : Nat → Int32} {b n : Nat} (e : ∀ f, f < n → sb S b f = false) : bsum S b n = 0 := by
  have : sm (fun f => if sb S b f then (S (276 + 12 * f + 1)).toNatClampNeg else 0) n ≤ 0 * n := sm_le fun k hk => by
    show (if sb S b k then (S (276 + 12 * k + 1)).toNatClampNeg else 0) ≤ 0
    rw [e k hk]
    exact Nat.le_refl 0
  unfold bsum
  omega
theorem isum_cut {g : Nat → Int32} {a : Nat} : ∀ k, (∀ i, a ≤ i → i < a + k → g i = 0) → isum g (a + k) = isum g a
  | 0, _ => rfl
  | k + 1, e => by
    rw [← Nat.add_assoc, isum_s, isum_cut k (fun i h1 h2 => e i h1 (by omega)), e (a + k) (by omega) (by omega), Int32.add_zero]
section Cl
variable {bg rl : Bool} {tb : Nat → Int32} {m y sn n N w : Nat} {nw ol L : List Nat} {S : Nat → Int32}
theorem m_bytes (R : Rel bg rl tb m y sn Bd n N 200 nw ol L h w S) (hm : Hp) (t l : Int32) : p_X10_bytesStanding (mt hm S t l) 110 = some (h w 9, mt hm S t l) := by
  have hmy := R.my
  have hnn := R.n200
  have ez : isum (fun b => S (68 + 13 * b + 12)) 16 = isum (fun b => S (68 + 13 * b + 12)) (m * y) := by
    have := isum_cut (g := fun b => S (68 + 13 * b + 12)) (a := m * y) (16 - m * y) (fun b h1 h2 => by
      show S (68 + 13 * b + 12) = 0
      rw [(R.cb b (by omega)).2.2.2, bsum_0 (fun f hf => sb_f.mpr (fun u => by
        obtain ⟨c, c1, c2⟩ := (R.fi.1 f hf).2.2.2.2.1
        have := nI_inj (by omega) (by omega) (c2.symm.trans u.1)
        omega)), nI_0])
    rw [show m * y + (16 - m * y) = 16 by omega] at this
    exact this
  rw [R.cf.2.2, ez]
  unfold p_X10_bytesStanding
  have := lp_for (b := b_X10_bytesStanding_4 110) (fun i => (mt hm S t l, isum (fun b => S (68 + 13 * b + 12)) i, nI i)) (m * y) (isum (fun b => S (68 + 13 * b + 12)) (m * y), mt hm S t l) (fun K i hi => by
    unfold b_X10_bytesStanding_4
    dsimp +instances only
    rw [m_buckets, Option.bind_some]
    dsimp +instances only
    rw [if_neg (by rw [R.i10, R.i11, nI_mul]; exact nI_ge hi (by omega)), m_of_12 hm S t l (b := i) (by omega), Option.bind_some]
    dsimp +instances only
    rw [nv_eq, nI_1, isum_s]) (fun K => by
    unfold b_X10_bytesStanding_4
    dsimp +instances only
    rw [m_buckets, Option.bind_some]
    dsimp +instances only
    rw [if_pos (by rw [R.i10, R.i11, nI_mul]; exact nI_le (by omega) (by omega))]) (m * y) 0 FU (by omega) (FU_gt (by omega))
  rw [nI_0] at this
  exact this
theorem m_free (R : Rel bg rl tb m y sn Bd n N 200 nw ol L h w S) (hm : Hp) (t l : Int32) : p_X10_freeOnes (mt hm S t l) 110 = some (S 10 * S 11 - h (w + 33) 2, mt hm S t l) := by
  have hmy := R.my
  have hz : ∀ v : Int32, v + 0 = v := Int32.add_zero
  obtain ⟨l1, l2, l3, l4, l5, l6, l7⟩ := R.li
  have e1 : (nw ++ ol).length = fa_cnt (fun b => decide (b ∈ nw ++ ol)) (m * y) := nd_cnt _ _ _ l5 (fun f => by
    rw [decide_eq_true_iff]
    exact ⟨fun u => ⟨l6 f u, u⟩, fun u => u.2⟩)
  have e2 := fa_cnt_co (fun b => decide (b ∈ nw ++ ol)) (m * y)
  have e3 : S 10 * S 11 - h (w + 33) 2 = nI (fa_cnt (fun i => !decide (i ∈ nw ++ ol)) (m * y)) := by
    rw [R.i10, R.i11, nI_mul, R.lc.2.1, pk_sub (by omega), e1, show m * y - fa_cnt (fun b => decide (b ∈ nw ++ ol)) (m * y) = fa_cnt (fun i => !decide (i ∈ nw ++ ol)) (m * y) by omega]
  rw [e3]
  clear e1 e2 e3
  obtain ⟨p, hp⟩ : ∃ p : Nat → Bool, p = fun i => !decide (i ∈ nw ++ ol) := ⟨_, rfl⟩
  have hpy : ∀ b, b < 16 → (S (68 + 13 * b + 2) = 0 ↔ p b = true) := fun b hb => by
    rw [l7 b hb, hp]
    by_cases c1 : b ∈ nw
    · rw [if_pos c1]
      simp [c1]
    · rw [if_neg c1]
      by_cases c2 : b ∈ ol
      · rw [if_pos c2]
        simp [c1, c2]
      · rw [if_neg c2]
        simp [c1, c2]
  rw [← hp]
  unfold p_X10_freeOnes
  have := lp_for (b := b_X10_freeOnes_4 110) (fun i => (mt hm S t l, nI (fa_cnt p i), nI i)) (m * y) (nI (fa_cnt p (m * y)), mt hm S t l) (fun K i hi => by
    unfold b_X10_freeOnes_4
    dsimp +instances only
    rw [m_buckets, Option.bind_some]
    dsimp +instances only
    rw [if_neg (by rw [R.i10, R.i11, nI_mul]; exact nI_ge hi (by omega)), m_of_2 hm S t l (b := i) (by omega), Option.bind_some]
    dsimp +instances only
    rw [nv_eq, nv_eq, hz, nI_1, nI_1]
    by_cases c : S (68 + 13 * i + 2) = 0
    · rw [if_pos c, fa_cnt_yes ((hpy i (by omega)).mp c)]
    · rw [if_neg c, fa_cnt_no (Bool.eq_false_iff.mpr fun u => c ((hpy i (by omega)).mpr u))]) (fun K => by
    unfold b_X10_freeOnes_4
    dsimp +instances only
    rw [m_buckets, Option.bind_some]
    dsimp +instances only
    rw [if_pos (by rw [R.i10, R.i11, nI_mul]; exact nI_le (by omega) (by omega))]) (m * y) 0 FU (by omega) (FU_gt (by omega))
  have f0 : fa_cnt p 0 = 0 := rfl
  rw [f0, nI_0] at this
  exact this
end Cl
theorem count_m (G : GR Bd h) (hB : Bd + 1000 ≤ 5000000) (x : Int32) : Met2 (Bd + 1000) h (fun h => p_X9_count h 0 x) (fun h => p_X10_count h 110 x) := by
  have G0 := G
  obtain ⟨m, y, sn, n, N, nw, ol, L, R, hLS, g1, g2, g3, g4, g5, g6, g7⟩ := G
  have er : ∀ k, hp h 110 0 0 (110 + 6) k = h 116 k := fun k => by rw [hp_o' _ _ (by omega)]
  have bad : (x < 0 ∨ nI 19 < x) → Met2 (Bd + 1000) h (fun h => p_X9_count h 0 x) (fun h => p_X10_count h 110 x) := fun a => by
    have nz : ∀ c : Nat, c ≤ 19 → ¬ x = nI c := fun c hc u => by
      rw [u] at a
      rcases a with a | a
      · exact nI_pos (by omega) a
      · exact nI_nlt (by omega) (by omega) a
    have z0 : ¬ x = 0 := nz 0 (by omega); have z1 : ¬ x = 1 := nz 1 (by omega); have z2 : ¬ x = 2 := nz 2 (by omega); have z3 : ¬ x = 3 := nz 3 (by omega); have z4 : ¬ x = 4 := nz 4 (by omega); have z5 : ¬ x = 5 := nz 5 (by omega); have z6 : ¬ x = 6 := nz 6 (by omega); have z7 : ¬ x = 7 := nz 7 (by omega); have z8 : ¬ x = 8 := nz 8 (by omega); have z9 : ¬ x = 9 := nz 9 (by omega); have z10 : ¬ x = 10 := nz 10 (by omega); have z11 : ¬ x = 11 := nz 11 (by omega); have z12 : ¬ x = 12 := nz 12 (by omega); have z13 : ¬ x = 13 := nz 13 (by omega); have z14 : ¬ x = 14 := nz 14 (by omega); have z15 : ¬ x = 15 := nz 15 (by omega); have z16 : ¬ x = 16 := nz 16 (by omega); have z17 : ¬ x = 17 := nz 17 (by omega); have z18 : ¬ x = 18 := nz 18 (by omega); have z19 : ¬ x = 19 := nz 19 (by omega)
    refine no_m G0 hB (r := -1) ?_ ?_
    · show p_X9_count h 0 x = _
      unfold p_X9_count
      rw [if_neg z0, if_neg z1, if_neg z2, if_neg z3, if_neg z4, if_neg z5, if_neg z6, if_neg z7, if_neg z8, if_neg z9, if_neg z10, if_neg z11, if_neg z12, if_neg z13, if_neg z14, if_neg z15, if_neg z16, if_neg z17, if_neg z18, if_neg z19]
    · have e52 : q_X10_count_52 (hp h 110 0 0) 110 x = some (-1, hp h 110 0 0) := by
        unfold q_X10_count_52
        rw [if_neg z0, if_neg z1, if_neg z2, if_neg z3, if_neg z4, if_neg z5, if_neg z6, if_neg z7, if_neg z8, if_neg z9, if_neg z10, if_neg z11, if_neg z12, if_neg z13, if_neg z14, if_neg z15, if_neg z16, if_neg z17, if_neg z18, if_neg z19]
      have e28 : q_X10_count_28 (hp h 110 0 0) 110 x = some (-1, hp h 110 0 0) := by
        unfold q_X10_count_28
        rw [e52]
        rcases a with a | a
        · rw [if_pos (fa_trans a (show (0 : Int32) ≤ 11 by decide))]
        · have b1 : (15 : Int32) < x := fa_trans (show (15 : Int32) < nI 19 by decide) (fa_of_lt a).1
          rw [if_pos b1]
          split <;> rfl
      show p_X10_count h 110 x = _
      unfold p_X10_count
      rw [nv_eq, e28]
      rcases a with a | a
      · rw [if_pos (fa_trans a (show (0 : Int32) ≤ 4 by decide))]
      · have b1 : (7 : Int32) < x := fa_trans (show (7 : Int32) < nI 19 by decide) (fa_of_lt a).1
        rw [if_pos b1]
        split <;> rfl
  have tz : ∀ v : Int32, v + (fun _ => (0 : Int32)) 0 = v := Int32.add_zero
  rcases rng3 x (lo := 0) (hi := 19) (by omega) (by omega) with a | a | ⟨c, _, hc, rfl⟩
  · exact bad (Or.inl a)
  · exact bad (Or.inr a)
  · obtain ⟨ta1, ta2, ta3, ta4⟩ := R.ta
    obtain ⟨wk, wk1, wk2, wk3, wk4⟩ := R.wi
    have lf : ∀ (v : Int32), p_X9_count h 0 (nI c) = some (v, h) → p_X10_count h 110 (nI c) = some (v, hp h 110 0 0) → Met2 (Bd + 1000) h (fun h => p_X9_count h 0 (nI c)) (fun h => p_X10_count h 110 (nI c)) := fun v a b => no_m G0 hB a b
    have cl : c = 0 ∨ c = 1 ∨ c = 2 ∨ c = 3 ∨ c = 4 ∨ c = 5 ∨ c = 6 ∨ c = 7 ∨ c = 8 ∨ c = 9 ∨ c = 10 ∨ c = 11 ∨ c = 12 ∨ c = 13 ∨ c = 14 ∨ c = 15 ∨ c = 16 ∨ c = 17 ∨ c = 18 ∨ c = 19 := by omega
    rcases cl with rfl | rfl | rfl | rfl | rfl | rfl | rfl | rfl | rfl | rfl | rfl | rfl | rfl | rfl | rfl | rfl | rfl | rfl | rfl | rfl
    · exact lf (h 116 0) (by rw [← R.now]; rfl) (by rw [← er]; rfl)
    · exact lf (h 116 1) (by rw [← R.many]; rfl) (by rw [← er]; rfl)
    · exact lf (h 116 2) (by rw [← R.stg]; rfl) (by rw [← er]; rfl)
    · have e := m_bytes R (hp h 110 0 0) (h 116 4) (h 116 7)
      rw [← GR.S0] at e
      refine lf (h (0 + 10) 9) rfl ?_
      show Option.bind (p_X10_bytesStanding (hp h 110 0 0) 110) (fun r4 => some (r4.1, r4.2)) = _
      rw [e, Option.bind_some]
    · exact lf (h 116 14) (by rw [ta1]; exact congrArg (fun v => some (v, h)) (Int32.add_zero _).symm) (by rw [← er]; rfl)
    · exact lf (h 116 15) (by rw [ta2]; exact congrArg (fun v => some (v, h)) (Int32.add_zero _).symm) (by rw [← er]; rfl)
    · exact lf (h 116 16) (by rw [ta3]; exact congrArg (fun v => some (v, h)) (Int32.add_zero _).symm) (by rw [← er]; rfl)
    · exact lf (h 116 17) (by rw [ta4]; exact congrArg (fun v => some (v, h)) (Int32.add_zero _).symm) (by rw [← er]; rfl)
    · exact lf (h 116 10 * h 116 11) (by rw [← R.sets, ← R.ways]; rfl) (by rw [← er, ← er]; rfl)
    · have e := m_free R (hp h 110 0 0) (h 116 4) (h 116 7)
      rw [← GR.S0] at e
      refine lf (h 116 10 * h 116 11 - h (0 + 10 + 33) 2) (by rw [← R.sets, ← R.ways]; rfl) ?_
      show Option.bind (p_X10_freeOnes (hp h 110 0 0) 110) (fun r4 => some (r4.1, r4.2)) = _
      rw [e, Option.bind_some]
    · exact lf (h 116 3) (by rw [wk2, ← (wk3 rfl).1]; rfl) (by rw [← er]; rfl)
    · exact lf (h 116 4) (by rw [← g1]; rfl) (by rw [← er]; rfl)
    · exact lf (h 116 5) (by rw [← R.itv]; rfl) (by rw [← er]; rfl)
    · exact lf (h 116 6) (by rw [← R.qua]; rfl) (by rw [← er]; rfl)
    · exact lf (h 116 7) (by rw [← g2]; rfl) (by rw [← er]; rfl)
    · exact lf (h 116 8) (by rw [← R.sml]; rfl) (by rw [← er]; rfl)
    · obtain ⟨k, k1, k2, k3, _⟩ := g7
      exact lf (nI k) (by rw [← k2]; rfl) (by rw [← k3]; rfl)
    · exact lf (h 116 9) (by rw [← R.rat]; rfl) (by rw [← er]; rfl)
    · exact lf (h 116 3476) (by rw [← R.pk.2 (Or.inl rfl)]; rfl) (by rw [← er]; rfl)
    · exact lf (h 116 3477) (by rw [← R.snd]; rfl) (by rw [← er]; rfl)
end Qc
