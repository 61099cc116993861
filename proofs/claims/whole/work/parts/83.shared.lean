/-! shared, least -/
section Qs
variable {Bd : Nat} {h : Hp}
def stg (S : Nat → Int32) (i j : Nat) : Bool := decide (S (276 + 12 * j + 9) = 1 ∧ S (276 + 12 * j + 0) = S (276 + 12 * i + 0))
def shc (S : Nat → Int32) (i : Nat) : Bool := decide (S (276 + 12 * i + 9) = 1 ∧ ¬ fa_first (stg S i) i < i)
section Cl
variable {bg rl : Bool} {tb : Nat → Int32} {m y sn n N w : Nat} {nw ol L : List Nat} {S : Nat → Int32}
theorem c_strange (R : Rel bg rl tb m y sn Bd n N 200 nw ol L h w S) {i : Nat} (hi : i < n) : p_X1_wasStrangeBefore h (w + 2) (nI i) = some (if fa_first (stg S i) i < i then 1 else 0, h) := by
  have hnn := R.n200
  have hf := fa_first_le (stg S i) i
  unfold p_X1_wasStrangeBefore
  have := lp_for (b := b_X1_wasStrangeBefore_2 (w + 2) (nI i)) (fun j => (h, nI j)) (fa_first (stg S i) i) (if fa_first (stg S i) i < i then 1 else 0, h) (fun K j hj => by
    have i2 : ib (nI j) 200 := ib_n (by omega) (by omega)
    have hno := decide_eq_false_iff_not.mp (fa_first_no (stg S i) i j hj)
    unfold b_X1_wasStrangeBefore_2
    dsimp +instances only
    rw [if_neg (nI_ge (by omega) (by omega))]
    simp only [if_pos i2, if_pos (show ib (nI i) 200 from ib_n (by omega) (by omega)), nI_clamp (show i < 2 ^ 31 by omega), nI_clamp (show j < 2 ^ 31 by omega)]
    rw [R.f7 (show j < n by omega), R.f1 (show j < n by omega), R.f1 hi, nI_1]
    by_cases c1 : S (276 + 12 * j + 9) = 1
    · rw [if_pos c1, if_neg (fun u => hno ⟨c1, u⟩)]
    · rw [if_neg c1]) (fun K => by
    unfold b_X1_wasStrangeBefore_2
    dsimp +instances only
    by_cases c : fa_first (stg S i) i < i
    · have hy := decide_eq_true_iff.mp (fa_first_yes (stg S i) i c)
      have i2 : ib (nI (fa_first (stg S i) i)) 200 := ib_n (by omega) (by omega)
      rw [if_neg (nI_ge c (by omega))]
      simp only [if_pos i2, if_pos (show ib (nI i) 200 from ib_n (by omega) (by omega)), nI_clamp (show i < 2 ^ 31 by omega), nI_clamp (show fa_first (stg S i) i < 2 ^ 31 by omega)]
      rw [R.f7 (show fa_first (stg S i) i < n by omega), R.f1 (show fa_first (stg S i) i < n by omega), R.f1 hi, if_pos hy.1, if_pos hy.2, if_pos c]
    · rw [if_pos (nI_le (by omega) (by omega)), if_neg c]) (fa_first (stg S i) i) 0 FU (by omega) (FU_gt (by omega))
  rw [nI_0] at this
  exact this
theorem c_shared (R : Rel bg rl tb m y sn Bd n N 200 nw ol L h w S) : p_X1_strangeKeys h (w + 2) = some (nI (fa_cnt (shc S) n), h) := by
  have hnn := R.n200
  unfold p_X1_strangeKeys
  have := lp_for (b := b_X1_strangeKeys_4 (w + 2)) (fun i => (h, nI (fa_cnt (shc S) i), nI i)) n (nI (fa_cnt (shc S) n), h) (fun K i hi => by
    have i2 : ib (nI i) 200 := ib_n (by omega) (by omega)
    unfold b_X1_strangeKeys_4
    dsimp +instances only
    rw [if_neg (by rw [R.many, R.i1]; exact nI_ge hi (by omega))]
    simp only [if_pos i2, nI_clamp (show i < 2 ^ 31 by omega)]
    rw [R.f7 hi, c_strange R hi, Option.bind_some]
    dsimp +instances only
    rw [nI_1 i]
    by_cases c1 : S (276 + 12 * i + 9) = 1
    · rw [if_pos c1]
      by_cases c2 : fa_first (stg S i) i < i
      · rw [if_pos c2, if_neg one_nz, fa_cnt_no (p := shc S) (decide_eq_false fun u => u.2 c2)]
      · rw [if_neg c2, if_pos rfl, fa_cnt_yes (p := shc S) (decide_eq_true ⟨c1, c2⟩), nI_1]
    · rw [if_neg c1, fa_cnt_no (p := shc S) (decide_eq_false fun u => c1 u.1)]) (fun K => by
    unfold b_X1_strangeKeys_4
    dsimp +instances only
    rw [if_pos (by rw [R.many, R.i1]; exact nI_le (by omega) (by omega))]) n 0 FU (by omega) (FU_gt (by omega))
  have f0 : fa_cnt (shc S) 0 = 0 := rfl
  rw [f0, nI_0] at this
  exact this
end Cl
theorem m_strange (hm : Hp) {S : Nat → Int32} (t l : Int32) {n i : Nat} (hs : ∀ j, j < n → rg (S (276 + 12 * j + 9)) 0 1) (hn2 : n ≤ 200) (hi : i < n) (K9 : Hp × Int32 × Int32 → Option (Int32 × Hp)) (x1 : Int32) : lp (b_X10_shared_39 K9 110 x1 (nI i)) FU (mt hm S t l, 1, 0) = q_X10_shared_88 K9 (mt hm S t l) 110 x1 (nI i) (if fa_first (stg S i) i < i then 0 else 1) := by
  have hf := fa_first_le (stg S i) i
  have := lp_fo (b := b_X10_shared_39 K9 110 x1 (nI i)) (fun j => (mt hm S t l, if j ≤ fa_first (stg S i) i then 1 else 0, nI j)) (if fa_first (stg S i) i < i then fa_first (stg S i) i + 1 else i) (q_X10_shared_88 K9 (mt hm S t l) 110 x1 (nI i) (if fa_first (stg S i) i < i then 0 else 1)) (fun K j hj => by
    have hji : j < i := by
      split at hj <;> omega
    have hjf : j ≤ fa_first (stg S i) i := by
      split at hj <;> omega
    have e9 := m_frameOf_9 hm S t l (b := j) (by omega)
    have e0 := m_frameOf_0 hm S t l (b := j) (by omega)
    have e0' := m_frameOf_0 hm S t l (b := i) (by omega)
    unfold b_X10_shared_39
    dsimp +instances only
    rw [if_neg (nI_ge hji (by omega)), if_pos hjf, if_neg one_nz, e9, Option.bind_some]
    dsimp +instances only
    rw [e0, Option.bind_some]
    dsimp +instances only
    rw [e0', Option.bind_some]
    dsimp +instances only
    rw [nI_1]
    by_cases c : j = fa_first (stg S i) i
    · have hy := decide_eq_true_iff.mp (fa_first_yes (stg S i) i (by omega))
      rw [← c] at hy
      rw [if_neg (show ¬ j + 1 ≤ fa_first (stg S i) i by omega), if_neg (by rw [hy.1]; exact one_nz), if_pos hy.2]
    · have hno := decide_eq_false_iff_not.mp (fa_first_no (stg S i) i j (by omega))
      rw [if_pos (show j + 1 ≤ fa_first (stg S i) i by omega)]
      rcases rg01 (hs j (by omega)) with u | u
      · rw [if_pos u]
      · rw [if_neg (by rw [u]; exact one_nz), if_neg (fun v => hno ⟨u, v⟩)]) (fun K => by
    unfold b_X10_shared_39
    dsimp +instances only
    by_cases c : fa_first (stg S i) i < i
    · rw [if_pos c, if_pos c, if_neg (show ¬ fa_first (stg S i) i + 1 ≤ fa_first (stg S i) i by omega)]
      by_cases d : nI i ≤ nI (fa_first (stg S i) i + 1)
      · rw [if_pos d]
      · rw [if_neg d, if_pos rfl]
    · rw [if_neg c, if_neg c, if_pos (nI_le (Nat.le_refl i) (by omega)), if_pos (show i ≤ fa_first (stg S i) i by omega)]) (if fa_first (stg S i) i < i then fa_first (stg S i) i + 1 else i) 0 FU (by omega) (FU_gt (by split <;> omega))
  rw [if_pos (Nat.zero_le _), nI_0] at this
  exact this
theorem m_strange0 (hm : Hp) {S : Nat → Int32} (t l : Int32) (i : Int32) (K9 : Hp × Int32 × Int32 → Option (Int32 × Hp)) (x1 : Int32) : lp (b_X10_shared_39 K9 110 x1 i) FU (mt hm S t l, 0, 0) = q_X10_shared_88 K9 (mt hm S t l) 110 x1 i 0 := by
  refine lp_fo (b := b_X10_shared_39 K9 110 x1 i) (fun _ => (mt hm S t l, 0, 0)) 0 _ (fun K j hj => absurd hj (Nat.not_lt_zero j)) (fun K => ?_) 0 0 FU rfl (FU_gt (by omega))
  unfold b_X10_shared_39
  dsimp +instances only
  by_cases d : i ≤ 0
  · rw [if_pos d]
  · rw [if_neg d, if_pos rfl]
theorem m_shared (hm : Hp) {S : Nat → Int32} (t l : Int32) {n : Nat} (hn : S 1 = nI n) (hs : ∀ j, j < n → rg (S (276 + 12 * j + 9)) 0 1) (hn2 : n ≤ 200) : lp (b_X10_shared_9 110) FU (mt hm S t l, 0, 0) = some (nI (fa_cnt (shc S) n), mt hm S t l) := by
  have hz : ∀ v : Int32, v + 0 = v := Int32.add_zero
  have := lp_for (b := b_X10_shared_9 110) (fun i => (mt hm S t l, nI (fa_cnt (shc S) i), nI i)) n (nI (fa_cnt (shc S) n), mt hm S t l) (fun K i hi => by
    have e9 := m_frameOf_9 hm S t l (b := i) (by omega)
    unfold b_X10_shared_9
    dsimp +instances only
    rw [if_neg (by rw [mt_r _ _ _ _ (by omega) (by omega), hn]; exact nI_ge hi (by omega)), e9, Option.bind_some]
    dsimp +instances only
    by_cases c1 : S (276 + 12 * i + 9) = 1
    · rw [if_pos c1, m_strange hm t l hs hn2 hi K]
      unfold q_X10_shared_88
      rw [nv_eq, nv_eq, hz, nI_1, nI_1]
      by_cases c2 : fa_first (stg S i) i < i
      · rw [if_pos c2, if_pos rfl, fa_cnt_no (p := shc S) (decide_eq_false fun u => u.2 c2)]
      · rw [if_neg c2, if_neg one_nz, fa_cnt_yes (p := shc S) (decide_eq_true ⟨c1, c2⟩)]
    · rw [if_neg c1, m_strange0 hm t l (nI i) K]
      unfold q_X10_shared_88
      rw [if_pos rfl, nv_eq, hz, nI_1, fa_cnt_no (p := shc S) (decide_eq_false fun u => c1 u.1)]) (fun K => by
    unfold b_X10_shared_9
    dsimp +instances only
    rw [if_pos (by rw [mt_r _ _ _ _ (by omega) (by omega), hn]; exact nI_le (by omega) (by omega))]) n 0 FU (by omega) (FU_gt (by omega))
  have f0 : fa_cnt (shc S) 0 = 0 := rfl
  rw [f0, nI_0] at this
  exact this
theorem shared_m (G : GR Bd h) (hB : Bd + 1000 ≤ 5000000) : Met2 (Bd + 1000) h (fun h => p_X9_shared h 0) (fun h => p_X10_shared h 110) := by
  have G0 := G
  obtain ⟨m, y, sn, n, N, nw, ol, L, R, hLS, g1, g2, g3, g4, g5, g6, g7⟩ := G
  have kM := m_shared (hp h 110 0 0) (h 116 4) (h 116 7) R.i1 (fun j hj => (R.fi.1 j hj).2.2.2.2.2.2.2.2.2.1) R.n200
  rw [← GR.S0] at kM
  refine no_m G0 hB (r := nI (fa_cnt (shc (h 116)) n)) ?_ ?_
  · show p_X9_shared h 0 = _
    unfold p_X9_shared
    rw [c_shared R, Option.bind_some]
  · show p_X10_shared h 110 = _
    unfold p_X10_shared
    rw [nv_eq]
    exact kM
/-! least -/
abbrev lsc (S : Nat → Int32) (b i : Nat) : Prop := (S (276 + 12 * i + 6) = 1 ∨ S (276 + 12 * i + 6) = 2) ∧ S (276 + 12 * i + 4) = nI b ∧ S (276 + 12 * i + 8) = S (68 + 13 * b + 9) ∧ S 0 - S (276 + 12 * i + 7) < S 5
def lsa (S : Nat → Int32) (b : Nat) : Nat → Int32
  | 0 => -2
  | i + 1 => if lsc S b i then (if lsa S b i = -2 then wt S i else if lsa S b i ≤ wt S i then lsa S b i else wt S i) else lsa S b i
theorem m_least (hm : Hp) {S : Nat → Int32} (t l : Int32) {n b : Nat} (hn : S 1 = nI n) (hn2 : n ≤ 200) (hb : b < 16) : lp (b_X10_least_20 110 (nI b)) FU (mt hm S t l, (-2), 0) = some (lsa S b n, mt hm S t l) := by
  have := lp_for (b := b_X10_least_20 110 (nI b)) (fun i => (mt hm S t l, lsa S b i, nI i)) n (lsa S b n, mt hm S t l) (fun K i hi => by
    have e6 := m_frameOf_6 hm S t l (b := i) (by omega)
    have e4 := m_frameOf_4 hm S t l (b := i) (by omega)
    have e8 := m_frameOf_8 hm S t l (b := i) (by omega)
    have e7 := m_frameOf_7 hm S t l (b := i) (by omega)
    have e3 := m_frameOf_3 hm S t l (b := i) (by omega)
    have e9 := m_of_9 hm S t l (b := b) hb
    have ei := m_interval hm S t l
    have q0 : q_X10_least_57 K (mt hm S t l) 110 (nI b) (lsa S b i) (nI i) 0 = K (mt hm S t l, lsa S b i, nI (i + 1)) := by
      unfold q_X10_least_57
      rw [if_pos rfl, nI_1]
    have q1 : (S (276 + 12 * i + 6) = 1 ∨ S (276 + 12 * i + 6) = 2) → q_X10_least_57 K (mt hm S t l) 110 (nI b) (lsa S b i) (nI i) 1 = K (mt hm S t l, lsa S b (i + 1), nI (i + 1)) := fun c0 => by
      unfold q_X10_least_57
      rw [if_neg one_nz, e4, Option.bind_some]
      dsimp +instances only
      rw [e8, Option.bind_some]
      dsimp +instances only
      rw [e9, Option.bind_some]
      dsimp +instances only
      rw [e7, Option.bind_some]
      dsimp +instances only
      rw [ei, Option.bind_some]
      dsimp +instances only
      rw [e7, Option.bind_some]
      dsimp +instances only
      rw [e3, Option.bind_some]
      dsimp +instances only
      rw [nv_eq, nI_1, lsa, mt_r hm S t l (by omega) (by omega), show S (276 + 12 * i + 7) - S (276 + 12 * i + 3) = wt S i from rfl]
      by_cases c1 : S (276 + 12 * i + 4) = nI b
      · rw [if_pos c1]
        by_cases c2 : S (276 + 12 * i + 8) = S (68 + 13 * b + 9)
        · rw [if_pos c2]
          by_cases c3 : S 0 - S (276 + 12 * i + 7) < S 5
          · rw [if_pos c3, if_pos (show lsc S b i from ⟨c0, c1, c2, c3⟩)]
            by_cases c4 : lsa S b i = -2
            · rw [if_pos c4, if_pos c4]
            · rw [if_neg c4, if_neg c4]
              by_cases c5 : lsa S b i ≤ wt S i
              · rw [if_pos c5, if_pos c5]
              · rw [if_neg c5, if_neg c5]
          · rw [if_neg c3, if_neg (fun u : lsc S b i => c3 u.2.2.2)]
        · rw [if_neg c2, if_neg (fun u : lsc S b i => c2 u.2.2.1)]
      · rw [if_neg c1, if_neg (fun u : lsc S b i => c1 u.2.1)]
    unfold b_X10_least_20
    dsimp +instances only
    rw [if_neg (by rw [mt_r _ _ _ _ (by omega) (by omega), hn]; exact nI_ge hi (by omega)), e6, Option.bind_some]
    dsimp +instances only
    rw [e6, Option.bind_some]
    dsimp +instances only
    by_cases c1 : S (276 + 12 * i + 6) = 1
    · rw [if_pos c1, q1 (Or.inl c1)]
    · rw [if_neg c1]
      by_cases c2 : S (276 + 12 * i + 6) = 2
      · rw [if_pos c2, q1 (Or.inr c2)]
      · rw [if_neg c2, q0, lsa, if_neg (fun u : lsc S b i => u.1.elim c1 c2)]) (fun K => by
    unfold b_X10_least_20
    dsimp +instances only
    rw [if_pos (by rw [mt_r _ _ _ _ (by omega) (by omega), hn]; exact nI_le (by omega) (by omega))]) n 0 FU (by omega) (FU_gt (by omega))
  rw [nI_0] at this
  exact this
def lsx (x : Int32) : Int32 := if x = -2 then 99999999 else x
section Cm
variable {rl : Bool} {tb : Nat → Int32} {m y sn n N w : Nat} {nw ol L : List Nat} {S : Nat → Int32}
theorem wt_rg {bg : Bool} (R : Rel bg rl tb m y sn Bd n N 200 nw ol L h w S) {i : Nat} (hi : i < n) (h0 : ¬ S (276 + 12 * i + 6) = 0) : ∃ v, v ≤ N ∧ wt S i = nI v := by
  obtain ⟨c, v, e1, e2, e3, e4⟩ := (R.fi.1 i hi).2.2.2.2.2.2.2.1 h0
  refine ⟨v - c, by omega, ?_⟩
  unfold wt
  rw [e1, e2, pk_sub e3]
theorem lsa_rg {bg : Bool} (R : Rel bg rl tb m y sn Bd n N 200 nw ol L h w S) (b : Nat) : ∀ i, i ≤ n → lsa S b i = -2 ∨ ∃ v, v ≤ N ∧ lsa S b i = nI v
  | 0, _ => Or.inl rfl
  | i + 1, hi => by
    have ih := lsa_rg R b i (by omega)
    rw [lsa]
    by_cases c : lsc S b i
    · rw [if_pos c]
      have hw := wt_rg R (show i < n by omega) (fun u => by
        rcases c.1 with v | v
        · rw [u] at v
          exact absurd v (by decide)
        · rw [u] at v
          exact absurd v (by decide))
      split
      · exact Or.inr hw
      · split
        · exact ih
        · exact Or.inr hw
    · rw [if_neg c]
      exact ih
theorem c_least (R : Rel true rl tb m y sn Bd n N 200 nw ol L h w S) {b : Nat} (hb0 : b < m * y) : p_X8_leastTaken h w (nI b) = some (lsa S b n, h) := by
  have hmy := R.my
  have hb : b < 16 := by omega
  have hnn := R.n200
  have hN := R.N5
  obtain ⟨z1, ⟨s, s1, s2, s3⟩, z3⟩ := R.kbg rfl b hb
  have l0 : ∀ i, i ≤ s → lsa S b i = -2 := fun i => by
    induction i with
    | zero => exact fun _ => rfl
    | succ i ih =>
      intro hi
      rw [lsa, if_neg (fun u : lsc S b i => absurd ((s3 i (by omega) u.2.1).mp u.2.2.1) (by omega)), ih (by omega)]
  unfold p_X8_leastTaken
  rw [hasB_y R hb0, Option.bind_some]
  dsimp +instances only
  rw [if_neg one_nz, if_pos (ib_n (by omega) (by omega)), nI_clamp (by omega), s1, if_neg (nI_pos (by omega)), nv_eq]
  have := lp_for (b := b_X8_leastTaken_27 w (nI b)) (fun i => (h, lsx (lsa S b (s + i)), nI (s + i))) (n - s) (lsa S b n, h) (fun K i hi => by
    have i2 : ib (nI (s + i)) 200 := ib_n (by omega) (by omega)
    have hin : s + i < n := by omega
    have q0 : ¬ (S (276 + 12 * (s + i) + 6) = 1 ∨ S (276 + 12 * (s + i) + 6) = 2) → q_X8_leastTaken_69 K h w (nI b) (lsx (lsa S b (s + i))) (nI (s + i)) 0 = K (h, lsx (lsa S b (s + i + 1)), nI (s + i + 1)) := fun c0 => by
      unfold q_X8_leastTaken_69
      rw [if_pos i2, if_pos rfl, nI_1, lsa, if_neg (fun u : lsc S b (s + i) => c0 u.1)]
      split <;> rfl
    have q1 : (S (276 + 12 * (s + i) + 6) = 1 ∨ S (276 + 12 * (s + i) + 6) = 2) → q_X8_leastTaken_69 K h w (nI b) (lsx (lsa S b (s + i))) (nI (s + i)) 1 = K (h, lsx (lsa S b (s + i + 1)), nI (s + i + 1)) := fun c0 => by
      have hw := wt_rg R hin (fun u => by
        rcases c0 with v | v
        · rw [u] at v
          exact absurd v (by decide)
        · rw [u] at v
          exact absurd v (by decide))
      unfold q_X8_leastTaken_69
      simp only [if_pos i2, nI_clamp (show s + i < 2 ^ 31 by omega)]
      rw [R.f5 hin, R.f10 hin (by omega), R.itv, R.now, c_waitOf R hin, Option.bind_some]
      dsimp +instances only
      rw [nv_eq, nI_1, lsa]
      by_cases c1 : S (276 + 12 * (s + i) + 4) = nI b
      · rw [if_pos c1, if_neg one_nz]
        by_cases c3 : S 0 - S (276 + 12 * (s + i) + 7) < S 5
        · rw [if_neg (fa_of_lt c3).2.1, if_pos (show lsc S b (s + i) from ⟨c0, c1, (s3 _ hin c1).mpr (by omega), c3⟩)]
          obtain ⟨v, v1, v2⟩ := hw
          rcases lsa_rg R b (s + i) (by omega) with u | ⟨u, u1, u2⟩
          · rw [u, if_pos rfl, v2]
            unfold lsx
            rw [if_pos rfl, if_neg (nI_n2 (by omega)), if_pos (show nI v < 99999999 from nI_lt (b := 99999999) (by omega) (by omega))]
          · rw [u2, v2]
            unfold lsx
            rw [if_neg (nI_n2 (by omega)), if_neg (nI_n2 (by omega))]
            by_cases c5 : nI u ≤ nI v
            · rw [if_pos c5, if_neg (fun q => (fa_of_lt q).2.1 c5), if_neg (nI_n2 (by omega))]
            · rw [if_neg c5, if_pos (fa_of_nle c5), if_neg (nI_n2 (by omega))]
        · rw [if_pos (fa_of_nlt c3), if_neg (fun u : lsc S b (s + i) => c3 u.2.2.2)]
      · rw [if_neg c1, if_neg (fun u : lsc S b (s + i) => c1 u.2.1)]
    unfold b_X8_leastTaken_27
    dsimp +instances only
    rw [if_neg (by rw [R.many, R.i1]; exact nI_ge hin (by omega))]
    simp only [if_pos i2, nI_clamp (show s + i < 2 ^ 31 by omega)]
    rw [R.f9 hin (by omega), ← Nat.add_assoc]
    by_cases c1 : S (276 + 12 * (s + i) + 6) = 1
    · rw [if_pos c1, q1 (Or.inl c1)]
    · rw [if_neg c1]
      by_cases c2 : S (276 + 12 * (s + i) + 6) = 2
      · rw [if_pos c2, q1 (Or.inr c2)]
      · rw [if_neg c2, q0 (fun u => u.elim c1 c2)]) (fun K => by
    unfold b_X8_leastTaken_27
    dsimp +instances only
    rw [if_pos (by rw [R.many, R.i1]; exact nI_le (by omega) (by omega)), show s + (n - s) = n by omega]
    rcases lsa_rg R b n (Nat.le_refl n) with u | ⟨u, u1, u2⟩
    · rw [u]
      unfold lsx
      rw [if_pos rfl, if_pos rfl]
    · rw [u2]
      unfold lsx
      rw [if_neg (nI_n2 (by omega)), if_neg (fun q => by
        have := nI_inj (a := u) (b := 99999999) (by omega) (by omega) q
        omega)]) (n - s) 0 FU (by omega) (FU_gt (by omega))
  rw [Nat.add_zero, l0 s (Nat.le_refl s)] at this
  exact this
end Cm
theorem least_m (G : GR Bd h) (hB : Bd + 1000 ≤ 5000000) (x : Int32) : Met2 (Bd + 1000) h (fun h => p_X9_least h 0 x) (fun h => p_X10_least h 110 x) := by
  have G0 := G
  obtain ⟨m, y, sn, n, N, nw, ol, L, R, hLS, g1, g2, g3, g4, g5, g6, g7⟩ := G
  have hmy := R.my
  have hnn := R.n200
  have bad : (x < 0 ∨ nI (m * y) ≤ x) → Met2 (Bd + 1000) h (fun h => p_X9_least h 0 x) (fun h => p_X10_least h 110 x) := fun a => by
    refine no_m G0 hB (r := -1) ?_ ?_
    · show p_X9_least h 0 x = _
      unfold p_X9_least p_X8_leastTaken
      rw [hasB_out R a, Option.bind_some]
      dsimp +instances only
      rw [if_pos rfl, Option.bind_some]
    · have e := isB_out (hp h 110 0 0) (h 116 4) (h 116 7) R.i10 R.i11 a
      rw [← GR.S0] at e
      show p_X10_least h 110 x = _
      unfold p_X10_least
      rw [nv_eq, e, Option.bind_some]
      dsimp +instances only
      rw [if_pos rfl]
  rcases pk_ix x (n := m * y) (by omega) with a | a | ⟨b, hb, rfl⟩
  · exact bad (Or.inl a)
  · exact bad (Or.inr a)
  · have e := isB_y (hp h 110 0 0) (h 116 4) (h 116 7) R.i10 R.i11 hb hmy
    have kM := m_least (hp h 110 0 0) (h 116 4) (h 116 7) (b := b) R.i1 hnn (by omega)
    rw [← GR.S0] at e kM
    refine no_m G0 hB (r := lsa (h 116) b n) ?_ ?_
    · show p_X9_least h 0 (nI b) = _
      unfold p_X9_least
      rw [c_least R hb, Option.bind_some]
    · show p_X10_least h 110 (nI b) = _
      unfold p_X10_least
      rw [nv_eq, e, Option.bind_some]
      dsimp +instances only
      rw [if_neg one_nz]
      exact kM
end Qs
