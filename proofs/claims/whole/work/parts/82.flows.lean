/-! flow, uneven, shared, least -/
theorem lp_fo {β α : Type} {b : (β → Option α) → β → Option α} (e : Nat → β) (N : Nat) (r : Option α)
    (h1 : ∀ (K : β → Option α) (i : Nat), i < N → b K (e i) = K (e (i + 1))) (h2 : ∀ K : β → Option α, b K (e N) = r) : ∀ (k i m : Nat), i + k = N → k < m → lp b m (e i) = r
  | 0, i, m, hi, hm => by
    obtain ⟨m', rfl⟩ : ∃ m', m = m' + 1 := ⟨m - 1, by omega⟩
    rw [lp_s, show i = N by omega, h2]
  | k + 1, i, m, hi, hm => by
    obtain ⟨m', rfl⟩ : ∃ m', m = m' + 1 := ⟨m - 1, by omega⟩
    rw [lp_s, h1 _ i (by omega)]
    exact lp_fo e N r h1 h2 k (i + 1) m' (by omega) (by omega)
section Qf
variable {Bd : Nat} {h : Hp}
def wt (S : Nat → Int32) (i : Nat) : Int32 := S (276 + 12 * i + 7) - S (276 + 12 * i + 3)
def fvv (S : Nat → Int32) (x key : Int32) : Nat → Int32 × Int32
  | 0 => (0, -2)
  | i + 1 => if S (276 + 12 * i + 0) = key then (if S (276 + 12 * i + 6) = 1 then (if x = 0 then (if x = 1 then (fvv S x key i).1 + 1 else (fvv S x key i).1) + S (276 + 12 * i + 1) else if x = 3 then (if x = 1 then (fvv S x key i).1 + 1 else (fvv S x key i).1) + wt S i else (if x = 1 then (fvv S x key i).1 + 1 else (fvv S x key i).1) + 0, if wt S i ≤ (fvv S x key i).2 then (fvv S x key i).2 else wt S i) else (if x = 1 then (fvv S x key i).1 + 1 else (fvv S x key i).1, (fvv S x key i).2)) else fvv S x key i
theorem m_flowOf (hm : Hp) {S : Nat → Int32} (t l : Int32) {n : Nat} (x key : Int32) (hn : S 1 = nI n) (hn2 : n ≤ 200) : p_X10_flowOf (mt hm S t l) 110 key x = some (if x = 2 then (fvv S x key n).2 else (fvv S x key n).1, mt hm S t l) := by
  unfold p_X10_flowOf
  have := lp_for (b := b_X10_flowOf_9 110 key x) (fun i => (mt hm S t l, (fvv S x key i).1, (fvv S x key i).2, nI i)) n (if x = 2 then (fvv S x key n).2 else (fvv S x key n).1, mt hm S t l) (fun K i hi => by
    unfold b_X10_flowOf_9 q_X10_flowOf_42 q_X10_flowOf_89
    dsimp +instances only
    rw [if_neg (by rw [mt_r _ _ _ _ (by omega) (by omega), hn]; exact nI_ge hi (by omega)), m_frameOf_0 hm S t l (b := i) (by omega), Option.bind_some]
    dsimp +instances only
    rw [fvv]
    have e6 := m_frameOf_6 hm S t l (b := i) (by omega)
    have e7 := m_frameOf_7 hm S t l (b := i) (by omega)
    have e3 := m_frameOf_3 hm S t l (b := i) (by omega)
    have e1 := m_frameOf_1 hm S t l (b := i) (by omega)
    simp only [e6, e7, e3, e1, Option.bind_some, nv_eq, nI_1, show S (276 + 12 * i + 7) - S (276 + 12 * i + 3) = wt S i from rfl]
    by_cases c1 : S (276 + 12 * i + 0) = key
    · by_cases c2 : S (276 + 12 * i + 6) = 1
      · by_cases c3 : wt S i ≤ (fvv S x key i).2
        · by_cases d1 : x = 1
          · by_cases d0 : x = 0
            · by_cases d3 : x = 3
              · simp only [if_pos c1, if_pos c2, if_pos c3, if_pos d1, if_pos d0, if_pos d3]
              · simp only [if_pos c1, if_pos c2, if_pos c3, if_pos d1, if_pos d0, if_neg d3]
            · by_cases d3 : x = 3
              · simp only [if_pos c1, if_pos c2, if_pos c3, if_pos d1, if_neg d0, if_pos d3]
              · simp only [if_pos c1, if_pos c2, if_pos c3, if_pos d1, if_neg d0, if_neg d3]
          · by_cases d0 : x = 0
            · by_cases d3 : x = 3
              · simp only [if_pos c1, if_pos c2, if_pos c3, if_neg d1, if_pos d0, if_pos d3]
              · simp only [if_pos c1, if_pos c2, if_pos c3, if_neg d1, if_pos d0, if_neg d3]
            · by_cases d3 : x = 3
              · simp only [if_pos c1, if_pos c2, if_pos c3, if_neg d1, if_neg d0, if_pos d3]
              · simp only [if_pos c1, if_pos c2, if_pos c3, if_neg d1, if_neg d0, if_neg d3]
        · by_cases d1 : x = 1
          · by_cases d0 : x = 0
            · by_cases d3 : x = 3
              · simp only [if_pos c1, if_pos c2, if_neg c3, if_pos d1, if_pos d0, if_pos d3]
              · simp only [if_pos c1, if_pos c2, if_neg c3, if_pos d1, if_pos d0, if_neg d3]
            · by_cases d3 : x = 3
              · simp only [if_pos c1, if_pos c2, if_neg c3, if_pos d1, if_neg d0, if_pos d3]
              · simp only [if_pos c1, if_pos c2, if_neg c3, if_pos d1, if_neg d0, if_neg d3]
          · by_cases d0 : x = 0
            · by_cases d3 : x = 3
              · simp only [if_pos c1, if_pos c2, if_neg c3, if_neg d1, if_pos d0, if_pos d3]
              · simp only [if_pos c1, if_pos c2, if_neg c3, if_neg d1, if_pos d0, if_neg d3]
            · by_cases d3 : x = 3
              · simp only [if_pos c1, if_pos c2, if_neg c3, if_neg d1, if_neg d0, if_pos d3]
              · simp only [if_pos c1, if_pos c2, if_neg c3, if_neg d1, if_neg d0, if_neg d3]
      · by_cases c3 : wt S i ≤ (fvv S x key i).2
        · by_cases d1 : x = 1
          · by_cases d0 : x = 0
            · by_cases d3 : x = 3
              · simp only [if_pos c1, if_neg c2, if_pos c3, if_pos d1, if_pos d0, if_pos d3]
              · simp only [if_pos c1, if_neg c2, if_pos c3, if_pos d1, if_pos d0, if_neg d3]
            · by_cases d3 : x = 3
              · simp only [if_pos c1, if_neg c2, if_pos c3, if_pos d1, if_neg d0, if_pos d3]
              · simp only [if_pos c1, if_neg c2, if_pos c3, if_pos d1, if_neg d0, if_neg d3]
          · by_cases d0 : x = 0
            · by_cases d3 : x = 3
              · simp only [if_pos c1, if_neg c2, if_pos c3, if_neg d1, if_pos d0, if_pos d3]
              · simp only [if_pos c1, if_neg c2, if_pos c3, if_neg d1, if_pos d0, if_neg d3]
            · by_cases d3 : x = 3
              · simp only [if_pos c1, if_neg c2, if_pos c3, if_neg d1, if_neg d0, if_pos d3]
              · simp only [if_pos c1, if_neg c2, if_pos c3, if_neg d1, if_neg d0, if_neg d3]
        · by_cases d1 : x = 1
          · by_cases d0 : x = 0
            · by_cases d3 : x = 3
              · simp only [if_pos c1, if_neg c2, if_neg c3, if_pos d1, if_pos d0, if_pos d3]
              · simp only [if_pos c1, if_neg c2, if_neg c3, if_pos d1, if_pos d0, if_neg d3]
            · by_cases d3 : x = 3
              · simp only [if_pos c1, if_neg c2, if_neg c3, if_pos d1, if_neg d0, if_pos d3]
              · simp only [if_pos c1, if_neg c2, if_neg c3, if_pos d1, if_neg d0, if_neg d3]
          · by_cases d0 : x = 0
            · by_cases d3 : x = 3
              · simp only [if_pos c1, if_neg c2, if_neg c3, if_neg d1, if_pos d0, if_pos d3]
              · simp only [if_pos c1, if_neg c2, if_neg c3, if_neg d1, if_pos d0, if_neg d3]
            · by_cases d3 : x = 3
              · simp only [if_pos c1, if_neg c2, if_neg c3, if_neg d1, if_neg d0, if_pos d3]
              · simp only [if_pos c1, if_neg c2, if_neg c3, if_neg d1, if_neg d0, if_neg d3]
    · simp only [if_neg c1]) (fun K => by
    unfold b_X10_flowOf_9
    dsimp +instances only
    rw [if_pos (by rw [mt_r _ _ _ _ (by omega) (by omega), hn]; exact nI_le (by omega) (by omega))]
    by_cases c : x = 2
    · rw [if_pos c, if_pos c]
    · rw [if_neg c, if_neg c]) n 0 FU (by omega) (FU_gt (by omega))
  rw [nI_0] at this
  exact this
section Cl
variable {bg rl : Bool} {tb : Nat → Int32} {m y sn n N w : Nat} {nw ol L : List Nat} {S : Nat → Int32}
theorem c_waitOf (R : Rel bg rl tb m y sn Bd n N 200 nw ol L h w S) {f : Nat} (hf : f < n) : p_X1_waitOf h (w + 2) (nI f) = some (wt S f, h) := by
  have hnn := R.n200
  unfold p_X1_waitOf wt
  rw [if_pos (ib_n (by omega) (by omega)), if_pos (ib_n (by omega) (by omega)), nI_clamp (by omega), R.f10 hf (by omega), R.f4 hf]
theorem c_bytesSentOf (R : Rel bg rl tb m y sn Bd n N 200 nw ol L h w S) (key : Int32) : p_X1_bytesSentOf h (w + 2) key = some ((fvv S 0 key n).1, h) := by
  have hnn := R.n200
  unfold p_X1_bytesSentOf
  have := lp_for (b := b_X1_bytesSentOf_4 (w + 2) key) (fun i => (h, (fvv S 0 key i).1, nI i)) n ((fvv S 0 key n).1, h) (fun K i hi => by
    have i2 : ib (nI i) 200 := ib_n (by omega) (by omega)
    unfold b_X1_bytesSentOf_4
    dsimp +instances only
    rw [if_neg (by rw [R.many, R.i1]; exact nI_ge hi (by omega))]
    simp only [if_pos i2, nI_clamp (show i < 2 ^ 31 by omega)]
    rw [R.f1 hi, R.f9 hi (by omega), R.f2 hi, nI_1, fvv]
    by_cases c1 : S (276 + 12 * i + 0) = key
    · rw [if_pos c1, if_pos c1]
      by_cases c2 : S (276 + 12 * i + 6) = 1
      · rw [if_pos c2, if_pos c2, nv_eq]
        rfl
      · rw [if_neg c2, if_neg c2]
        rfl
    · rw [if_neg c1, if_neg c1]) (fun K => by
    unfold b_X1_bytesSentOf_4
    dsimp +instances only
    rw [if_pos (by rw [R.many, R.i1]; exact nI_le (by omega) (by omega))]) n 0 FU (by omega) (FU_gt (by omega))
  rw [nI_0] at this
  exact this
theorem c_cameOf (R : Rel bg rl tb m y sn Bd n N 200 nw ol L h w S) (key : Int32) : p_X1_cameOf h (w + 2) key = some ((fvv S 1 key n).1, h) := by
  have hnn := R.n200
  unfold p_X1_cameOf
  have := lp_for (b := b_X1_cameOf_4 (w + 2) key) (fun i => (h, (fvv S 1 key i).1, nI i)) n ((fvv S 1 key n).1, h) (fun K i hi => by
    have i2 : ib (nI i) 200 := ib_n (by omega) (by omega)
    unfold b_X1_cameOf_4
    dsimp +instances only
    rw [if_neg (by rw [R.many, R.i1]; exact nI_ge hi (by omega))]
    simp only [if_pos i2, nI_clamp (show i < 2 ^ 31 by omega)]
    rw [R.f1 hi, nI_1, fvv]
    by_cases c1 : S (276 + 12 * i + 0) = key
    · rw [if_pos c1, if_pos c1]
      by_cases c2 : S (276 + 12 * i + 6) = 1
      · rw [if_pos c2, if_pos rfl, if_neg (by decide), if_neg (by decide), Int32.add_zero]
      · rw [if_neg c2, if_pos rfl]
    · rw [if_neg c1, if_neg c1]) (fun K => by
    unfold b_X1_cameOf_4
    dsimp +instances only
    rw [if_pos (by rw [R.many, R.i1]; exact nI_le (by omega) (by omega))]) n 0 FU (by omega) (FU_gt (by omega))
  rw [nI_0] at this
  exact this
theorem c_waitsOf (R : Rel bg rl tb m y sn Bd n N 200 nw ol L h w S) (key : Int32) : p_X1_waitsOf h (w + 2) key = some ((fvv S 3 key n).1, h) := by
  have hnn := R.n200
  unfold p_X1_waitsOf
  have := lp_for (b := b_X1_waitsOf_4 (w + 2) key) (fun i => (h, (fvv S 3 key i).1, nI i)) n ((fvv S 3 key n).1, h) (fun K i hi => by
    have i2 : ib (nI i) 200 := ib_n (by omega) (by omega)
    unfold b_X1_waitsOf_4
    dsimp +instances only
    rw [if_neg (by rw [R.many, R.i1]; exact nI_ge hi (by omega))]
    simp only [if_pos i2, nI_clamp (show i < 2 ^ 31 by omega)]
    rw [R.f1 hi, R.f9 hi (by omega), c_waitOf R hi, Option.bind_some]
    dsimp +instances only
    rw [nI_1, fvv]
    by_cases c1 : S (276 + 12 * i + 0) = key
    · rw [if_pos c1, if_pos c1]
      by_cases c2 : S (276 + 12 * i + 6) = 1
      · rw [if_pos c2, if_pos c2, nv_eq]
        rfl
      · rw [if_neg c2, if_neg c2]
        rfl
    · rw [if_neg c1, if_neg c1]) (fun K => by
    unfold b_X1_waitsOf_4
    dsimp +instances only
    rw [if_pos (by rw [R.many, R.i1]; exact nI_le (by omega) (by omega))]) n 0 FU (by omega) (FU_gt (by omega))
  rw [nI_0] at this
  exact this
theorem c_greatestWaitOf (R : Rel bg rl tb m y sn Bd n N 200 nw ol L h w S) (key : Int32) : p_X1_greatestWaitOf h (w + 2) key = some ((fvv S 2 key n).2, h) := by
  have hnn := R.n200
  unfold p_X1_greatestWaitOf
  have := lp_for (b := b_X1_greatestWaitOf_5 (w + 2) key) (fun i => (h, (fvv S 2 key i).2, nI i)) n ((fvv S 2 key n).2, h) (fun K i hi => by
    have i2 : ib (nI i) 200 := ib_n (by omega) (by omega)
    unfold b_X1_greatestWaitOf_5
    dsimp +instances only
    rw [if_neg (by rw [R.many, R.i1]; exact nI_ge hi (by omega))]
    simp only [if_pos i2, nI_clamp (show i < 2 ^ 31 by omega)]
    rw [R.f1 hi, R.f9 hi (by omega), c_waitOf R hi, Option.bind_some]
    dsimp +instances only
    rw [nI_1, fvv]
    by_cases c1 : S (276 + 12 * i + 0) = key
    · rw [if_pos c1, if_pos c1]
      by_cases c2 : S (276 + 12 * i + 6) = 1
      · rw [if_pos c2, if_pos c2, nv_eq]
        dsimp +instances only
        by_cases c3 : wt S i ≤ (fvv S 2 key i).2
        · rw [if_pos c3, if_neg (fun u => (fa_of_lt u).2.1 c3)]
        · rw [if_neg c3, if_pos (fa_of_nle c3)]
      · rw [if_neg c2, if_neg c2]
    · rw [if_neg c1, if_neg c1]) (fun K => by
    unfold b_X1_greatestWaitOf_5
    dsimp +instances only
    rw [if_pos (by rw [R.many, R.i1]; exact nI_le (by omega) (by omega))]) n 0 FU (by omega) (FU_gt (by omega))
  rw [nI_0] at this
  exact this
theorem fvv0_rg (R : Rel bg rl tb m y sn Bd n N 200 nw ol L h w S) (key : Int32) : ∀ i, i ≤ n → ∃ v, v ≤ 1500 * i ∧ (fvv S 0 key i).1 = nI v
  | 0, _ => ⟨0, by omega, nI_0.symm⟩
  | i + 1, hi => by
    obtain ⟨v, v1, v2⟩ := fvv0_rg R key i (by omega)
    rw [fvv]
    by_cases c1 : S (276 + 12 * i + 0) = key
    · rw [if_pos c1]
      by_cases c2 : S (276 + 12 * i + 6) = 1
      · rw [if_pos c2]
        obtain ⟨u, u1, u2, u3⟩ := (R.fi.1 i (by omega)).2.1
        refine ⟨v + u, by omega, ?_⟩
        dsimp +instances only
        rw [if_pos rfl, if_neg (by decide), v2, u3, nI_add]
      · rw [if_neg c2]
        refine ⟨v, by omega, ?_⟩
        dsimp +instances only
        rw [if_neg (by decide), v2]
    · rw [if_neg c1]
      exact ⟨v, by omega, v2⟩
end Cl
theorem flow_m (G : GR Bd h) (hB : Bd + 1000 ≤ 5000000) (x z : Int32) : Met2 (Bd + 1000) h (fun h => p_X9_flow h 0 x z) (fun h => p_X10_flow h 110 x z) := by
  have bad : (x < 0 ∨ nI 9999 < x) → Met2 (Bd + 1000) h (fun h => p_X9_flow h 0 x z) (fun h => p_X10_flow h 110 x z) := fun a => by
    refine no_m G hB (r := -1) ?_ ?_
    · show p_X9_flow h 0 x z = _
      unfold p_X9_flow
      rw [fit13_n h a, Option.bind_some]
      dsimp +instances only
      rw [if_pos rfl]
    · show p_X10_flow h 110 x z = _
      unfold p_X10_flow
      rw [nv_eq, isK_n _ a, Option.bind_some]
      dsimp +instances only
      rw [if_pos rfl]
  rcases rng3 x (lo := 0) (hi := 9999) (by omega) (by omega) with a | a | ⟨k, _, hk, rfl⟩
  · exact bad (Or.inl a)
  · exact bad (Or.inr a)
  · have G0 := G
    obtain ⟨m, y, sn, n, N, nw, ol, L, R, hLS, g1, g2, g3, g4, g5, g6, g7⟩ := G
    have eC : p_X9_flow h 0 (nI k) z = if z < 0 then (some ((-1), h)) else (if z ≤ 3 then (if z = 0 then (Option.bind (p_X1_bytesSentOf h (0 + 10 + 2) (nI k)) fun r2 => some (r2.1, r2.2)) else (if z = 1 then (Option.bind (p_X1_cameOf h (0 + 10 + 2) (nI k)) fun r3 => some (r3.1, r3.2)) else (if z = 2 then (Option.bind (p_X1_greatestWaitOf h (0 + 10 + 2) (nI k)) fun r4 => some (r4.1, r4.2)) else (Option.bind (p_X1_waitsOf h (0 + 10 + 2) (nI k)) fun r5 => some (r5.1, r5.2))))) else (some ((-1), h))) := by
      unfold p_X9_flow
      rw [fit13_y h hk, Option.bind_some]
      dsimp +instances only
      rw [if_neg one_nz]
    have e := m_flowOf (hp h 110 0 0) (h 116 4) (h 116 7) z (nI k) R.i1 R.n200
    rw [← GR.S0] at e
    have eM : p_X10_flow h 110 (nI k) z = if z < 0 then (some ((-1), hp h 110 0 0)) else (if 3 < z then (some ((-1), hp h 110 0 0)) else some (if z = 2 then (fvv (h 116) z (nI k) n).2 else (fvv (h 116) z (nI k) n).1, hp h 110 0 0)) := by
      unfold p_X10_flow
      rw [nv_eq, isK_y _ hk, Option.bind_some]
      dsimp +instances only
      rw [if_neg one_nz, e, Option.bind_some]
    by_cases c : z < 0 ∨ nI 3 < z
    · refine no_m G0 hB (r := -1) ?_ ?_
      · show p_X9_flow h 0 (nI k) z = _
        rw [eC]
        by_cases c1 : z < 0
        · rw [if_pos c1]
        · rw [if_neg c1, if_neg (show ¬ z ≤ 3 from (fa_of_lt (c.resolve_left c1)).2.1)]
      · show p_X10_flow h 110 (nI k) z = _
        rw [eM]
        by_cases c1 : z < 0
        · rw [if_pos c1]
        · rw [if_neg c1, if_pos (show (3 : Int32) < z from c.resolve_left c1)]
    · rcases rng3 z (lo := 0) (hi := 3) (by omega) (by omega) with a | a | ⟨j, _, hj, rfl⟩
      · exact absurd (Or.inl a) c
      · exact absurd (Or.inr a) c
      · have j0 : ¬ nI j < 0 := nI_pos (by omega)
        have j3 : nI j ≤ 3 := nI_le (b := 3) hj (by omega)
        have j4 : ¬ (3 : Int32) < nI j := nI_nlt (a := 3) hj (by omega)
        refine no_m G0 hB (r := if nI j = 2 then (fvv (h 116) (nI j) (nI k) n).2 else (fvv (h 116) (nI j) (nI k) n).1) ?_ ?_
        · show p_X9_flow h 0 (nI k) (nI j) = _
          rw [eC, if_neg j0, if_pos j3, c_bytesSentOf R, c_cameOf R, c_greatestWaitOf R, c_waitsOf R]
          rcases (show j = 0 ∨ j = 1 ∨ j = 2 ∨ j = 3 by omega) with rfl | rfl | rfl | rfl
          · rfl
          · rfl
          · rfl
          · rfl
        · show p_X10_flow h 110 (nI k) (nI j) = _
          rw [eM, if_neg j0, if_neg j4]
/-! uneven -/
def mnx (B : Nat → Int32) : Nat → Int32 × Int32
  | 0 => (-2, -2)
  | i + 1 => (if (mnx B i).1 = -2 then B i else if (mnx B i).1 ≤ B i then (mnx B i).1 else B i, if B i ≤ (mnx B i).2 then (mnx B i).2 else B i)
theorem mnx_rg (B : Nat → Int32) (hB : ∀ i, ∃ v, v < 2 ^ 31 ∧ B i = nI v) : ∀ i, ∃ v, v < 2 ^ 31 ∧ (mnx B (i + 1)).1 = nI v
  | 0 => by
    obtain ⟨v, v1, v2⟩ := hB 0
    exact ⟨v, v1, by rw [← v2]; rfl⟩
  | i + 1 => by
    obtain ⟨v, v1, v2⟩ := hB (i + 1)
    obtain ⟨u, u1, u2⟩ := mnx_rg B hB i
    rw [mnx]
    dsimp +instances only
    split
    · exact ⟨v, v1, v2⟩
    · split
      · exact ⟨u, u1, u2⟩
      · exact ⟨v, v1, v2⟩
theorem nI_n2 {v : Nat} (hv : v < 2 ^ 31) : ¬ nI v = -2 := fun u => by
  have : ¬ nI v < 0 := nI_pos hv
  rw [u] at this
  exact this (by decide)
theorem uneven_m (G : GR Bd h) (hB : Bd + 1000 ≤ 5000000) : Met2 (Bd + 1000) h (fun h => p_X9_uneven h 0) (fun h => p_X10_uneven h 110) := by
  have G0 := G
  obtain ⟨m, y, sn, n, N, nw, ol, L, R, hLS, g1, g2, g3, g4, g5, g6, g7⟩ := G
  have hnn := R.n200
  obtain ⟨B, hBd⟩ : ∃ B : Nat → Int32, B = fun i => (fvv (h 116) 0 (h 116 (276 + 12 * i + 0)) n).1 := ⟨_, rfl⟩
  have hBr : ∀ i, ∃ v, v < 2 ^ 31 ∧ B i = nI v := fun i => by
    obtain ⟨v, v1, v2⟩ := fvv0_rg R (h 116 (276 + 12 * i + 0)) n (Nat.le_refl n)
    exact ⟨v, by omega, by rw [hBd]; exact v2⟩
  have mF : ∀ i, p_X10_flowOf (hp h 110 0 0) 110 (h 116 (276 + 12 * i + 0)) 0 = some (B i, hp h 110 0 0) := fun i => by
    have e := m_flowOf (hp h 110 0 0) (h 116 4) (h 116 7) 0 (h 116 (276 + 12 * i + 0)) R.i1 R.n200
    rw [← GR.S0, if_neg (by decide)] at e
    rw [e, hBd]
  have cF : ∀ i, p_X1_bytesSentOf h (0 + 10 + 2) (h 116 (276 + 12 * i + 0)) = some (B i, h) := fun i => by
    rw [c_bytesSentOf R, hBd]
  have e1 : hp h 110 0 0 (110 + 6) 1 = nI n := by
    rw [hp_o' _ _ (by omega)]
    exact R.i1
  clear hBd
  have kM := lp_for (b := b_X10_uneven_13 110) (fun i => (hp h 110 0 0, (mnx B i).1, (mnx B i).2, nI i)) n (if (mnx B n).1 = -2 then -2 else (mnx B n).2 - (mnx B n).1, hp h 110 0 0) (fun K i hi => by
    have e := m_frameOf_0 (hp h 110 0 0) (h 116) (h 116 4) (h 116 7) (b := i) (by omega)
    rw [← GR.S0] at e
    unfold b_X10_uneven_13 q_X10_uneven_54
    dsimp +instances only
    rw [if_neg (by rw [e1]; exact nI_ge hi (by omega)), e, Option.bind_some]
    dsimp +instances only
    rw [mF i, Option.bind_some]
    dsimp +instances only
    rw [mnx, nI_1]
    by_cases c1 : (mnx B i).1 = -2
    · rw [if_pos c1, if_pos c1]
      by_cases c3 : B i ≤ (mnx B i).2
      · rw [if_pos c3, if_pos c3]
      · rw [if_neg c3, if_neg c3]
    · rw [if_neg c1, if_neg c1]
      by_cases c2 : (mnx B i).1 ≤ B i
      · rw [if_pos c2, if_pos c2]
        by_cases c3 : B i ≤ (mnx B i).2
        · rw [if_pos c3, if_pos c3]
        · rw [if_neg c3, if_neg c3]
      · rw [if_neg c2, if_neg c2]
        by_cases c3 : B i ≤ (mnx B i).2
        · rw [if_pos c3, if_pos c3]
        · rw [if_neg c3, if_neg c3]) (fun K => by
    unfold b_X10_uneven_13
    dsimp +instances only
    rw [if_pos (by rw [e1]; exact nI_le (by omega) (by omega))]
    by_cases c1 : (mnx B n).1 = -2
    · rw [if_pos c1, if_pos c1]
    · rw [if_neg c1, if_neg c1]) n 0 FU (by omega) (FU_gt (by omega))
  rw [nI_0] at kM
  refine no_m G0 hB (r := if (mnx B n).1 = -2 then -2 else (mnx B n).2 - (mnx B n).1) ?_ ?_
  · show p_X9_uneven h 0 = _
    unfold p_X9_uneven p_X1_unevenness
    by_cases n0 : n = 0
    · subst n0
      rw [if_pos (by rw [R.many, R.i1]; exact nI_0), Option.bind_some]
      rfl
    · have f0 : h (0 + 10 + 2 + 1) 0 = h 116 (276 + 12 * 0 + 0) := R.f1 (show 0 < n by omega)
      rw [if_neg (by rw [R.many, R.i1]; exact nI_ne0 (by omega) (by omega)), f0, cF 0, Option.bind_some]
      dsimp +instances only
      have kC := lp_for (b := b_X1_unevenness_25 (0 + 10 + 2)) (fun i => (h, (mnx B (i + 1)).2, (mnx B (i + 1)).1, nI (i + 1))) (n - 1) ((mnx B n).2 - (mnx B n).1, h) (fun K i hi => by
        obtain ⟨u, u1, u2⟩ := mnx_rg B hBr i
        unfold b_X1_unevenness_25
        dsimp +instances only
        rw [if_neg (by rw [R.many, R.i1]; exact nI_ge (by omega) (by omega)), if_pos (ib_n (by omega) (by omega)), nI_clamp (by omega), R.f1 (show i + 1 < n by omega), cF (i + 1), Option.bind_some]
        dsimp +instances only
        rw [nv_eq, nv_eq, nI_1]
        have e2 : mnx B (i + 1 + 1) = (if (mnx B (i + 1)).1 ≤ B (i + 1) then (mnx B (i + 1)).1 else B (i + 1), if B (i + 1) ≤ (mnx B (i + 1)).2 then (mnx B (i + 1)).2 else B (i + 1)) := by
          rw [mnx, if_neg (by rw [u2]; exact nI_n2 u1)]
        rw [e2]
        dsimp +instances only
        by_cases c2 : (mnx B (i + 1)).1 ≤ B (i + 1)
        · rw [if_neg (fun u => (fa_of_lt u).2.1 c2), if_pos c2]
          by_cases c3 : B (i + 1) ≤ (mnx B (i + 1)).2
          · rw [if_neg (fun u => (fa_of_lt u).2.1 c3), if_pos c3]
          · rw [if_pos (fa_of_nle c3), if_neg c3]
        · rw [if_pos (fa_of_nle c2), if_neg c2]
          by_cases c3 : B (i + 1) ≤ (mnx B (i + 1)).2
          · rw [if_neg (fun u => (fa_of_lt u).2.1 c3), if_pos c3]
          · rw [if_pos (fa_of_nle c3), if_neg c3]) (fun K => by
        unfold b_X1_unevenness_25
        dsimp +instances only
        rw [if_pos (by rw [R.many, R.i1]; exact nI_le (by omega) (by omega)), show n - 1 + 1 = n by omega]) (n - 1) 0 FU (by omega) (FU_gt (by omega))
      obtain ⟨v0, v1, v2⟩ := hBr 0
      have e3 : mnx B (0 + 1) = (B 0, B 0) := by
        rw [mnx, mnx, if_pos rfl, if_neg]
        intro u
        rw [v2] at u
        have := fa_of_nlt (show ¬ (-2 : Int32) < nI v0 from fun q => (fa_of_lt q).2.1 u)
        exact absurd (fa_trans (show (-2 : Int32) < 0 by decide) (nI_pos' v1)) (fun q => (fa_of_lt q).2.1 u)
      rw [e3] at kC
      dsimp only at kC
      rw [show nI (0 + 1) = 1 from rfl] at kC
      rw [kC, Option.bind_some]
      dsimp +instances only
      obtain ⟨u, u1, u2⟩ := mnx_rg B hBr (n - 1)
      rw [show n - 1 + 1 = n by omega] at u2
      rw [if_neg (by rw [u2]; exact nI_n2 u1)]
  · show p_X10_uneven h 110 = _
    unfold p_X10_uneven
    rw [nv_eq]
    exact kM
end Qf
