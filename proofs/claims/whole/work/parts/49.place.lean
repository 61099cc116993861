/-! which bucket; the first in it; what becomes of a frame -/
theorem first_lt {p : Nat → Bool} {n : Nat} (h : ∃ j, j < n ∧ p j = true) : fa_first p n < n := by
  obtain ⟨j, h1, h2⟩ := h
  rcases Nat.lt_or_ge (fa_first p n) n with h3 | h3
  · exact h3
  · have := fa_first_no p n j (by omega)
    rw [h2] at this
    cases this
theorem m_first_y (h : Hp) (S : Nat → Int32) (t l : Int32) {b f n : Nat} (hn : S 1 = nI n) (hn2 : n ≤ 200) (hf : f < n) (hs : sb S b f = true) (hm : ∀ g, g < f → sb S b g = false) : p_X10_firstIn (mt h S t l) 110 (nI b) = some (nI f, mt h S t l) := by
  have r1 := mt_r h S t l (k := 1) (by omega) (by omega)
  have key := lp_for (b := b_X10_firstIn_2 110 (nI b)) (fun i => (mt h S t l, nI i)) f (nI f, mt h S t l) (fun K i hi => by
      have c1 : ¬ nI n ≤ nI i := nI_ge (by omega) (by omega)
      have hx := sb_f.mp (hm i hi)
      simp only [b_X10_firstIn_2, r1, hn, if_neg c1, m_frameOf_4 h S t l (show i < 200 by omega), m_frameOf_6 h S t l (show i < 200 by omega), Option.bind_some, nI_1]
      by_cases e1 : S (276 + 12 * i + 4) = nI b
      · rw [if_pos e1, if_neg (fun z => hx ⟨e1, z⟩)]
      · rw [if_neg e1]) (fun K => by
      have c1 : ¬ nI n ≤ nI f := nI_ge (by omega) (by omega)
      have hx := sb_t.mp hs
      simp only [b_X10_firstIn_2, r1, hn, if_neg c1, m_frameOf_4 h S t l (show f < 200 by omega), m_frameOf_6 h S t l (show f < 200 by omega), Option.bind_some, if_pos hx.1, if_pos hx.2]) f 0 FU (by omega) (FU_gt (by omega))
  exact key
theorem m_first_n (h : Hp) (S : Nat → Int32) (t l : Int32) {b n : Nat} (hn : S 1 = nI n) (hn2 : n ≤ 200) (hm : ∀ g, g < n → sb S b g = false) : p_X10_firstIn (mt h S t l) 110 (nI b) = some (-1, mt h S t l) := by
  have r1 := mt_r h S t l (k := 1) (by omega) (by omega)
  have key := lp_for (b := b_X10_firstIn_2 110 (nI b)) (fun i => (mt h S t l, nI i)) n (-1, mt h S t l) (fun K i hi => by
      have c1 : ¬ nI n ≤ nI i := nI_ge (by omega) (by omega)
      have hx := sb_f.mp (hm i hi)
      simp only [b_X10_firstIn_2, r1, hn, if_neg c1, m_frameOf_4 h S t l (show i < 200 by omega), m_frameOf_6 h S t l (show i < 200 by omega), Option.bind_some, nI_1]
      by_cases e1 : S (276 + 12 * i + 4) = nI b
      · rw [if_pos e1, if_neg (fun z => hx ⟨e1, z⟩)]
      · rw [if_neg e1]) (fun K => by
      have c1 : nI n ≤ nI n := nI_le (Nat.le_refl _) (by omega)
      simp only [b_X10_firstIn_2, r1, hn, if_pos c1]) n 0 FU (by omega) (FU_gt (by omega))
  exact key
def sBec (S : Nat → Int32) (f b e : Nat) (x : Int32) : Nat → Int32 := upd (upd (upd (upd (upd (upd S (276 + 12 * f + 6) x) (276 + 12 * f + 7) (S 0)) (68 + 13 * b + 12) (S (68 + 13 * b + 12) - S (276 + 12 * f + 1))) 2 (S 2 - 1)) (3515 + e) (nI f)) 3514 (nI (e + 1))
theorem m_becomes (h : Hp) (S : Nat → Int32) (t l : Int32) {f b e : Nat} (x : Int32) (hf : f < 200) (hb : b < 16) (hi : S (276 + 12 * f + 4) = nI b) (he : S 3514 = nI e) (he2 : e < 200) : p_X10_becomes (mt h S t l) 110 (nI f) x = some (mt h (sBec S f b e x) t l) := by
  obtain ⟨e1, e2⟩ := ixL (x := 3515 + nI e) (nI_add 3515 e) (by omega)
  unfold p_X10_becomes sBec
  simp (disch := omega) only [m_frames_6, m_frames_7, m_frameOf_4, m_frameOf_1, m_of_12, m_puts_12, Option.bind_some, mt_r, mt_hp, upd_n, upd_s, nv_eq, hi, he, if_pos e1, e2, nI_1]
theorem law_c (h : Hp) {o i a : Nat} (x : Int32) (hi : i ≤ 999) (ha : a ≤ 65535) (hr : h o 11 = nI a) : p_X0_law h o x (nI i) = some (x + nI (i * a / 65536), h) := by
  have hm : i * a ≤ 999 * 65535 := Nat.mul_le_mul hi ha
  unfold p_X0_law
  rw [hr, nI_mul, pk_shrN (by omega) _ 16 (by decide +kernel)]
theorem law_m (h : Hp) (S : Nat → Int32) (t l : Int32) {b i a : Nat} (x : Int32) (hb : b < 16) (hi : i ≤ 999) (ha : a ≤ 65535) (h5 : S 5 = nI i) (hr : S (68 + 13 * b + 8) = nI a) : p_X10_law (mt h S t l) 110 (nI b) x = some (x + nI (i * a / 65536), mt h S t l) := by
  have hm : i * a ≤ 999 * 65535 := Nat.mul_le_mul hi ha
  unfold p_X10_law
  rw [m_interval, Option.bind_some, m_of_8 h S t l hb, Option.bind_some]
  simp only [h5, hr]
  rw [nI_l (by omega), nI_l (by omega), lN_mul, show (65536 : Int64) = lN 65536 from rfl, pk_lDiv (by omega) (by omega) (by omega), lN_i]
theorem m_steps (h : Hp) (S : Nat → Int32) (t l : Int32) {b : Nat} (hb : b < 16) (h8 : rg (S (68 + 13 * b + 8)) 1 65535) (h3 : rg (S (68 + 13 * b + 3)) 0 999) : p_X10_steps (mt h S t l) 110 (nI b) = some (mt h (upd S (68 + 13 * b + 8) (stp (S (68 + 13 * b + 8)) (S (68 + 13 * b + 3)))) t l) := by
  obtain ⟨a, _, ha, e1⟩ := h8
  obtain ⟨c, _, hc, e2⟩ := h3
  unfold p_X10_steps
  rw [m_of_8 h S t l hb, Option.bind_some]
  show Option.bind (p_X10_of (mt h S t l) 110 (nI b) 3) _ = _
  rw [m_of_3 h S t l hb, Option.bind_some]
  show Option.bind (p_X10_stepped (mt h S t l) (S (68 + 13 * b + 8)) (S (68 + 13 * b + 3))) _ = _
  rw [e1, e2, stm_eq (mt h S t l) ha (by omega), Option.bind_some]
  generalize stp (nI a) (nI c) = z
  show Option.bind (p_X10_puts (mt h S t l) 110 (nI b) 8 z) _ = _
  rw [m_puts_8 h S t l _ hb, Option.bind_some]
theorem stp_rg (r c : Int32) : rg (stp r c) 1 65535 := stp_rng r c
/-! which bucket -/
section Pl
variable {bg rl : Bool} {tb : Nat → Int32} {m y sn Bd n N tk : Nat} {nw ol L : List Nat} {h : Hp} {w : Nat} {S : Nat → Int32}
theorem stN_lt (k : Nat) {m : Nat} (h : 1 ≤ m) : stN k m < m := Nat.mod_lt _ h
theorem place_sim (R : Rel bg rl tb m y sn Bd n N tk nw ol L h w S) {k : Nat} (hk : k ≤ 9999) : ∃ b, b < m * y ∧ p_X8_placeFor h w (nI k) = some (nI b, h) ∧ ∀ hm t l, p_X10_goesTo (mt hm S t l) 110 (nI k) = some (nI b, mt hm S t l) := by
  have hmy := R.my
  have m1 := R.m1
  have m4 := R.m4
  have y1 := R.y1
  have y4 := R.y4
  have hst := stN_lt k m1
  obtain ⟨g, hg⟩ : ∃ g, g = stN k m * y := ⟨_, rfl⟩
  have hb2 : g + y ≤ m * y := by
    rw [hg, ← Nat.succ_mul]
    exact Nat.mul_le_mul_right y hst
  have hkm : k % y < y := Nat.mod_lt _ y1
  have hS11 : ∀ hm t l, mt hm S t l (110 + 6) 11 = nI y := fun hm t l => by rw [mt_r _ _ _ _ (by omega) (by omega), R.i11]
  have hS10 : ∀ hm t l, mt hm S t l (110 + 6) 10 = nI m := fun hm t l => by rw [mt_r _ _ _ _ (by omega) (by omega), R.i10]
  have e3 : nI (stN k m) * nI y = nI g := by rw [nI_mul, hg]
  have e4 : nI g + nI y = nI (g + y) := nI_add g y
  have hw4 : h (w + 1) 4 = nI y := by rw [R.ways, R.i11]
  have ye : (nI y).toInt ≠ 0 := by rw [nI_toInt (by omega)]; omega
  -- the calls of the loops
  have cP : p_X8_placeFor h w (nI k) = lp (b_X8_placeFor_30 w (nI k) (nI g) (nI (g + y))) FU (h, nI g) := by
    have c1 : ¬ (16 : Int32) < nI (g + y) := nI_nlt (a := 16) (by omega) (by omega)
    unfold p_X8_placeFor
    rw [setOf_c h hk m1 m4 (by rw [R.sets, R.i10]), Option.bind_some]
    show nv (nI (stN k m) * h (w + 1) 4) (fun v6 => nv (if 16 < (v6 + h (w + 1) 4) then 16 else (v6 + h (w + 1) 4)) fun v7 => lp (b_X8_placeFor_30 w (nI k) v6 v7) FU (h, v6)) = _
    rw [nv_eq, hw4, e3, nv_eq, e4, if_neg c1]
  have cM : ∀ hm t l, p_X10_goesTo (mt hm S t l) 110 (nI k) = lp (b_X10_goesTo_22 110 (nI k) (nI g)) FU (mt hm S t l, 0) := fun hm t l => by
    unfold p_X10_goesTo
    rw [hS10, setOf_m _ hk m1 m4, Option.bind_some]
    show nv (nI (stN k m) * mt hm S t l (110 + 6) 11) (fun v6 => lp (b_X10_goesTo_22 110 (nI k) v6) FU (mt hm S t l, 0)) = _
    rw [nv_eq, hS11, e3]
  let p1 : Nat → Bool := fun i => decide (¬ S (68 + 13 * (g + i) + 2) = 0 ∧ S (68 + 13 * (g + i) + 0) = nI k)
  let p2 : Nat → Bool := fun i => decide (S (68 + 13 * (g + i) + 2) = 0)
  -- one turn of the first loops
  have c1s : ∀ (K : Hp × Int32 → Option (Int32 × Hp)) (i : Nat), i < y → p1 i = false → b_X8_placeFor_30 w (nI k) (nI g) (nI (g + y)) K (h, nI (g + i)) = K (h, nI (g + i + 1)) := fun K i hi hp => by
    have z1 : ¬ nI (g + y) ≤ nI (g + i) := nI_ge (by omega) (by omega)
    have z2 : ib (nI (g + i)) 16 := ib_n (by omega) (by omega)
    have z3 : (nI (g + i)).toNatClampNeg = g + i := nI_clamp (by omega)
    have hp' := decide_eq_false_iff_not.mp hp
    simp only [b_X8_placeFor_30, if_neg z1, if_pos z2, z3, R.b6 (show g + i < 16 by omega), R.b0 (show g + i < 16 by omega), nI_1]
    by_cases q1 : S (68 + 13 * (g + i) + 2) = 0
    · rw [if_pos q1]
    · rw [if_neg q1, if_neg (fun z => hp' ⟨q1, z⟩)]
  have m1s : ∀ hm t l (K : Hp × Int32 → Option (Int32 × Hp)) (i : Nat), i < y → p1 i = false → b_X10_goesTo_22 110 (nI k) (nI g) K (mt hm S t l, nI i) = K (mt hm S t l, nI (i + 1)) := fun hm t l K i hi hp => by
    have z1 : ¬ nI y ≤ nI i := nI_ge (by omega) (by omega)
    have hp' := decide_eq_false_iff_not.mp hp
    simp only [b_X10_goesTo_22, hS11, if_neg z1, nI_add, m_of_2 hm S t l (show g + i < 16 by omega), m_of_0 hm S t l (show g + i < 16 by omega), Option.bind_some, nI_1]
    by_cases q1 : S (68 + 13 * (g + i) + 2) = 0
    · rw [if_pos q1]
    · rw [if_neg q1, if_neg (fun z => hp' ⟨q1, z⟩)]
  have c2s : ∀ (K : Hp × Int32 → Option (Int32 × Hp)) (i : Nat), i < y → p2 i = false → b_X8_placeFor_75 w (nI k) (nI g) (nI (g + y)) K (h, nI (g + i)) = K (h, nI (g + i + 1)) := fun K i hi hp => by
    have z1 : ¬ nI (g + y) ≤ nI (g + i) := nI_ge (by omega) (by omega)
    have z2 : ib (nI (g + i)) 16 := ib_n (by omega) (by omega)
    have z3 : (nI (g + i)).toNatClampNeg = g + i := nI_clamp (by omega)
    have hp' := decide_eq_false_iff_not.mp hp
    have r6 := R.b6 (show g + i < 16 by omega)
    simp only [b_X8_placeFor_75, if_neg z1, if_pos z2, z3, r6, nI_1, if_neg hp']
  have m2s : ∀ hm t l (K : Hp × Int32 → Option (Int32 × Hp)) (i : Nat), i < y → p2 i = false → b_X10_goesTo_68 110 (nI k) (nI g) K (mt hm S t l, nI i) = K (mt hm S t l, nI (i + 1)) := fun hm t l K i hi hp => by
    have z1 : ¬ nI y ≤ nI i := nI_ge (by omega) (by omega)
    have hp' := decide_eq_false_iff_not.mp hp
    simp only [b_X10_goesTo_68, hS11, if_neg z1, nI_add, m_of_2 hm S t l (show g + i < 16 by omega), Option.bind_some, nI_1, if_neg hp']
  rcases Nat.lt_or_ge (fa_first p1 y) y with h1 | h1
  · generalize hj : fa_first p1 y = j at h1
    have hy := fa_first_yes p1 y (by rw [hj]; exact h1)
    rw [hj] at hy
    have hy' := decide_eq_true_iff.mp hy
    have hno : ∀ i, i < j → p1 i = false := fun i hi => fa_first_no p1 y i (by rw [hj]; exact hi)
    refine ⟨g + j, by omega, ?_, fun hm t l => ?_⟩
    · rw [cP]
      have key := lp_for (b := b_X8_placeFor_30 w (nI k) (nI g) (nI (g + y))) (fun i => (h, nI (g + i))) j (nI (g + j), h) (fun K i hi => c1s K i (by omega) (hno i hi)) (fun K => by
        have z1 : ¬ nI (g + y) ≤ nI (g + j) := nI_ge (by omega) (by omega)
        have z2 : ib (nI (g + j)) 16 := ib_n (by omega) (by omega)
        have z3 : (nI (g + j)).toNatClampNeg = g + j := nI_clamp (by omega)
        simp only [b_X8_placeFor_30, if_neg z1, if_pos z2, z3, R.b6 (show g + j < 16 by omega), R.b0 (show g + j < 16 by omega), if_neg hy'.1, if_pos hy'.2]) j 0 FU (by omega) (FU_gt (by omega))
      exact key
    · rw [cM]
      have key := lp_for (b := b_X10_goesTo_22 110 (nI k) (nI g)) (fun i => (mt hm S t l, nI i)) j (nI (g + j), mt hm S t l) (fun K i hi => m1s hm t l K i (by omega) (hno i hi)) (fun K => by
        have z1 : ¬ nI y ≤ nI j := nI_ge (by omega) (by omega)
        simp only [b_X10_goesTo_22, hS11, if_neg z1, nI_add, m_of_2 hm S t l (show g + j < 16 by omega), m_of_0 hm S t l (show g + j < 16 by omega), Option.bind_some, if_neg hy'.1, if_pos hy'.2]) j 0 FU (by omega) (FU_gt (by omega))
      exact key
  · have hno : ∀ i, i < y → p1 i = false := fun i hi => fa_first_no p1 y i (by omega)
    have cQ : ∀ r, lp (b_X8_placeFor_75 w (nI k) (nI g) (nI (g + y))) FU (h, nI g) = some r → p_X8_placeFor h w (nI k) = some r := fun r hr => by
      rw [cP]
      have key := lp_for (b := b_X8_placeFor_30 w (nI k) (nI g) (nI (g + y))) (fun i => (h, nI (g + i))) y r (fun K i hi => c1s K i hi (hno i hi)) (fun K => by
          have z1 : nI (g + y) ≤ nI (g + y) := nI_le (Nat.le_refl _) (by omega)
          simp only [b_X8_placeFor_30, if_pos z1]
          exact hr) y 0 FU (by omega) (FU_gt (by omega))
      exact key
    have mQ : ∀ hm t l r, lp (b_X10_goesTo_68 110 (nI k) (nI g)) FU (mt hm S t l, 0) = some r → p_X10_goesTo (mt hm S t l) 110 (nI k) = some r := fun hm t l r hr => by
      rw [cM]
      have key := lp_for (b := b_X10_goesTo_22 110 (nI k) (nI g)) (fun i => (mt hm S t l, nI i)) y r (fun K i hi => m1s hm t l K i hi (hno i hi)) (fun K => by
          have z1 : nI y ≤ nI y := nI_le (Nat.le_refl _) (by omega)
          simp only [b_X10_goesTo_22, hS11, if_pos z1]
          exact hr) y 0 FU (by omega) (FU_gt (by omega))
      exact key
    rcases Nat.lt_or_ge (fa_first p2 y) y with h2 | h2
    · generalize hj : fa_first p2 y = j at h2
      have hy := fa_first_yes p2 y (by rw [hj]; exact h2)
      rw [hj] at hy
      have hy' := decide_eq_true_iff.mp hy
      have hno2 : ∀ i, i < j → p2 i = false := fun i hi => fa_first_no p2 y i (by rw [hj]; exact hi)
      refine ⟨g + j, by omega, cQ _ ?_, fun hm t l => mQ hm t l _ ?_⟩
      · have key := lp_for (b := b_X8_placeFor_75 w (nI k) (nI g) (nI (g + y))) (fun i => (h, nI (g + i))) j (nI (g + j), h) (fun K i hi => c2s K i (by omega) (hno2 i hi)) (fun K => by
          have z1 : ¬ nI (g + y) ≤ nI (g + j) := nI_ge (by omega) (by omega)
          have z2 : ib (nI (g + j)) 16 := ib_n (by omega) (by omega)
          have z3 : (nI (g + j)).toNatClampNeg = g + j := nI_clamp (by omega)
          simp only [b_X8_placeFor_75, if_neg z1, if_pos z2, z3, R.b6 (show g + j < 16 by omega), if_pos hy']) j 0 FU (by omega) (FU_gt (by omega))
        exact key
      · have key := lp_for (b := b_X10_goesTo_68 110 (nI k) (nI g)) (fun i => (mt hm S t l, nI i)) j (nI (g + j), mt hm S t l) (fun K i hi => m2s hm t l K i (by omega) (hno2 i hi)) (fun K => by
          have z1 : ¬ nI y ≤ nI j := nI_ge (by omega) (by omega)
          simp only [b_X10_goesTo_68, hS11, if_neg z1, nI_add, m_of_2 hm S t l (show g + j < 16 by omega), Option.bind_some, if_pos hy']) j 0 FU (by omega) (FU_gt (by omega))
        exact key
    · have hno2 : ∀ i, i < y → p2 i = false := fun i hi => fa_first_no p2 y i (by omega)
      have y0 : ¬ nI y = 0 := nI_ne0 (by omega) (by omega)
      have y0' : ¬ nI y ≤ (0 : Int32) := nI_nle (by omega) (by omega)
      have erem : nI k - nI k / nI y * nI y = nI (k % y) := pk_rem (by omega) (by omega) (by omega)
      refine ⟨g + k % y, by omega, cQ _ ?_, fun hm t l => mQ hm t l _ ?_⟩
      · have key := lp_for (b := b_X8_placeFor_75 w (nI k) (nI g) (nI (g + y))) (fun i => (h, nI (g + i))) y (nI (g + k % y), h) (fun K i hi => c2s K i hi (hno2 i hi)) (fun K => by
          have z1 : nI (g + y) ≤ nI (g + y) := nI_le (Nat.le_refl _) (by omega)
          simp only [b_X8_placeFor_75, if_pos z1, p_X9_remainder, hw4, if_neg y0', if_pos y0, erem, Option.bind_some, nI_add]) y 0 FU (by omega) (FU_gt (by omega))
        exact key
      · have key := lp_for (b := b_X10_goesTo_68 110 (nI k) (nI g)) (fun i => (mt hm S t l, nI i)) y (nI (g + k % y), mt hm S t l) (fun K i hi => m2s hm t l K i hi (hno2 i hi)) (fun K => by
          have z1 : nI y ≤ nI y := nI_le (Nat.le_refl _) (by omega)
          simp only [b_X10_goesTo_68, hS11, if_pos z1, if_pos y0, erem, nI_add]) y 0 FU (by omega) (FU_gt (by omega))
        exact key
end Pl

