/-! middle -/
section Qm
variable {Bd : Nat} {h : Hp}
def lsF (W : Nat → Nat) (u : Nat) (M : List Nat) : Nat := (M.filter (fun f => decide (W f < u))).length
def eqF (W : Nat → Nat) (u : Nat) (M : List Nat) : Nat := (M.filter (fun f => decide (W f = u))).length
theorem lsF_s (W : Nat → Nat) (u : Nat) : ∀ M : List Nat, lsF W (u + 1) M = lsF W u M + eqF W u M
  | [] => rfl
  | a :: M => by
    have ih := lsF_s W u M
    unfold lsF eqF at *
    rw [List.filter_cons, List.filter_cons, List.filter_cons]
    rcases Nat.lt_trichotomy (W a) u with c | c | c
    · rw [if_pos (decide_eq_true (by omega)), if_pos (decide_eq_true c), if_neg (by rw [decide_eq_false (by omega)]; decide), List.length_cons, List.length_cons]
      omega
    · rw [if_pos (decide_eq_true (by omega)), if_neg (by rw [decide_eq_false (by omega)]; decide), if_pos (decide_eq_true c), List.length_cons, List.length_cons]
      omega
    · rw [if_neg (by rw [decide_eq_false (by omega)]; decide), if_neg (by rw [decide_eq_false (by omega)]; decide), if_neg (by rw [decide_eq_false (by omega)]; decide)]
      exact ih
theorem lsF_mono (W : Nat → Nat) (M : List Nat) (u : Nat) : ∀ k, lsF W u M ≤ lsF W (u + k) M
  | 0 => Nat.le_refl _
  | k + 1 => by
    have := lsF_mono W M u k
    rw [← Nat.add_assoc, lsF_s]
    omega
theorem lsF_le {W : Nat → Nat} {M : List Nat} {u v : Nat} (h : u ≤ v) : lsF W u M ≤ lsF W v M := by
  obtain ⟨k, rfl⟩ := Nat.exists_eq_add_of_le h
  exact lsF_mono W M u k
theorem lsF_all {W : Nat → Nat} {u : Nat} {M : List Nat} (e : ∀ f ∈ M, W f < u) : lsF W u M = M.length := by
  unfold lsF
  rw [List.filter_eq_self.mpr (fun f hf => decide_eq_true (e f hf))]
theorem lsF_0 (W : Nat → Nat) (M : List Nat) : lsF W 0 M = 0 := by
  unfold lsF
  rw [List.filter_eq_nil_iff.mpr (fun f hf => by rw [decide_eq_true_iff]; omega)]
  rfl
theorem eqF_pos {W : Nat → Nat} {u : Nat} {M : List Nat} (h : 0 < eqF W u M) : ∃ f, f ∈ M ∧ W f = u := by
  unfold eqF at h
  obtain ⟨f, hf⟩ := List.exists_mem_of_length_pos h
  rw [List.mem_filter, decide_eq_true_iff] at hf
  exact ⟨f, hf⟩
section Cl
variable {bg rl : Bool} {tb : Nat → Int32} {m y sn n N w : Nat} {nw ol L : List Nat} {S : Nat → Int32}
theorem c_half (h : Hp) (o : Nat) {c : Nat} (hc : c < 2 ^ 31) (g : Nat → Nat) (hg : ∀ v, v ≤ 9999999 → p_X1_sentWithin h o 0 (nI v) = some (nI (g v), h)) (gr : ∀ v, g v < 2 ^ 31) : ∀ (d k lo hi M : Nat), 30 - k ≤ d → lo ≤ hi → hi ≤ 9999999 → k ≤ 30 → hi - lo < 2 ^ (30 - k) → (∀ u, u < lo → g u ≤ c / 2) → c / 2 < g hi → (∀ u v, u ≤ v → g u ≤ g v) → d < M → ∃ v, v ≤ 9999999 ∧ (∀ u, u < v → g u ≤ c / 2) ∧ c / 2 < g v ∧ lp (b_X1_middleWait_22 o (nI c)) M (h, nI lo, nI hi, nI k) = some (nI v, h)
  | d, k, lo, hi, M, h1, h2, h3, h4, h5, h6, h7, hmo, hM => by
    obtain ⟨M', rfl⟩ : ∃ m', M = m' + 1 := ⟨M - 1, by omega⟩
    by_cases e : lo = hi
    · subst e
      refine ⟨lo, h3, h6, h7, ?_⟩
      rw [lp_s]
      generalize lp (b_X1_middleWait_22 o (nI c)) M' = K
      unfold b_X1_middleWait_22
      dsimp +instances only
      by_cases c1 : (30 : Int32) ≤ nI k
      · rw [if_pos c1]
      · rw [if_neg c1, if_pos (nI_le (Nat.le_refl lo) (by omega))]
    · have k30 : k < 30 := by
        rcases Nat.lt_or_ge k 30 with a | a
        · exact a
        · rw [show 30 - k = 0 by omega] at h5
          omega
      obtain ⟨d', rfl⟩ : ∃ d', d = d' + 1 := ⟨d - 1, by omega⟩
      have hp2 : 2 ^ (30 - k) = 2 * 2 ^ (30 - (k + 1)) := by
        rw [show 30 - k = (30 - (k + 1)) + 1 by omega, Nat.pow_succ]
        omega
      have sh : (nI lo + nI hi) >>> ((1 : Int32) &&& 31) = nI ((lo + hi) / 2) := by
        rw [nI_add]
        exact pk_shrN (n := lo + hi) (by omega) _ 1 (by decide)
      have dv : nI c / 2 = nI (c / 2) := pk_div (a := c) (d := 2) hc (by omega) (by omega)
      have st : lp (b_X1_middleWait_22 o (nI c)) (M' + 1) (h, nI lo, nI hi, nI k) = if nI (g ((lo + hi) / 2)) ≤ nI (c / 2) then lp (b_X1_middleWait_22 o (nI c)) M' (h, nI ((lo + hi) / 2 + 1), nI hi, nI (k + 1)) else lp (b_X1_middleWait_22 o (nI c)) M' (h, nI lo, nI ((lo + hi) / 2), nI (k + 1)) := by
        rw [lp_s]
        generalize lp (b_X1_middleWait_22 o (nI c)) M' = K
        unfold b_X1_middleWait_22
        dsimp +instances only
        rw [if_neg (show ¬ (30 : Int32) ≤ nI k from nI_ge (b := 30) k30 (by omega)), if_neg (nI_ge (by omega) (by omega)), nv_eq, sh, hg _ (by omega), Option.bind_some]
        dsimp +instances only
        rw [nv_eq, dv, nI_1, nI_1]
      rw [st]
      by_cases cc : g ((lo + hi) / 2) ≤ c / 2
      · rw [if_pos (nI_le cc (by omega))]
        exact c_half h o hc g hg gr d' (k + 1) ((lo + hi) / 2 + 1) hi M' (by omega) (by omega) h3 (by omega) (by omega) (fun u hu => Nat.le_trans (hmo u ((lo + hi) / 2) (by omega)) cc) h7 hmo (by omega)
      · rw [if_neg (nI_ge (by omega) (gr _))]
        exact c_half h o hc g hg gr d' (k + 1) lo ((lo + hi) / 2) M' (by omega) (by omega) (by omega) (by omega) (by omega) h6 (by omega) hmo (by omega)
theorem m_mid1 (hm : Hp) (S : Nat → Int32) (t l : Int32) {c : Nat} (M : List Nat) (W : Nat → Nat) (hc : M.length = c) (hc2 : c ≤ 200) (hW : ∀ f ∈ M, W f < 2 ^ 31) (hw : ∀ i f, M[i]? = some f → p_X10_waitOf (mt hm S t l) 110 (nI i) = some (nI (W f), mt hm S t l)) {i f : Nat} (hi : M[i]? = some f) (K15 : Hp × Int32 → Option (Int32 × Hp)) : lp (b_X10_middle_28 K15 110 (nI c) (nI i)) FU (mt hm S t l, 0, 0, 0) = if c / 2 < lsF W (W f) M then K15 (mt hm S t l, nI (i + 1)) else if lsF W (W f) M + eqF W (W f) M ≤ c / 2 then K15 (mt hm S t l, nI (i + 1)) else some (nI (W f), mt hm S t l) := by
  have hz : ∀ v : Int32, v + 0 = v := Int32.add_zero
  have hfM : f ∈ M := List.mem_of_getElem? hi
  have dv : nI c / 2 = nI (c / 2) := pk_div (a := c) (d := 2) (by omega) (by omega) (by omega)
  have hl1 : lsF W (W f) M ≤ M.length := List.length_filter_le _ _
  have hl2 : eqF W (W f) M ≤ M.length := List.length_filter_le _ _
  have := lp_fo (b := b_X10_middle_28 K15 110 (nI c) (nI i)) (fun j => (mt hm S t l, nI (lsF W (W f) (M.take j)), nI (eqF W (W f) (M.take j)), nI j)) c (if c / 2 < lsF W (W f) M then K15 (mt hm S t l, nI (i + 1)) else if lsF W (W f) M + eqF W (W f) M ≤ c / 2 then K15 (mt hm S t l, nI (i + 1)) else some (nI (W f), mt hm S t l)) (fun K j hj => by
    obtain ⟨g, hg⟩ : ∃ g, M[j]? = some g := ⟨_, List.getElem?_eq_getElem (by omega)⟩
    have hgM := hW g (List.mem_of_getElem? hg)
    have hfW := hW f hfM
    have e1 : lsF W (W f) (M.take (j + 1)) = lsF W (W f) (M.take j) + (if decide (W g < W f) = true then 1 else 0) := filt_take hg
    have e2 : eqF W (W f) (M.take (j + 1)) = eqF W (W f) (M.take j) + (if decide (W g = W f) = true then 1 else 0) := filt_take hg
    unfold b_X10_middle_28 q_X10_middle_54
    dsimp +instances only
    rw [if_neg (nI_ge hj (by omega)), e1, e2]
    simp only [nv_eq, hw j g hg, hw i f hi, Option.bind_some, hz, nI_1]
    rcases Nat.lt_trichotomy (W g) (W f) with a | a | a
    · rw [if_neg (nI_ge a hfW), if_neg (fun u => by have := nI_inj hgM hfW u; omega), if_pos (decide_eq_true a), if_neg (by rw [decide_eq_false (by omega)]; decide)]
      rfl
    · rw [if_pos (nI_le (by omega) hgM), if_pos (by rw [a]), if_neg (by rw [decide_eq_false (by omega)]; decide), if_pos (decide_eq_true a)]
      rfl
    · rw [if_pos (nI_le (by omega) hgM), if_neg (fun u => by have := nI_inj hgM hfW u; omega), if_neg (by rw [decide_eq_false (by omega)]; decide), if_neg (by rw [decide_eq_false (by omega)]; decide)]
      rfl) (fun K => by
    unfold b_X10_middle_28
    dsimp +instances only
    rw [if_pos (nI_le (Nat.le_refl c) (by omega)), dv, List.take_of_length_le (by omega), nI_add, hw i f hi, Option.bind_some, nI_1]
    by_cases a : c / 2 < lsF W (W f) M
    · rw [if_pos (nI_lt a (by omega)), if_pos a]
    · rw [if_neg (nI_nlt (by omega) (by omega)), if_neg a]
      by_cases b : lsF W (W f) M + eqF W (W f) M ≤ c / 2
      · rw [if_pos (nI_le b (by omega)), if_pos b]
      · rw [if_neg (nI_ge (by omega) (by omega)), if_neg b]) c 0 FU (by omega) (FU_gt (by omega))
  rw [List.take_zero] at this
  rw [show lsF W (W f) [] = 0 from rfl, show eqF W (W f) [] = 0 from rfl, nI_0] at this
  exact this
end Cl
theorem middle_m (G : GR Bd h) (hB : Bd + 1000 ≤ 5000000) : Met2 (Bd + 1000) h (fun h => p_X9_middle h 0) (fun h => p_X10_middle h 110) := by
  have G0 := G
  obtain ⟨m, y, sn, n, N, nw, ol, L, R, hLS, g1, g2, g3, g4, g5, g6, g7⟩ := G
  have hnn := R.n200
  have hN := R.N5
  have hl := sent_len R
  obtain ⟨M, hM⟩ : ∃ M, M = pl (h 116) 1 L := ⟨_, rfl⟩
  rw [← hM] at hl
  have e14 : h 116 14 = nI M.length := by
    rw [hM]
    exact R.ep.1
  have eC1 : h (0 + 10 + 2 + 13) 1 = nI M.length := by
    rw [← e14, R.ta.1]
    exact (Int32.add_zero _).symm
  have eM1 : hp h 110 0 0 (110 + 6) 14 = nI M.length := by
    rw [hp_o' _ _ (by omega)]
    exact e14
  by_cases c0 : M.length = 0
  · refine no_m G0 hB (r := -2) ?_ ?_
    · show p_X9_middle h 0 = _
      unfold p_X9_middle p_X1_middleWait
      rw [nv_eq, eC1, c0, nI_0, if_pos rfl, Option.bind_some]
    · show p_X10_middle h 110 = _
      unfold p_X10_middle
      rw [nv_eq, nv_eq, eM1, c0, nI_0]
      refine lp_fo (b := b_X10_middle_15 110 0) (fun _ => (hp h 110 0 0, 0)) 0 _ (fun K j hj => absurd hj (Nat.not_lt_zero j)) (fun K => ?_) 0 0 FU rfl (FU_gt (by omega))
      unfold b_X10_middle_15
      dsimp +instances only
      rw [if_pos (by decide)]
  · have hWe : ∀ f, f ∈ M → ∃ v, v ≤ N ∧ wt (h 116) f = nI v := fun f hf => by
      rw [hM] at hf
      obtain ⟨a, b⟩ := (sent_mem R f).mp hf
      exact wt_rg R a (by rw [b]; exact one_nz)
    obtain ⟨W, hWd⟩ : ∃ W : Nat → Nat, W = fun f => (wt (h 116) f).toNatClampNeg := ⟨_, rfl⟩
    have hW : ∀ f, f ∈ M → W f ≤ N ∧ wt (h 116) f = nI (W f) := fun f hf => by
      obtain ⟨v, v1, v2⟩ := hWe f hf
      have : W f = v := by
        rw [hWd]
        show (wt (h 116) f).toNatClampNeg = v
        rw [v2, nI_clamp (by omega)]
      rw [this]
      exact ⟨v1, v2⟩
    have hg : ∀ v, v ≤ 9999999 → p_X1_sentWithin h (0 + 10 + 2) 0 (nI v) = some (nI (lsF W (v + 1) M), h) := fun v hv => by
      rw [c_within R 0 (nI v)]
      have e1 : fa_cnt (wi1 (h 116) 0 (nI v)) n = lsF W (v + 1) M := by
        have := sent_cnt R (wiv (h 116) 0 (nI v))
        rw [← hM] at this
        rw [show fa_cnt (wi1 (h 116) 0 (nI v)) n = (M.filter (wiv (h 116) 0 (nI v))).length from this.symm]
        unfold lsF
        congr 1
        refine List.filter_congr (fun f hf => ?_)
        obtain ⟨a, b⟩ := hW f hf
        unfold wiv
        rw [b]
        by_cases u : W f < v + 1
        · rw [decide_eq_true u, decide_eq_true ⟨nI_pos (by omega), nI_nlt (by omega) (by omega)⟩]
        · rw [decide_eq_false u, decide_eq_false (fun q => q.2 (nI_lt (by omega) (by omega)))]
      rw [e1]
    have gr : ∀ v, lsF W (v + 1) M < 2 ^ 31 := fun v => by
      have : lsF W (v + 1) M ≤ M.length := List.length_filter_le _ _
      omega
    have ga : M.length / 2 < lsF W (9999999 + 1) M := by
      rw [lsF_all (fun f hf => by have := (hW f hf).1; omega)]
      omega
    obtain ⟨v, v1, v2, v3, v4⟩ := c_half h (0 + 10 + 2) (c := M.length) (by omega) (fun v => lsF W (v + 1) M) hg gr 30 0 0 9999999 FU (by omega) (by omega) (by omega) (by omega) (by decide) (fun u hu => absurd hu (Nat.not_lt_zero u)) ga (fun a b hab => lsF_le (by omega)) (FU_gt (by omega))
    rw [nI_0] at v4
    have lo : lsF W v M ≤ M.length / 2 := by
      by_cases z : v = 0
      · rw [z, lsF_0]
        omega
      · have := v2 (v - 1) (by omega)
        rw [show v - 1 + 1 = v by omega] at this
        exact this
    rw [lsF_s] at v3
    obtain ⟨f0, f1, f2⟩ := eqF_pos (W := W) (u := v) (M := M) (by omega)
    obtain ⟨i1, hi1⟩ := List.getElem?_of_mem f1
    obtain ⟨i0, ⟨f, q1, q2⟩, q3⟩ := pk_least (fun i => ∃ f, M[i]? = some f ∧ W f = v) ⟨i1, f0, hi1, f2⟩
    have hi0 : i0 < M.length := (List.getElem?_eq_some_iff.mp q1).1
    have hw : ∀ i f, M[i]? = some f → p_X10_waitOf (hp h 110 0 0) 110 (nI i) = some (nI (W f), hp h 110 0 0) := fun i f hi => by
      have e := m_waitOf R (hp h 110 0 0) (h 116 4) (h 116 7) (i := i) (f := f) (by rw [← hM]; exact hi)
      rw [← GR.S0, (hW f (List.mem_of_getElem? hi)).2] at e
      exact e
    have hw2 := hw
    rw [GR.S0] at hw2
    refine no_m G0 hB (r := nI v) ?_ ?_
    · show p_X9_middle h 0 = _
      unfold p_X9_middle p_X1_middleWait
      rw [nv_eq, eC1, if_neg (nI_ne0 (by omega) (by omega))]
      rw [show nI 9999999 = (9999999 : Int32) from rfl] at v4
      rw [v4, Option.bind_some]
    · show p_X10_middle h 110 = _
      unfold p_X10_middle
      rw [nv_eq, nv_eq, eM1]
      have := lp_for (b := b_X10_middle_15 110 (nI M.length)) (fun i => (hp h 110 0 0, nI i)) i0 (nI v, hp h 110 0 0) (fun K j hj => by
        obtain ⟨g, hg'⟩ : ∃ g, M[j]? = some g := ⟨_, List.getElem?_eq_getElem (by omega)⟩
        have k := m_mid1 (hp h 110 0 0) (h 116) (h 116 4) (h 116 7) (c := M.length) M W rfl (by omega) (fun f hf => by have := (hW f hf).1; omega) hw2 hg' K
        rw [← GR.S0] at k
        unfold b_X10_middle_15
        dsimp +instances only
        rw [if_neg (nI_ge (by omega) (by omega)), k]
        have ne : W g ≠ v := fun u => q3 j hj ⟨g, hg', u⟩
        rcases Nat.lt_or_ge (W g) v with a | a
        · have b := v2 (W g) a
          rw [lsF_s] at b
          rw [if_neg (by omega), if_pos b]
        · have b : lsF W (v + 1) M ≤ lsF W (W g) M := lsF_le (by omega)
          rw [lsF_s] at b
          rw [if_pos (by omega)]) (fun K => by
        have k := m_mid1 (hp h 110 0 0) (h 116) (h 116 4) (h 116 7) (c := M.length) M W rfl (by omega) (fun f hf => by have := (hW f hf).1; omega) hw2 q1 K
        rw [← GR.S0] at k
        unfold b_X10_middle_15
        dsimp +instances only
        rw [if_neg (nI_ge (by omega) (by omega)), k, q2, if_neg (by omega), if_neg (by omega)]) i0 0 FU (by omega) (FU_gt (by omega))
      rw [nI_0] at this
      exact this
end Qm
