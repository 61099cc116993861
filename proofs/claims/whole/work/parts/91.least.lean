/-! leastTarget -/
section Tl
variable {Bd : Nat} {h : Hp}
/-- one drain at a target, whatever the class's heap -/
def DrOk (h : Hp) (e T : Nat) (h' : Hp) (LL : Nat) : Prop := KC h h' ∧ h' (0 + 59 + 1) 12 = nI LL ∧ T ≤ LL ∧ LL ≤ 99999999 ∧ ∀ X, (∀ k, k < 3715 → X 116 k = h 116 k) → mt X (X 116) (h 116 4) (h 116 7) = X → ∀ t, T ≤ t → t ≤ LL → ∃ S', p_X10_drains (hp X (110 + 6) 4 (nI t)) 110 (nI e) = some (mt X S' (nI t) (h 116 7)) ∧ S' 15 - h 116 15 = h' (0 + 59 + 1 + 2 + 13) 2 ∧ S' 16 - h 116 16 = h' (0 + 59 + 1 + 2 + 13) 4
theorem dr_T (G : GR Bd h) (hd : Bd + 200000 ≤ 5000000) {e T : Nat} (he : e ≤ 999) (hT : T ≤ 99) {hc : Hp} (K : KC h hc) : ∃ hB h' LL, p_X6_begin hc (0 + 59) (0 + 10) = some hB ∧ p_X6_drainCopy (hp hB (0 + 59 + 1 + 1) 0 (nI T)) (0 + 59) (nI e) = some h' ∧ DrOk h e T h' LL := by
  obtain ⟨m, y, sn, n, N, nw, ol, L, R, hLS, g1, g2, g3, g4, g5, g6, g7⟩ := G
  obtain ⟨hB, h', b1, b2, b3, b4, b5, b6, b7⟩ := dr_run R hLS he hd K (nI T) (nI_pos' (by omega)) (nI_le (b := 99999999) (by omega) (by omega)) (q := h (0 + 10 + 1) 2) (by rw [R.qua]; exact R.i6)
  have e2 : hp hB (0 + 59 + 1 + 1) 0 (nI T) (0 + 59 + 1 + 1) 2 = h (0 + 10 + 1) 2 := by rw [hp_k _ _ (by omega), b2 2 (by omega)]
  rw [hp_same e2] at b3
  obtain ⟨S1, N1, nw1, ol1, L1, c1, c2⟩ := b7 (h 116) (fun _ _ _ _ => rfl)
  have lo : nI T ≤ h' (0 + 59 + 1) 12 := c2.lt.2
  obtain ⟨LL, l1, l2⟩ : ∃ LL, LL < 2 ^ 31 ∧ h' (0 + 59 + 1) 12 = nI LL := by
    refine nI_of (fun u => ?_)
    have := fa_trans u (nI_pos' (n := T) (by omega))
    exact (fa_of_lt this).2.1 lo
  rw [l2] at lo b6
  have lo2 := (nI_leI (by omega) l1).mp lo
  have hi2 : LL ≤ 99999999 := (nI_leI (b := 99999999) l1 (by omega)).mp b6
  refine ⟨hB, h', LL, b1, b3, b4, l2, lo2, hi2, fun X hX hE t ht1 ht2 => ?_⟩
  obtain ⟨S', N', nw', ol', L', d1, d2⟩ := b7 (X 116) (fun k hk _ _ => hX k hk)
  have d3 := d1 X (nI t) (h 116 7) (Or.inr ⟨nI_le ht1 (by omega), by rw [l2]; exact nI_le ht2 l1⟩)
  rw [fa_upd_same (show X 116 6 = h (0 + 10 + 1) 2 by rw [hX 6 (by omega), R.qua]), ← mt_h4 X (X 116) (h 116 4) (h 116 7) (nI t), hE] at d3
  obtain ⟨a1, a2, a3, a4⟩ := tally_eq d2
  exact ⟨S', d3, by rw [← hX 15 (by omega)]; exact a2, by rw [← hX 16 (by omega)]; exact a3⟩
theorem sub_eq0 {a b c : Int32} (e : a - b = c) : a = b ↔ c = 0 := by
  constructor
  · intro u
    rw [← e, u]
    exact Int32.sub_self _
  · intro u
    rw [u] at e
    have := Int32.sub_add_cancel a b
    rw [e, Int32.zero_add] at this
    exact this.symm
theorem lt_step {e T LL t : Nat} {h' b X : Hp} (D : DrOk h e T h' LL) (hb : ∀ k, k < 3715 → b 116 k = h 116 k) (K : KM b X) (h1 : T ≤ t) (h2 : t ≤ LL) (h3 : t ≤ 99) (M : Nat) : ∃ X', KM b X' ∧ lp (b_X10_leastTarget_30 110 (nI e)) (M + 1) (X, -2, nI t) = lp (b_X10_leastTarget_30 110 (nI e)) M (X', if h' (0 + 59 + 1 + 2 + 13) 2 = 0 ∧ h' (0 + 59 + 1 + 2 + 13) 4 = 0 then nI t else -2, nI (t + 1)) := by
  have xe : ∀ k, k < 3715 → X 116 k = h 116 k := fun k hk => by rw [K.2.1 k hk, hb k hk]
  have xf : ∀ k, k < 3715 → X 117 k = h 116 k := fun k hk => by rw [K.2.2 k hk, hb k hk]
  have xt : mt X (X 116) (h 116 4) (h 116 7) = X := by
    have := mt_eta X
    rw [xe 4 (by omega), xe 7 (by omega)] at this
    exact this
  obtain ⟨S', d1, d2, d3⟩ := D.2.2.2.2 X xe xt t h1 h2
  obtain ⟨X', y1, y2⟩ := m_back K S' (nI t) (h 116 7)
  refine ⟨X', y2, ?_⟩
  have r15 : mt X S' (nI t) (h 116 7) (110 + 6) 15 = S' 15 := mt_r _ _ _ _ (by omega) (by omega)
  have r16 : mt X S' (nI t) (h 116 7) (110 + 6) 16 = S' 16 := mt_r _ _ _ _ (by omega) (by omega)
  have s15 : mt X S' (nI t) (h 116 7) (110 + 7) 15 = h 116 15 := by rw [mt_n _ _ _ _ (by omega)]; exact xf 15 (by omega)
  have s16 : mt X S' (nI t) (h 116 7) (110 + 7) 16 = h 116 16 := by rw [mt_n _ _ _ _ (by omega)]; exact xf 16 (by omega)
  rw [lp_s]
  generalize lp (b_X10_leastTarget_30 110 (nI e)) M = Kk
  unfold b_X10_leastTarget_30
  dsimp +instances only
  rw [if_neg (show ¬ (99 : Int32) < nI t from nI_nlt (a := 99) h3 (by omega)), if_pos rfl, nv_eq, d1, Option.bind_some, r15, r16, s15, s16, y1, Option.bind_some, Option.bind_some, nI_1]
  by_cases c1 : S' 15 = h 116 15
  · rw [if_pos c1]
    by_cases c2 : S' 16 = h 116 16
    · rw [if_pos c2, if_pos ⟨(sub_eq0 d2).mp c1, (sub_eq0 d3).mp c2⟩]
    · rw [if_neg c2, if_neg (fun u => c2 ((sub_eq0 d3).mpr u.2))]
  · rw [if_neg c1, if_neg (fun u => c1 ((sub_eq0 d2).mpr u.1))]
theorem lt_skip {e T LL : Nat} {h' b : Hp} (D : DrOk h e T h' LL) (hb : ∀ k, k < 3715 → b 116 k = h 116 k) (hno : ¬ (h' (0 + 59 + 1 + 2 + 13) 2 = 0 ∧ h' (0 + 59 + 1 + 2 + 13) 4 = 0)) : ∀ (j t : Nat) (X : Hp) (M : Nat), KM b X → T ≤ t → t + j ≤ LL + 1 → t + j ≤ 100 → ∃ X', KM b X' ∧ lp (b_X10_leastTarget_30 110 (nI e)) (M + j) (X, -2, nI t) = lp (b_X10_leastTarget_30 110 (nI e)) M (X', -2, nI (t + j))
  | 0, t, X, M, K, _, _, _ => ⟨X, K, rfl⟩
  | j + 1, t, X, M, K, h1, h2, h3 => by
    obtain ⟨X1, k1, k2⟩ := lt_step D hb K h1 (show t ≤ LL by omega) (by omega) (M + j)
    rw [if_neg hno] at k2
    obtain ⟨X', k3, k4⟩ := lt_skip D hb hno j (t + 1) X1 M k1 (by omega) (by omega) (by omega)
    exact ⟨X', k3, by rw [← Nat.add_assoc, k2, k4, show t + 1 + j = t + (j + 1) by omega]⟩
theorem lt_main (G : GR Bd h) (hd : Bd + 200000 ≤ 5000000) {e : Nat} (he : e ≤ 999) (d : Nat) : ∀ (T k : Nat) (hc : Hp), KC h hc → 100 ≤ T + d → k < T → T ≤ 100000000 → ∃ r h', KC h h' ∧ (∀ M, d < M → lp (b_X6_targetWithoutDrops_9 (0 + 59) (0 + 10) (nI e)) M (hc, nI T, nI k) = some (r, h')) ∧ ∀ b X, (∀ k, k < 3715 → b 116 k = h 116 k) → KM b X → ∀ M, d + 1 < M → ∃ X', KM b X' ∧ lp (b_X10_leastTarget_30 110 (nI e)) M (X, -2, nI T) = some (r, X') := by
  have t99 : tbv 2 (Int32.toNatClampNeg 0) = 99 := rfl
  have endM : ∀ (T : Nat), 100 ≤ T → T < 2 ^ 31 → ∀ (X : Hp) M, 0 < M → lp (b_X10_leastTarget_30 110 (nI e)) M (X, -2, nI T) = some (-2, X) := fun T h1 h2 X M hM => by
    obtain ⟨M', rfl⟩ : ∃ m', M = m' + 1 := ⟨M - 1, by omega⟩
    rw [lp_s]
    generalize lp (b_X10_leastTarget_30 110 (nI e)) M' = Kk
    unfold b_X10_leastTarget_30
    dsimp +instances only
    rw [if_pos (show (99 : Int32) < nI T from nI_lt (a := 99) (by omega) h2)]
  have endC : ∀ (T k : Nat), 100 ≤ T → T < 2 ^ 31 → ∀ (X : Hp) M, 0 < M → lp (b_X6_targetWithoutDrops_9 (0 + 59) (0 + 10) (nI e)) M (X, nI T, nI k) = some (-2, X) := fun T k h1 h2 X M hM => by
    obtain ⟨M', rfl⟩ : ∃ m', M = m' + 1 := ⟨M - 1, by omega⟩
    rw [lp_s]
    generalize lp (b_X6_targetWithoutDrops_9 (0 + 59) (0 + 10) (nI e)) M' = Kk
    unfold b_X6_targetWithoutDrops_9
    dsimp +instances only
    rw [t99]
    by_cases z : (99 : Int32) ≤ nI k
    · rw [if_pos z]
    · rw [if_neg z, if_pos (show (99 : Int32) < nI T from nI_lt (a := 99) (by omega) h2)]
  induction d using Nat.strongRecOn with
  | ind d ih =>
    intro T k hc K hd1 hk hT
    by_cases c : 100 ≤ T
    · refine ⟨-2, hc, K, fun M hM => endC T k c (by omega) hc M (by omega), fun b X hb KX M hM => ⟨X, KX, endM T c (by omega) X M (by omega)⟩⟩
    · obtain ⟨hB, h', LL, b1, b2, D⟩ := dr_T G hd he (show T ≤ 99 by omega) K
      have stepC : ∀ M, lp (b_X6_targetWithoutDrops_9 (0 + 59) (0 + 10) (nI e)) (M + 1) (hc, nI T, nI k) = if h' (0 + 59 + 1 + 2 + 13) 2 = 0 ∧ h' (0 + 59 + 1 + 2 + 13) 4 = 0 then some (nI T, h') else lp (b_X6_targetWithoutDrops_9 (0 + 59) (0 + 10) (nI e)) M (h', nI (LL + 1), nI (k + 1)) := fun M => by
        rw [lp_s]
        generalize lp (b_X6_targetWithoutDrops_9 (0 + 59) (0 + 10) (nI e)) M = Kk
        unfold b_X6_targetWithoutDrops_9
        dsimp +instances only
        rw [t99, if_neg (show ¬ (99 : Int32) ≤ nI k from nI_ge (b := 99) (by omega) (by omega)), if_neg (show ¬ (99 : Int32) < nI T from nI_nlt (a := 99) (by omega) (by omega)), b1, Option.bind_some, nv_eq, b2, Option.bind_some, D.2.1]
        simp only [nv_eq, nI_1]
        by_cases c1 : h' (0 + 59 + 1 + 2 + 13) 2 = 0
        · rw [if_pos c1]
          by_cases c2 : h' (0 + 59 + 1 + 2 + 13) 4 = 0
          · rw [if_pos c2, if_pos ⟨c1, c2⟩]
          · rw [if_neg c2, if_neg (fun u => c2 u.2)]
        · rw [if_neg c1, if_neg (fun u => c1 u.1)]
      by_cases ok : h' (0 + 59 + 1 + 2 + 13) 2 = 0 ∧ h' (0 + 59 + 1 + 2 + 13) 4 = 0
      · refine ⟨nI T, h', D.1, fun M hM => ?_, fun b X hb KX M hM => ?_⟩
        · obtain ⟨M', rfl⟩ : ∃ m', M = m' + 1 := ⟨M - 1, by omega⟩
          rw [stepC, if_pos ok]
        · obtain ⟨M', rfl⟩ : ∃ m', M = m' + 2 := ⟨M - 2, by omega⟩
          obtain ⟨X', k1, k2⟩ := lt_step D hb KX (Nat.le_refl T) D.2.2.1 (by omega) (M' + 1)
          refine ⟨X', k1, ?_⟩
          rw [show M' + 2 = M' + 1 + 1 from rfl, k2, if_pos ok, lp_s]
          generalize lp (b_X10_leastTarget_30 110 (nI e)) M' = Kk
          unfold b_X10_leastTarget_30
          dsimp +instances only
          by_cases z : (99 : Int32) < nI (T + 1)
          · rw [if_pos z]
          · rw [if_neg z, if_neg (nI_n2 (by omega))]
      · have l1 := D.2.2.1
        have l2 := D.2.2.2.1
        by_cases c2 : 100 ≤ LL + 1
        · refine ⟨-2, h', D.1, fun M hM => ?_, fun b X hb KX M hM => ?_⟩
          · obtain ⟨M', rfl⟩ : ∃ m', M = m' + 1 := ⟨M - 1, by omega⟩
            rw [stepC, if_neg ok]
            exact endC (LL + 1) (k + 1) c2 (by omega) h' M' (by omega)
          · obtain ⟨X', k1, k2⟩ := lt_skip D hb ok (100 - T) T X (M - (100 - T)) KX (Nat.le_refl T) (by omega) (by omega)
            refine ⟨X', k1, ?_⟩
            rw [show M - (100 - T) + (100 - T) = M by omega] at k2
            rw [k2, show T + (100 - T) = 100 by omega]
            exact endM 100 (by omega) (by omega) X' _ (by omega)
        · obtain ⟨r, h2, i1, i2, i3⟩ := ih (100 - (LL + 1)) (by omega) (LL + 1) (k + 1) h' D.1 (by omega) (by omega) (by omega)
          refine ⟨r, h2, i1, fun M hM => ?_, fun b X hb KX M hM => ?_⟩
          · obtain ⟨M', rfl⟩ : ∃ m', M = m' + 1 := ⟨M - 1, by omega⟩
            rw [stepC, if_neg ok]
            exact i2 M' (by omega)
          · obtain ⟨X1, k1, k2⟩ := lt_skip D hb ok (LL + 1 - T) T X (M - (LL + 1 - T)) KX (Nat.le_refl T) (by omega) (by omega)
            obtain ⟨X', k3, k4⟩ := i3 b X1 hb k1 (M - (LL + 1 - T)) (by omega)
            refine ⟨X', k3, ?_⟩
            rw [show M - (LL + 1 - T) + (LL + 1 - T) = M by omega] at k2
            rw [k2, show T + (LL + 1 - T) = LL + 1 by omega, k4]
theorem leastTarget_m (G : GR Bd h) (hB : Bd + 1000 ≤ 5000000) (hB2 : Bd + 200000 ≤ 5000000) (x : Int32) : Met2 (Bd + 1000) h (fun h => p_X9_leastTarget h 0 x) (fun h => p_X10_leastTarget h 110 x) := by
  have bad : (x < 0 ∨ (999 : Int32) < x) → Met2 (Bd + 1000) h (fun h => p_X9_leastTarget h 0 x) (fun h => p_X10_leastTarget h 110 x) := fun a => by
    refine no_m G hB (r := -1) ?_ ?_
    · show p_X9_leastTarget h 0 x = _
      unfold p_X9_leastTarget
      by_cases c : x < 0
      · rw [if_pos c]
      · rw [if_neg c, if_neg (fa_of_lt (a.resolve_left c)).2.1]
    · show p_X10_leastTarget h 110 x = _
      unfold p_X10_leastTarget
      rw [nv_eq, isM_n _ a, Option.bind_some]
      dsimp +instances only
      rw [if_pos rfl]
  rcases rng3 x (lo := 0) (hi := 999) (by omega) (by omega) with a | a | ⟨e, _, he, rfl⟩
  · exact bad (Or.inl a)
  · exact bad (Or.inr a)
  · obtain ⟨r, h', K, q1, q2⟩ := lt_main G hB2 he 99 1 0 h (KC.refl G) (by omega) (by omega) (by omega)
    have q1' := q1 FU (FU_gt (by omega))
    rw [nI_0] at q1'
    refine tri_m G hB (r := r) (h1 := h') ?_ K (fun G1 => ?_)
    · show p_X9_leastTarget h 0 (nI e) = _
      unfold p_X9_leastTarget p_X6_targetWithoutDrops
      rw [if_neg (nI_pos (by omega)), if_pos (show nI e ≤ 999 from nI_le (b := 999) he (by omega)), nv_eq, show tbv 1 (Int32.toNatClampNeg 0) = nI 1 from rfl, q1', Option.bind_some]
    · obtain ⟨X, x1, x2⟩ := m_copy (hp h' 110 0 0)
      obtain ⟨X', y1, y2⟩ := q2 (hp h' 110 0 0) X (fun k hk => by rw [hp_n (by omega), K.1 _ (by omega)]) x2 FU (FU_gt (by omega))
      refine ⟨X', ?_, y1⟩
      show p_X10_leastTarget h' 110 (nI e) = _
      unfold p_X10_leastTarget
      rw [nv_eq, isM_y _ he, Option.bind_some]
      dsimp +instances only
      rw [if_neg one_nz, x1, Option.bind_some]
      exact y2
end Tl
