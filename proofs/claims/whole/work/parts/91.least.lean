/-! leastTarget -/
section Tl
variable {Bd : Nat} {h : Hp}
/-- one drain at a target, whatever the class's heap -/
def DrOk (h : Hp) (e T : Nat) (h' : Hp) (LL : Nat) : Prop := KC h h' ∧ h' (0 + 59 + 1) 12 = nI LL ∧ T ≤ LL ∧ LL ≤ 99999999 ∧ ∀ X, (∀ k, k < 3715 → X 116 k = h 116 k) → mt X (X 116) (h 116 4) (h 116 7) = X → ∀ t, T ≤ t → t ≤ LL → ∃ S', p_X10_drains (hp X (110 + 6) 4 (nI t)) 110 (nI e) = some (mt X S' (nI t) (h 116 7)) ∧ S' 15 - h 116 15 = h' (0 + 59 + 1 + 2 + 13) 2 ∧ S' 16 - h 116 16 = h' (0 + 59 + 1 + 2 + 13) 4
theorem dr_T (G : GR Bd h) (hd : Bd + 200000 ≤ 5000000) {e T : Nat} (he : e ≤ 999) (hT : T ≤ 99) {hc : Hp} (K : KC h hc) : ∃ hB h' LL, p_X6_begin hc (0 + 59) (0 + 10) = some hB ∧ p_X6_drainCopy (hp hB (0 + 59 + 1 + 1) 0 (nI T)) (0 + 59) (nI e) = some h' ∧ DrOk h e T h' LL := by
  obtain ⟨m, y, sn, n, N, nw, ol, L, R, hLS, g1, g2, g3, g4, g5, g6, g7⟩ := G
  obtain ⟨hB, h', b1, b2, b3, b4, b5, b6, b7⟩ := dr_run R hLS he hd K (nI T) (nI_pos' (by omega)) (nI_le (b := 99999999) (by omega) (by omega)) (q := h (0 + 10 + 1) 2) (by rw [R.qua]; exact R.i6)
  have e2 : hp hB (0 + 59 + 1 + 1) 0 (nI T) (0 + 59 + 1 + 1) 2 = h (0 + 10 + 1) 2 := by rw [hp_k _ _ (by omega), b2 2 (by omega)]
  rw [hp_same e2] at b3
  obtain ⟨S1, N1, nw1, ol1, L1, c1, c2⟩ := b7 (h 116) (fun _ _ _ _ => rfl)
  have lo : nI T ≤ h' (0 + 59 + 1) 12 := c2.lt.2
  obtain ⟨LL, l1, l2⟩ : ∃ LL, LL < 2 ^ 31 ∧ h' (0 + 59 + 1) 12 = nI LL := by
    refine nI_of (fun u => ?_)
    have := fa_trans u (nI_pos' (n := T) (by omega))
    exact (fa_of_lt this).2.1 lo
  rw [l2] at lo b6
  have lo2 := (nI_leI (by omega) l1).mp lo
  have hi2 : LL ≤ 99999999 := (nI_leI (b := 99999999) l1 (by omega)).mp b6
  refine ⟨hB, h', LL, b1, b3, b4, l2, lo2, hi2, fun X hX hE t ht1 ht2 => ?_⟩
  obtain ⟨S', N', nw', ol', L', d1, d2⟩ := b7 (X 116) (fun k hk _ _ => hX k hk)
  have d3 := d1 X (nI t) (h 116 7) (Or.inr ⟨nI_le ht1 (by omega), by rw [l2]; exact nI_le ht2 l1⟩)
  rw [fa_upd_same (show X 116 6 = h (0 + 10 + 1) 2 by rw [hX 6 (by omega), R.qua]), ← mt_h4 X (X 116) (h 116 4) (h 116 7) (nI t), hE] at d3
  obtain ⟨a1, a2, a3, a4⟩ := tally_eq d2
  exact ⟨S', d3, by rw [← hX 15 (by omega)]; exact a2, by rw [← hX 16 (by omega)]; exact a3⟩
theorem sub_eq0 {a b c : Int32} (e : a - b = c) : a = b ↔ c = 0 := by
  constructor
  · intro u
    rw [← e, u]
    exact Int32.sub_self
  · intro u
    rw [u] at e
    have := Int32.sub_add_cancel a b
    rw [e, Int32.zero_add] at this
    exact this.symm
theorem lt_step {e T LL t : Nat} {h' b X : Hp} (D : DrOk h e T h' LL) (hb : ∀ k, k < 3715 → b 116 k = h 116 k) (K : KM b X) (h1 : T ≤ t) (h2 : t ≤ LL) (h3 : t ≤ 99) (M : Nat) : ∃ X', KM b X' ∧ lp (b_X10_leastTarget_30 110 (nI e)) (M + 1) (X, -2, nI t) = lp (b_X10_leastTarget_30 110 (nI e)) M (X', if h' (0 + 59 + 1 + 2 + 13) 2 = 0 ∧ h' (0 + 59 + 1 + 2 + 13) 4 = 0 then nI t else -2, nI (t + 1)) := by
  have xe : ∀ k, k < 3715 → X 116 k = h 116 k := fun k hk => by rw [K.2.1 k hk, hb k hk]
  have xf : ∀ k, k < 3715 → X 117 k = h 116 k := fun k hk => by rw [K.2.2 k hk, hb k hk]
  have xt : mt X (X 116) (h 116 4) (h 116 7) = X := by
    have := mt_eta X
    rw [xe 4 (by omega), xe 7 (by omega)] at this
    exact this
  obtain ⟨S', d1, d2, d3⟩ := D.2.2.2.2 X xe xt t h1 h2
  obtain ⟨X', y1, y2⟩ := m_back K S' (nI t) (h 116 7)
  refine ⟨X', y2, ?_⟩
  have r15 : mt X S' (nI t) (h 116 7) (110 + 6) 15 = S' 15 := mt_r _ _ _ _ (by omega) (by omega)
  have r16 : mt X S' (nI t) (h 116 7) (110 + 6) 16 = S' 16 := mt_r _ _ _ _ (by omega) (by omega)
  have s15 : mt X S' (nI t) (h 116 7) (110 + 7) 15 = h 116 15 := by rw [mt_n _ _ _ _ (by omega)]; exact xf 15 (by omega)
  have s16 : mt X S' (nI t) (h 116 7) (110 + 7) 16 = h 116 16 := by rw [mt_n _ _ _ _ (by omega)]; exact xf 16 (by omega)
  rw [lp_s]
  generalize lp (b_X10_leastTarget_30 110 (nI e)) M = Kk
  unfold b_X10_leastTarget_30
  dsimp +instances only
  rw [if_neg (show ¬ (99 : Int32) < nI t from nI_nlt (a := 99) h3 (by omega)), if_pos rfl, nv_eq, d1, Option.bind_some, r15, r16, s15, s16, y1, Option.bind_some, Option.bind_some, nI_1]
  by_cases c1 : S' 15 = h 116 15
  · rw [if_pos c1]
    by_cases c2 : S' 16 = h 116 16
    · rw [if_pos c2, if_pos ⟨(sub_eq0 d2).mp c1, (sub_eq0 d3).mp c2⟩]
    · rw [if_neg c2, if_neg (fun u => c2 ((sub_eq0 d3).mpr u.2))]
  · rw [if_neg c1, if_neg (fun u => c1 ((sub_eq0 d2).mpr u.1))]
theorem lt_skip {e T LL : Nat} {h' b : Hp} (D : DrOk h e T h' LL) (hb : ∀ k, k < 3715 → b 116 k = h 116 k) (hno : ¬ (h' (0 + 59 + 1 + 2 + 13) 2 = 0 ∧ h' (0 + 59 + 1 + 2 + 13) 4 = 0)) : ∀ (j t : Nat) (X : Hp) (M : Nat), KM b X → T ≤ t → t + j ≤ LL + 1 → t + j ≤ 100 → ∃ X', KM b X' ∧ lp (b_X10_leastTarget_30 110 (nI e)) (M + j) (X, -2, nI t) = lp (b_X10_leastTarget_30 110 (nI e)) M (X', -2, nI (t + j))
  | 0, t, X, M, K, _, _, _ => ⟨X, K, rfl⟩
  | j + 1, t, X, M, K, h1, h2, h3 => by
    obtain ⟨X1, k1, k2⟩ := lt_step D hb K h1 (show t ≤ LL by omega) (by omega) (M + j)
    rw [if_neg hno] at k2
    obtain ⟨X', k3, k4⟩ := lt_skip D hb hno j (t + 1) X1 M k1 (by omega) (by omega) (by omega)
    exact ⟨X', k3, by rw [← Nat.add_assoc, k2, k4, show t + 1 + j = t + (j + 1) by omega]⟩
end Tl
