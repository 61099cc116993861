/-! bestTarget -/
section Tb
variable {Bd : Nat} {h : Hp}
theorem fB_rg {S : Nat → Int32} : ∀ (M : List Nat) (a : Nat), (∀ f ∈ M, rg (S (276 + 12 * f + 1)) 1 1500) → ∃ s, s ≤ a + 1500 * M.length ∧ M.foldl (fB S) (nI a) = nI s
  | [], a, _ => ⟨a, by omega, rfl⟩
  | f :: M, a, e => by
    obtain ⟨u, u1, u2, u3⟩ := e f List.mem_cons_self
    obtain ⟨s, s1, s2⟩ := fB_rg M (a + u) (fun g hg => e g (List.mem_cons_of_mem _ hg))
    refine ⟨s, ?_, ?_⟩
    · rw [List.length_cons]
      omega
    · rw [List.foldl_cons, show fB S (nI a) f = nI (a + u) by unfold fB; rw [u3, nI_add]]
      exact s2
def BOk (h : Hp) (d T : Nat) (h' : Hp) (LL v : Nat) : Prop := KC h h' ∧ h' (0 + 59 + 1) 12 = nI LL ∧ T ≤ LL ∧ LL ≤ 99999999 ∧ v ≤ 300000 ∧ p_X1_bytesSentFrom h' (0 + 59 + 1 + 2) (h' (0 + 59) 1) = some (nI v, h') ∧ ∀ b X, (∀ k, k < 3715 → b 116 k = h 116 k) → b 110 22 = -2 → KM b X → ∀ t, T ≤ t → t ≤ LL → ∃ S', p_X10_runs (hp X (110 + 6) 4 (nI t)) 110 (nI d) = some (mt X S' (nI t) (h 116 7)) ∧ p_X10_bytesSent (mt X S' (nI t) (h 116 7)) 110 (mt X S' (nI t) (h 116 7) (110 + 7) 14) = some (nI v, mt X S' (nI t) (h 116 7))
theorem bt_it (G : GR Bd h) {d T : Nat} (hd : Bd + d ≤ 5000000) (hd2 : d ≤ 200) (hT : T ≤ 99) {hc : Hp} (K : KC h hc) : ∃ hB h' LL v, p_X6_begin hc (0 + 59) (0 + 10) = some hB ∧ itf (fun h => p_X8_tick h (0 + 59 + 1)) d (hp hB (0 + 59 + 1 + 1) 0 (nI T)) = some h' ∧ BOk h d T h' LL v := by
  obtain ⟨m, y, sn, n, N, nw, ol, L, R, hLS, g1, g2, g3, g4, g5, g6, g7⟩ := G
  have hnn := R.n200
  have hL : L.length ≤ n := nd_len n L R.el.2.2.2.2.1 (fun x hx => ((R.el.2.2.2.2.2.1 x).mp hx).1)
  obtain ⟨hB, h', b1, b2, b3, b4, b5, b6, b7, b8⟩ := tk_run R hLS hd K (nI T) (h (0 + 10 + 1) 5) (nI_pos' (by omega)) (nI_le (b := 99999999) (by omega) (by omega))
  have e2 : hp hB (0 + 59 + 1 + 1) 0 (nI T) (0 + 59 + 1 + 1) 5 = h (0 + 10 + 1) 5 := by rw [hp_k _ _ (by omega), b2 5 (by omega)]
  rw [hp_same e2] at b3
  obtain ⟨S1, n1, N1, nw1, ol1, L1, c1, c2, c3⟩ := b8 (h 116) (fun _ _ _ _ => rfl)
  have lo : nI T ≤ h' (0 + 59 + 1) 12 := c2.lt.2
  obtain ⟨LL, l1, l2⟩ : ∃ LL, LL < 2 ^ 31 ∧ h' (0 + 59 + 1) 12 = nI LL := by
    refine nI_of (fun u => ?_)
    have := fa_trans u (nI_pos' (n := T) (by omega))
    exact (fa_of_lt this).2.1 lo
  rw [l2] at lo b7
  have lo2 := (nI_leI (by omega) l1).mp lo
  have hi2 : LL ≤ 99999999 := (nI_leI (b := 99999999) l1 (by omega)).mp b7
  obtain ⟨M0, m1, m2, m3, m4, m5, m6, m7⟩ := from_eq c2 (by omega)
  obtain ⟨v, v1, v2⟩ := fB_rg (S := S1) M0 0 (fun f hf => (c2.fi.1 f (m7 f hf)).2.1)
  rw [nI_0] at v2
  rw [v2] at m1
  refine ⟨hB, h', LL, v, b1, b3, b4, l2, lo2, hi2, by omega, by rw [b5]; exact m1, fun b X hb h22 KX t ht1 ht2 => ?_⟩
  have xe : ∀ k, k < 3715 → X 116 k = h 116 k := fun k hk => by rw [KX.2.1 k hk, hb k hk]
  have xf : ∀ k, k < 3715 → X 117 k = h 116 k := fun k hk => by rw [KX.2.2 k hk, hb k hk]
  have x22 : X 110 22 = -2 := by rw [KX.1 _ (by omega) (by omega), h22]
  have xt : mt X (X 116) (h 116 4) (h 116 7) = X := by
    have := mt_eta X
    rw [xe 4 (by omega), xe 7 (by omega)] at this
    exact this
  obtain ⟨S', n', N', nw', ol', L', d1, d2, d3⟩ := b8 (X 116) (fun k hk _ _ => xe k hk)
  have d4 := d1 X (nI t) (h 116 7) x22 (Or.inr ⟨nI_le ht1 (by omega), by rw [l2]; exact nI_le ht2 l1⟩) (Or.inl g2.symm)
  rw [← mt_h4 X (X 116) (h 116 4) (h 116 7) (nI t), xt] at d4
  obtain ⟨M1, k1, k2, k3, k4, k5, _, _⟩ := from_eq d2 (by omega)
  rw [m1] at k1
  have ev := congrArg Prod.fst (Option.some.inj k1)
  dsimp only at ev
  have e14 : mt X S' (nI t) (h 116 7) (110 + 7) 14 = nI (pl (X 116) 1 L).length := by
    rw [mt_n _ _ _ _ (by omega), show X (110 + 7) 14 = h 116 14 from xf 14 (by omega), ← xe 14 (by omega)]
    exact (R.ext (fun k hk _ _ => xe k hk)).ep.1
  refine ⟨S', m_runs hd2 d4, ?_⟩
  rw [e14, k4, ev]
theorem bt_step {d T LL v t : Nat} {h' b X : Hp} (D : BOk h d T h' LL v) (hb : ∀ k, k < 3715 → b 116 k = h 116 k) (h22 : b 110 22 = -2) (K : KM b X) (h1 : T ≤ t) (h2 : t ≤ LL) (h3 : t ≤ 99) (bb yy : Int32) (M : Nat) : ∃ X', KM b X' ∧ lp (b_X10_bestTarget_32 110 (nI d)) (M + 1) (X, bb, yy, nI t) = if yy < nI v then lp (b_X10_bestTarget_32 110 (nI d)) M (X', nI t, nI v, nI (t + 1)) else lp (b_X10_bestTarget_32 110 (nI d)) M (X', bb, yy, nI (t + 1)) := by
  obtain ⟨S', d1, d2⟩ := D.2.2.2.2.2.2 b X hb h22 K t h1 h2
  obtain ⟨X', y1, y2⟩ := m_back K S' (nI t) (h 116 7)
  refine ⟨X', y2, ?_⟩
  rw [lp_s]
  generalize lp (b_X10_bestTarget_32 110 (nI d)) M = Kk
  unfold b_X10_bestTarget_32
  dsimp +instances only
  rw [if_neg (show ¬ (99 : Int32) < nI t from nI_nlt (a := 99) h3 (by omega)), nv_eq, d1, Option.bind_some, d2, Option.bind_some]
  dsimp +instances only
  rw [y1, Option.bind_some, nI_1]
theorem bt_skip {d T LL v : Nat} {h' b : Hp} (D : BOk h d T h' LL v) (hb : ∀ k, k < 3715 → b 116 k = h 116 k) (h22 : b 110 22 = -2) (bb yy : Int32) (hno : ¬ yy < nI v) : ∀ (j t : Nat) (X : Hp) (M : Nat), KM b X → T ≤ t → t + j ≤ LL + 1 → t + j ≤ 100 → ∃ X', KM b X' ∧ lp (b_X10_bestTarget_32 110 (nI d)) (M + j) (X, bb, yy, nI t) = lp (b_X10_bestTarget_32 110 (nI d)) M (X', bb, yy, nI (t + j))
  | 0, t, X, M, K, _, _, _ => ⟨X, K, rfl⟩
  | j + 1, t, X, M, K, h1, h2, h3 => by
    obtain ⟨X1, k1, k2⟩ := bt_step D hb h22 K h1 (show t ≤ LL by omega) (by omega) bb yy (M + j)
    rw [if_neg hno] at k2
    obtain ⟨X', k3, k4⟩ := bt_skip D hb h22 bb yy hno j (t + 1) X1 M k1 (by omega) (by omega) (by omega)
    exact ⟨X', k3, by rw [← Nat.add_assoc, k2, k4, show t + 1 + j = t + (j + 1) by omega]⟩
/-- all the targets of one run -/
theorem bt_all {d T LL v : Nat} {h' b X : Hp} (D : BOk h d T h' LL v) (hb : ∀ k, k < 3715 → b 116 k = h 116 k) (h22 : b 110 22 = -2) (bb yy : Int32) (K : KM b X) {j : Nat} (h0 : 1 ≤ j) (h1 : T + j ≤ LL + 1) (h2 : T + j ≤ 100) (M : Nat) : ∃ X', KM b X' ∧ lp (b_X10_bestTarget_32 110 (nI d)) (M + j) (X, bb, yy, nI T) = if yy < nI v then lp (b_X10_bestTarget_32 110 (nI d)) M (X', nI T, nI v, nI (T + j)) else lp (b_X10_bestTarget_32 110 (nI d)) M (X', bb, yy, nI (T + j)) := by
  by_cases c : yy < nI v
  · obtain ⟨j', rfl⟩ : ∃ j', j = j' + 1 := ⟨j - 1, by omega⟩
    obtain ⟨X1, k1, k2⟩ := bt_step D hb h22 K (Nat.le_refl T) (show T ≤ LL by omega) (by omega) bb yy (M + j')
    rw [if_pos c] at k2
    have hv := D.2.2.2.2.1
    obtain ⟨X', k3, k4⟩ := bt_skip D hb h22 (nI T) (nI v) (nI_nlt (Nat.le_refl v) (by omega)) j' (T + 1) X1 M k1 (by omega) (by omega) (by omega)
    refine ⟨X', k3, ?_⟩
    rw [if_pos c, ← Nat.add_assoc, k2, k4, show T + 1 + j' = T + (j' + 1) by omega]
  · obtain ⟨X', k3, k4⟩ := bt_skip D hb h22 bb yy c j T X M K (Nat.le_refl T) h1 h2
    exact ⟨X', k3, by rw [if_neg c, k4]⟩
end Tb
