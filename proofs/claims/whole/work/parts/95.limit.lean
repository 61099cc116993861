/-! leastLimit -/
section Tl1
variable {bg rl : Bool} {tb : Nat → Int32} {m y sn Bd n N tk : Nat} {nw ol L : List Nat} {h : Hp} {w : Nat} {S : Nat → Int32}
theorem Rel.peak0 (R : Rel bg false tb m y sn Bd n N tk nw ol L h w S) (h0 : h w 10 = 0) : Rel bg false (upd tb 8 1) m y sn Bd n N tk nw ol L h w (upd S 3476 0) := by
  have hs4 := R.sn4
  have hn200 := R.n200
  have hmy := R.my
  refine ⟨?_, ?_, ?_, ?_, ?_, ?_, ?_, ?_, ?_, ?_, ?_, ?_, ?_, ?_, ?_, ?_, ?_, ?_, ?_, ?_, ?_⟩
  · exact R.sc.cong (fun j _ _ => (by first | rfl | (simp (disch := omega) only [hp_s, hp_o', hp_k, vu_o, upd_s, upd_n]; done))) (by first | rfl | (simp (disch := omega) only [hp_s, hp_o', hp_k, vu_o, upd_s, upd_n]; done)) (fun j _ _ _ => (by first | rfl | (simp (disch := omega) only [hp_s, hp_o', hp_k, vu_o, upd_s, upd_n]; done))) (fun k _ _ _ _ => (by first | rfl | (simp (disch := omega) only [hp_s, hp_o', hp_k, vu_o, upd_s, upd_n]; done)))
  · exact R.bk.cong (fun b' j _ _ => (by first | rfl | (simp (disch := omega) only [hp_s, hp_o', hp_k, vu_o, upd_s, upd_n]; done))) (fun b' c _ _ => (by first | rfl | (simp (disch := omega) only [hp_s, hp_o', hp_k, vu_o, upd_s, upd_n]; done)))
  · exact R.fr.cong (fun j f _ _ _ => (by first | rfl | (simp (disch := omega) only [hp_s, hp_o', hp_k, vu_o, upd_s, upd_n]; done))) (fun f c _ _ => (by first | rfl | (simp (disch := omega) only [hp_s, hp_o', hp_k, vu_o, upd_s, upd_n]; done)))
  · refine ⟨fun k' hk' c' hc' h5 => ?_, fun k' hk' => ?_⟩
    · rw [upd_n _ _ (by omega)]
      exact R.ksn.1 k' hk' c' hc' h5
    · rw [upd_n _ _ (by omega), upd_n _ _ (by omega)]
      exact R.ksn.2 k' hk'
  · exact R.is.cong (fun k _ _ _ _ _ _ => (by first | rfl | (simp (disch := omega) only [hp_s, hp_o', hp_k, vu_o, upd_s, upd_n]; done)))
  · exact R.br.cong (fun b' c _ _ => (by first | rfl | (simp (disch := omega) only [hp_s, hp_o', hp_k, vu_o, upd_s, upd_n]; done)))
  · exact R.fi.cong (fun f c _ _ => (by first | rfl | (simp (disch := omega) only [hp_s, hp_o', hp_k, vu_o, upd_s, upd_n]; done))) R.n200
  · exact R.si.cong (fun k c _ _ => (by first | rfl | (simp (disch := omega) only [hp_s, hp_o', hp_k, vu_o, upd_s, upd_n]; done))) R.sn4
  · exact R.li.cong (fun k _ _ _ => (by first | rfl | (simp (disch := omega) only [hp_s, hp_o', hp_k, vu_o, upd_s, upd_n]; done))) (fun b' _ => (by first | rfl | (simp (disch := omega) only [hp_s, hp_o', hp_k, vu_o, upd_s, upd_n]; done))) R.my
  · exact R.lc.cong (fun j => (by first | rfl | (simp (disch := omega) only [hp_s, hp_o', hp_k, vu_o, upd_s, upd_n]; done))) (fun j => (by first | rfl | (simp (disch := omega) only [hp_s, hp_o', hp_k, vu_o, upd_s, upd_n]; done)))
  · exact R.cb.cong (fun b' j _ _ => (by first | rfl | (simp (disch := omega) only [hp_s, hp_o', hp_k, vu_o, upd_s, upd_n]; done))) (fun f c _ _ => (by first | rfl | (simp (disch := omega) only [hp_s, hp_o', hp_k, vu_o, upd_s, upd_n]; done))) (fun b' _ => (by first | rfl | (simp (disch := omega) only [hp_s, hp_o', hp_k, vu_o, upd_s, upd_n]; done)))
  · exact R.cf.cong (fun f _ => (by first | rfl | (simp (disch := omega) only [hp_s, hp_o', hp_k, vu_o, upd_s, upd_n]; done))) (by first | rfl | (simp (disch := omega) only [hp_s, hp_o', hp_k, vu_o, upd_s, upd_n]; done)) (fun f c _ _ => (by first | rfl | (simp (disch := omega) only [hp_s, hp_o', hp_k, vu_o, upd_s, upd_n]; done))) (by first | rfl | (simp (disch := omega) only [hp_s, hp_o', hp_k, vu_o, upd_s, upd_n]; done)) (fun b' _ => (by first | rfl | (simp (disch := omega) only [hp_s, hp_o', hp_k, vu_o, upd_s, upd_n]; done)))
  · exact R.el.cong R.n200 (by first | rfl | (simp (disch := omega) only [hp_s, hp_o', hp_k, vu_o, upd_s, upd_n]; done)) (fun i _ => (by first | rfl | (simp (disch := omega) only [hp_s, hp_o', hp_k, vu_o, upd_s, upd_n]; done))) (fun k _ _ => (by first | rfl | (simp (disch := omega) only [hp_s, hp_o', hp_k, vu_o, upd_s, upd_n]; done))) (fun f c _ _ => (by first | rfl | (simp (disch := omega) only [hp_s, hp_o', hp_k, vu_o, upd_s, upd_n]; done)))
  · exact R.ep.cong R.hL R.hl (fun k _ => (by first | rfl | (simp (disch := omega) only [hp_s, hp_o', hp_k, vu_o, upd_s, upd_n]; done))) (fun f c _ _ => (by first | rfl | (simp (disch := omega) only [hp_s, hp_o', hp_k, vu_o, upd_s, upd_n]; done)))
  · exact R.eh.cong R.hL2 R.sn4 (fun k _ => (by first | rfl | (simp (disch := omega) only [hp_s, hp_o', hp_k, vu_o, upd_s, upd_n]; done))) (fun f c _ _ => (by first | rfl | (simp (disch := omega) only [hp_s, hp_o', hp_k, vu_o, upd_s, upd_n]; done)))
  · exact R.wi.cong (fun j i _ _ => (by first | rfl | (simp (disch := omega) only [hp_s, hp_o', hp_k, vu_o, upd_s, upd_n]; done))) (fun k _ => (by first | rfl | (simp (disch := omega) only [hp_s, hp_o', hp_k, vu_o, upd_s, upd_n]; done)))
  · obtain ⟨e1, e2, e3, e4⟩ := R.ta
    refine ⟨?_, ?_, ?_, ?_⟩ <;> rw [upd_n _ _ (by omega), upd_n _ _ (by omega)] <;> assumption
  · refine ⟨R.pk.1, fun _ => ?_⟩
    rw [upd_s]
    exact h0
  · exact R.kbg.cong (fun b' _ => (by first | rfl | (simp (disch := omega) only [hp_s, hp_o', hp_k, vu_o, upd_s, upd_n]; done))) (fun f c _ _ => (by first | rfl | (simp (disch := omega) only [hp_s, hp_o', hp_k, vu_o, upd_s, upd_n]; done))) (fun b' _ => (by first | rfl | (simp (disch := omega) only [hp_s, hp_o', hp_k, vu_o, upd_s, upd_n]; done)))
  · obtain ⟨P, E, e1, e2, e3, e4⟩ := R.px.cong R.hL2 (S' := upd S 3476 0) (fun f _ _ => upd_n _ _ (by omega))
    exact ⟨P, E, e1, e2, by rw [upd_n _ _ (by omega)]; exact e3, by rw [upd_n _ _ (by omega)]; exact e4⟩
  · unfold kLT
    rw [upd_n _ _ (by omega)]
    exact R.lt
end Tl1
section Tl2
variable {m y sn Bd n N : Nat} {nw ol L : List Nat} {h : Hp}
theorem tk_peak (R : Rel true true (fun _ => 0) m y sn Bd n N 200 nw ol L h (0 + 10) (h 116)) (hLS : LSt n nw ol (h 116)) {d : Nat} (hd : Bd + d ≤ 5000000) {hc : Hp} (K : KC h hc) (T C : Int32) (hT0 : 0 ≤ T) {hB h' : Hp} (b1 : p_X6_begin hc (0 + 59) (0 + 10) = some hB) (b3 : itf (fun h => p_X8_tick h (0 + 59 + 1)) d (hp (hp hB (0 + 59 + 1 + 1) 0 T) (0 + 59 + 1 + 1) 5 C) = some h') : ∃ S', S' 3476 = h' (0 + 59 + 1) 10 ∧ ∀ hm l, hm 110 22 = -2 → Lk C l (h' (0 + 59 + 1) 10) → itf (fun h => p_X10_ticks h 110) d (mt hm (upd (h 116) 3476 0) T l) = some (mt hm S' T l) := by
  obtain ⟨hB2, c1, c2, c3, c4, c5, c6, c7⟩ := tri R K (S := h 116) (fun _ _ _ _ => rfl)
  rw [b1] at c1
  cases c1
  have e10 : hp (hp hB (0 + 59 + 1 + 1) 0 T) (0 + 59 + 1 + 1) 5 C (0 + 59 + 1) 10 = 0 := by rw [hp_o' _ _ (by omega), hp_o' _ _ (by omega), c5]
  have hnn := R.n200
  have hL6 : LSt n nw ol (upd (h 116) 3476 0) := fun b f hb hf u => hLS b f hb hf (by
    rw [sb_cong (S := h 116) (upd_n _ _ (by omega)) (upd_n _ _ (by omega))] at u
    exact u)
  obtain ⟨h2, S', n', L', nw', ol', N', t1, t2, t3, t4, t5, t6, t7⟩ := ticks_sim d ((c2.setT T C hT0).peak0 e10) hL6 (fun k hk => by rw [upd_n _ _ (by omega)]; exact tbT_4 (h 116) L 0 k hk) hd
  rw [b3] at t1
  cases t1
  have eT : hp (hp hB (0 + 59 + 1 + 1) 0 T) (0 + 59 + 1 + 1) 5 C (0 + 59 + 1 + 1) 0 = T := by rw [hp_k _ _ (by omega), hp_s]
  have eC : hp (hp hB (0 + 59 + 1 + 1) 0 T) (0 + 59 + 1 + 1) 5 C (0 + 59 + 1 + 1) 5 = C := hp_s _ _ _ _
  refine ⟨S', (t3.pk.2 (Or.inr (upd_s _ _ _))).symm, fun hm l ho hl => t2 hm T l ho (by rw [eT]; exact Or.inl rfl) (by rw [eC]; exact hl)⟩
end Tl2
section Tl3
variable {Bd : Nat} {h : Hp}
def LOk (h : Hp) (d a : Nat) : Prop := ∀ b X, (∀ k, k < 3715 → b 116 k = h 116 k) → b 110 22 = -2 → KM b X → ∀ v, 1 ≤ v → v ≤ 60 → ∃ S', p_X10_runs (hp X (110 + 6) 7 (nI v)) 110 (nI d) = some (mt X S' (h 116 4) (nI v)) ∧ (S' 17 = h 116 17 ↔ a ≤ v)
theorem ll_it (G : GR Bd h) {d : Nat} (hd : Bd + d ≤ 5000000) (hd2 : d ≤ 200) : ∃ hB h' a, p_X6_begin h (0 + 59) (0 + 10) = some hB ∧ itf (fun h => p_X8_tick h (0 + 59 + 1)) d (hp hB (0 + 59 + 1 + 1) 5 200) = some h' ∧ KC h h' ∧ a ≤ 200 ∧ h' (0 + 59 + 1) 10 = nI a ∧ LOk h d a := by
  have K := KC.refl G
  obtain ⟨m, y, sn, n, N, nw, ol, L, R, hLS, g1, g2, g3, g4, g5, g6, g7⟩ := G
  obtain ⟨tv, tv1, tv2, tv3⟩ := g3
  have hT : h (0 + 10 + 1) 0 = nI tv := by rw [g1, tv3]
  have hT0 : (0 : Int32) ≤ h (0 + 10 + 1) 0 := by
    rw [hT]
    exact nI_pos' (by omega)
  have hT9 : h (0 + 10 + 1) 0 ≤ 99999999 := by
    rw [hT]
    exact nI_le (b := 99999999) (by omega) (by omega)
  obtain ⟨hB, h', b1, b2, b3, b4, b5, b6, b7, b8⟩ := tk_run R hLS hd K (h (0 + 10 + 1) 0) 200 hT0 hT9
  have pA := tk_peak R hLS hd K (h (0 + 10 + 1) 0) 200 hT0 b1 b3
  obtain ⟨S1, n1, N1, nw1, ol1, L1, c1, c2, c3⟩ := b8 (h 116) (fun _ _ _ _ => rfl)
  obtain ⟨a, _, a1, a2⟩ := c2.pk.1
  rw [hp_same (b2 0 (by omega))] at b3
  refine ⟨hB, h', a, b1, b3, b4, a1, a2, fun b X hb h22 KX v v1 v2 => ?_⟩
  have xe : ∀ k, k < 3715 → X 116 k = h 116 k := fun k hk => by rw [KX.2.1 k hk, hb k hk]
  have x22 : X 110 22 = -2 := by rw [KX.1 _ (by omega) (by omega), h22]
  have xt : mt X (X 116) (h 116 4) (h 116 7) = X := by
    have := mt_eta X
    rw [xe 4 (by omega), xe 7 (by omega)] at this
    exact this
  by_cases av : a ≤ v
  · obtain ⟨S', n', N', nw', ol', L', d1, d2, d3⟩ := b8 (X 116) (fun k hk _ _ => xe k hk)
    have d4 := d1 X (h 116 4) (nI v) x22 (Or.inl g1.symm) (Or.inr ⟨by rw [a2]; exact nI_le av (by omega), by rw [a2]; exact nI_le (b := 200) a1 (by omega)⟩)
    rw [← mt_h7 X (X 116) (h 116 4) (h 116 7) (nI v), xt] at d4
    refine ⟨S', m_runs hd2 d4, ⟨fun _ => av, fun _ => ?_⟩⟩
    rw [d3.2.2.2 (by rw [a2]; exact nI_le (b := 200) a1 (by omega)), xe 17 (by omega)]
  · obtain ⟨hB2, h2, q1, q2, q3, q4, q5, q6, q7, q8⟩ := tk_run R hLS hd K (h (0 + 10 + 1) 0) (nI v) hT0 hT9
    obtain ⟨S', n', N', nw', ol', L', d1, d2, d3⟩ := q8 (X 116) (fun k hk _ _ => xe k hk)
    have d4 := d1 X (h 116 4) (nI v) x22 (Or.inl g1.symm) (Or.inl rfl)
    rw [← mt_h7 X (X 116) (h 116 4) (h 116 7) (nI v), xt] at d4
    refine ⟨S', m_runs hd2 d4, ⟨fun u => ?_, fun u => absurd u av⟩⟩
    exfalso
    have u2 : (S' 17).toInt = (X 116 17).toInt := by rw [u, xe 17 (by omega)]
    have u3 : h2 (0 + 59 + 1) 10 ≤ nI v := by
      rcases d3.2.2.1 u2 with z | z
      · rw [z, q6]
        exact nI_pos' (by omega)
      · exact z
    obtain ⟨SB, sb1, sb2⟩ := tk_peak R hLS hd K (h (0 + 10 + 1) 0) (nI v) hT0 q1 q3
    obtain ⟨SA, sa1, sa2⟩ := pA
    have eA := sa2 h 200 g5 (Or.inl rfl)
    have eB := sb2 h 200 g5 (Or.inr ⟨Int32.le_trans u3 (nI_le (b := 200) (by omega) (by omega)), u3⟩)
    rw [eA] at eB
    have e1 := congrFun (congrFun (Option.some.inj eB) (110 + 6)) 3476
    rw [mt_r _ _ _ _ (by omega) (by omega), mt_r _ _ _ _ (by omega) (by omega), sa1, sb1, a2] at e1
    rw [← e1] at u3
    exact av ((nI_leI (by omega) (by omega)).mp u3)
theorem ll_step {d a v : Nat} {b X : Hp} (D : LOk h d a) (hb : ∀ k, k < 3715 → b 116 k = h 116 k) (h22 : b 110 22 = -2) (K : KM b X) (h1 : 1 ≤ v) (h2 : v ≤ 60) (M : Nat) : ∃ X', KM b X' ∧ lp (b_X10_leastLimit_30 110 (nI d)) (M + 1) (X, -2, nI v) = lp (b_X10_leastLimit_30 110 (nI d)) M (X', if a ≤ v then nI v else -2, nI (v + 1)) := by
  have xf : ∀ k, k < 3715 → X 117 k = h 116 k := fun k hk => by rw [K.2.2 k hk, hb k hk]
  obtain ⟨S', d1, d2⟩ := D b X hb h22 K v h1 h2
  obtain ⟨X', y1, y2⟩ := m_back K S' (h 116 4) (nI v)
  refine ⟨X', y2, ?_⟩
  have r17 : mt X S' (h 116 4) (nI v) (110 + 6) 17 = S' 17 := mt_r _ _ _ _ (by omega) (by omega)
  have s17 : mt X S' (h 116 4) (nI v) (110 + 7) 17 = h 116 17 := by rw [mt_n _ _ _ _ (by omega)]; exact xf 17 (by omega)
  rw [lp_s]
  generalize lp (b_X10_leastLimit_30 110 (nI d)) M = Kk
  unfold b_X10_leastLimit_30
  dsimp +instances only
  rw [if_neg (show ¬ (60 : Int32) < nI v from nI_nlt (a := 60) h2 (by omega)), if_pos rfl, nv_eq, d1, Option.bind_some, r17, s17, y1, Option.bind_some, Option.bind_some, nI_1]
  by_cases c : a ≤ v
  · rw [if_pos (d2.mpr c), if_pos c]
  · rw [if_neg (fun u => c (d2.mp u)), if_neg c]
theorem ll_skip {d a : Nat} {b : Hp} (D : LOk h d a) (hb : ∀ k, k < 3715 → b 116 k = h 116 k) (h22 : b 110 22 = -2) : ∀ (j v : Nat) (X : Hp) (M : Nat), KM b X → 1 ≤ v → v + j ≤ a → v + j ≤ 61 → ∃ X', KM b X' ∧ lp (b_X10_leastLimit_30 110 (nI d)) (M + j) (X, -2, nI v) = lp (b_X10_leastLimit_30 110 (nI d)) M (X', -2, nI (v + j))
  | 0, v, X, M, K, _, _, _ => ⟨X, K, rfl⟩
  | j + 1, v, X, M, K, h1, h2, h3 => by
    obtain ⟨X1, k1, k2⟩ := ll_step D hb h22 K h1 (by omega) (M + j)
    rw [if_neg (by omega)] at k2
    obtain ⟨X', k3, k4⟩ := ll_skip D hb h22 j (v + 1) X1 M k1 (by omega) (by omega) (by omega)
    exact ⟨X', k3, by rw [← Nat.add_assoc, k2, k4, show v + 1 + j = v + (j + 1) by omega]⟩
theorem leastLimit_m (G : GR Bd h) (hB : Bd + 1000 ≤ 5000000) (x : Int32) : Met2 (Bd + 1000) h (fun h => p_X9_leastLimit h 0 x) (fun h => p_X10_leastLimit h 110 x) := by
  have bad : (x < 1 ∨ (200 : Int32) < x) → Met2 (Bd + 1000) h (fun h => p_X9_leastLimit h 0 x) (fun h => p_X10_leastLimit h 110 x) := fun a => by
    refine no_m G hB (r := -1) ?_ ?_
    · show p_X9_leastLimit h 0 x = _
      unfold p_X9_leastLimit
      rw [fit18_n h a, Option.bind_some]
      dsimp +instances only
      rw [if_pos rfl]
    · show p_X10_leastLimit h 110 x = _
      unfold p_X10_leastLimit
      rw [nv_eq, isT_n _ a, Option.bind_some]
      dsimp +instances only
      rw [if_pos rfl]
  rcases rng3 x (lo := 1) (hi := 200) (by omega) (by omega) with a | a | ⟨d, hd1, hd2, rfl⟩
  · exact bad (Or.inl a)
  · exact bad (Or.inr a)
  · obtain ⟨hB', h', a, b1, b2, K, a1, a2, D⟩ := ll_it G (d := d) (by omega) hd2
    have g5 : h 110 22 = -2 := by
      obtain ⟨_, _, _, _, _, _, _, _, _, _, _, _, _, _, g5, _, _⟩ := G
      exact g5
    have t1 : tbv 1 (Int32.toNatClampNeg 5) = 1 := rfl
    have t2 : tbv 2 (Int32.toNatClampNeg 5) = 60 := rfl
    obtain ⟨mx, m1, m2, m3⟩ : ∃ mx, 1 ≤ mx ∧ mx ≤ 200 ∧ (if nI a < 1 then (1 : Int32) else nI a) = nI mx ∧ (∀ v, 1 ≤ v → (a ≤ v ↔ mx ≤ v)) := by
      by_cases z : a = 0
      · subst z
        exact ⟨1, by omega, by omega, rfl, fun v hv => by omega⟩
      · refine ⟨a, by omega, by omega, ?_, fun v hv => Iff.rfl⟩
        rw [if_neg (show ¬ nI a < 1 from nI_nlt (b := 1) (by omega) (by omega))]
    have eC : p_X6_limitWithoutPushes h (0 + 59) (0 + 10) (nI d) = if (60 : Int32) < nI mx then (some ((-2), h')) else (some (nI mx, h')) := by
      unfold p_X6_limitWithoutPushes
      rw [b1, Option.bind_some, nv_eq]
      have := lp_it (b := b_X6_limitWithoutPushes_19 (0 + 59) (nI d)) (f := fun h => p_X8_tick h (0 + 59 + 1)) (N := d) (fin := fun q => nv (if (q (0 + 59 + 1) 10) < (tbv 1 (Int32.toNatClampNeg 5)) then (tbv 1 (Int32.toNatClampNeg 5)) else (q (0 + 59 + 1) 10)) fun v1 => if (tbv 2 (Int32.toNatClampNeg 5)) < v1 then (some ((-2), q)) else (some (v1, q))) (fun K h i hi => by
        unfold b_X6_limitWithoutPushes_19
        dsimp +instances only
        rw [if_neg (nI_ge hi (by omega)), nI_1]) (fun K h => by
        unfold b_X6_limitWithoutPushes_19
        dsimp +instances only
        rw [if_pos (nI_le (Nat.le_refl _) (by omega))]) d 0 FU _ h' (by omega) (FU_gt (by omega)) b2
      rw [nI_0] at this
      rw [this, nv_eq, t1, t2, a2, m3.1]
    refine tri_m G hB (r := if (60 : Int32) < nI mx then -2 else nI mx) (h1 := h') ?_ K (fun G1 => ?_)
    · show p_X9_leastLimit h 0 (nI d) = _
      unfold p_X9_leastLimit
      rw [fit18_y h hd1 hd2, Option.bind_some]
      dsimp +instances only
      rw [if_neg one_nz, eC]
      by_cases z : (60 : Int32) < nI mx
      · rw [if_pos z, if_pos z, Option.bind_some]
      · rw [if_neg z, if_neg z, Option.bind_some]
    · obtain ⟨X, x1, x2⟩ := m_copy (hp h' 110 0 0)
      have hb : ∀ k, k < 3715 → hp h' 110 0 0 116 k = h 116 k := fun k hk => by rw [hp_n (by omega), K.1 _ (by omega)]
      have h22 : hp h' 110 0 0 110 22 = -2 := by rw [hp_k _ _ (by omega), K.1 _ (by omega), g5]
      have pM : p_X10_leastLimit h' 110 (nI d) = lp (b_X10_leastLimit_30 110 (nI d)) FU (X, -2, nI 1) := by
        unfold p_X10_leastLimit
        rw [nv_eq, isT_y _ hd1 hd2, Option.bind_some]
        dsimp +instances only
        rw [if_neg one_nz, x1, Option.bind_some]
        rfl
      have ma : 2 ≤ mx → mx ≤ a := fun u => by
        rcases Nat.lt_or_ge a mx with q | q
        · have := (m3.2 (mx - 1) (by omega)).mp (by omega)
          omega
        · exact q
      obtain ⟨F, hF⟩ : ∃ F, FU = F + 300 := ⟨FU - 300, by have := FU_gt (k := 300) (by omega); omega⟩
      by_cases z : mx ≤ 60
      · have z2 : ¬ (60 : Int32) < nI mx := nI_nlt (a := 60) z (by omega)
        have sk : ∃ X1, KM (hp h' 110 0 0) X1 ∧ lp (b_X10_leastLimit_30 110 (nI d)) (F + 300 - (mx - 1) + (mx - 1)) (X, -2, nI 1) = lp (b_X10_leastLimit_30 110 (nI d)) (F + 300 - (mx - 1)) (X1, -2, nI mx) := by
          by_cases q : mx = 1
          · subst q
            exact ⟨X, x2, rfl⟩
          · obtain ⟨X1, k1, k2⟩ := ll_skip D hb h22 (mx - 1) 1 X (F + 300 - (mx - 1)) x2 (by omega) (by have := ma (by omega); omega) (by omega)
            rw [show 1 + (mx - 1) = mx by omega] at k2
            exact ⟨X1, k1, k2⟩
        obtain ⟨X1, k1, k2⟩ := sk
        obtain ⟨X2, k3, k4⟩ := ll_step D hb h22 k1 m1 z (F + 300 - (mx - 1) - 1)
        rw [if_pos ((m3.2 mx m1).mpr (Nat.le_refl _)), show F + 300 - (mx - 1) - 1 + 1 = F + 300 - (mx - 1) by omega] at k4
        rw [show F + 300 - (mx - 1) + (mx - 1) = F + 300 by omega] at k2
        refine ⟨X2, ?_, k3⟩
        show p_X10_leastLimit h' 110 (nI d) = _
        rw [pM, hF, k2, k4, if_neg z2, show F + 300 - (mx - 1) - 1 = F + 300 - (mx - 1) - 2 + 1 by omega, lp_s]
        generalize lp (b_X10_leastLimit_30 110 (nI d)) (F + 300 - (mx - 1) - 2) = Kk
        unfold b_X10_leastLimit_30
        dsimp +instances only
        by_cases q : (60 : Int32) < nI (mx + 1)
        · rw [if_pos q]
        · rw [if_neg q, if_neg (nI_n2 (by omega))]
      · have z2 : (60 : Int32) < nI mx := nI_lt (a := 60) (by omega) (by omega)
        obtain ⟨X1, k1, k2⟩ := ll_skip D hb h22 60 1 X (F + 240) x2 (by omega) (by have := ma (by omega); omega) (by omega)
        refine ⟨X1, ?_, k1⟩
        show p_X10_leastLimit h' 110 (nI d) = _
        rw [pM, hF, show F + 300 = F + 240 + 60 by omega, k2, if_pos z2, show F + 240 = F + 239 + 1 by omega, lp_s]
        generalize lp (b_X10_leastLimit_30 110 (nI d)) (F + 239) = Kk
        unfold b_X10_leastLimit_30
        dsimp +instances only
        rw [if_pos (show (60 : Int32) < nI (1 + 60) by decide)]
end Tl3

