/-! watch -/
section Qw
variable {bg rl : Bool} {tb : Nat → Int32} {m y sn Bd n N tk : Nat} {nw ol L : List Nat} {h : Hp} {w : Nat} {S : Nat → Int32}
theorem Rel.wnew (R : Rel bg rl tb m y sn Bd n N tk nw ol L h w S) {h' : Hp} {S' : Nat → Int32} (a : ∀ o, o < w + 40 → h' o = h o) (s : ∀ k, k ≠ 3 → k < 50 ∨ 67 < k → S' k = S k) (hw : kWI rl h' w S') : Rel bg rl tb m y sn Bd n N tk nw ol L h' w S' := by
  have hn200 := R.n200
  have hmy := R.my
  refine ⟨?_, ?_, ?_, ?_, ?_, ?_, ?_, ?_, ?_, ?_, ?_, ?_, ?_, ?_, ?_, ?_, ?_, ?_, ?_, ?_, ?_⟩
  · exact R.sc.cong (fun j _ _ => (by first | rfl | (simp (disch := omega) only [a, s]; done))) (by first | rfl | (simp (disch := omega) only [a, s]; done)) (fun j _ _ _ => (by first | rfl | (simp (disch := omega) only [a, s]; done))) (fun k _ _ _ _ => (by first | rfl | (simp (disch := omega) only [a, s]; done)))
  · exact R.bk.cong (fun b' j _ _ => (by first | rfl | (simp (disch := omega) only [a, s]; done))) (fun b' c _ _ => (by first | rfl | (simp (disch := omega) only [a, s]; done)))
  · exact R.fr.cong (fun j f _ _ _ => (by first | rfl | (simp (disch := omega) only [a, s]; done))) (fun f c _ _ => (by first | rfl | (simp (disch := omega) only [a, s]; done)))
  · exact R.ksn.cong (fun k j _ _ => (by first | rfl | (simp (disch := omega) only [a, s]; done))) (fun k _ _ => (by first | rfl | (simp (disch := omega) only [a, s]; done))) R.sn4
  · exact R.is.cong (fun k _ _ _ _ _ _ => (by first | rfl | (simp (disch := omega) only [a, s]; done)))
  · exact R.br.cong (fun b' c _ _ => (by first | rfl | (simp (disch := omega) only [a, s]; done)))
  · exact R.fi.cong (fun f c _ _ => (by first | rfl | (simp (disch := omega) only [a, s]; done))) R.n200
  · exact R.si.cong (fun k c _ _ => (by first | rfl | (simp (disch := omega) only [a, s]; done))) R.sn4
  · exact R.li.cong (fun k _ _ _ => (by first | rfl | (simp (disch := omega) only [a, s]; done))) (fun b' _ => (by first | rfl | (simp (disch := omega) only [a, s]; done))) R.my
  · exact R.lc.cong (fun j => (by first | rfl | (simp (disch := omega) only [a, s]; done))) (fun j => (by first | rfl | (simp (disch := omega) only [a, s]; done)))
  · exact R.cb.cong (fun b' j _ _ => (by first | rfl | (simp (disch := omega) only [a, s]; done))) (fun f c _ _ => (by first | rfl | (simp (disch := omega) only [a, s]; done))) (fun b' _ => (by first | rfl | (simp (disch := omega) only [a, s]; done)))
  · exact R.cf.cong (fun f _ => (by first | rfl | (simp (disch := omega) only [a, s]; done))) (by first | rfl | (simp (disch := omega) only [a, s]; done)) (fun f c _ _ => (by first | rfl | (simp (disch := omega) only [a, s]; done))) (by first | rfl | (simp (disch := omega) only [a, s]; done)) (fun b' _ => (by first | rfl | (simp (disch := omega) only [a, s]; done)))
  · exact R.el.cong R.n200 (by first | rfl | (simp (disch := omega) only [a, s]; done)) (fun i _ => (by first | rfl | (simp (disch := omega) only [a, s]; done))) (fun k _ _ => (by first | rfl | (simp (disch := omega) only [a, s]; done))) (fun f c _ _ => (by first | rfl | (simp (disch := omega) only [a, s]; done)))
  · exact R.ep.cong R.hL R.hl (fun k _ => (by first | rfl | (simp (disch := omega) only [a, s]; done))) (fun f c _ _ => (by first | rfl | (simp (disch := omega) only [a, s]; done)))
  · exact R.eh.cong R.hL2 R.sn4 (fun k _ => (by first | rfl | (simp (disch := omega) only [a, s]; done))) (fun f c _ _ => (by first | rfl | (simp (disch := omega) only [a, s]; done)))
  · exact hw
  · exact R.ta.cong (fun j _ => (by first | rfl | (simp (disch := omega) only [a, s]; done))) (fun k _ _ => (by first | rfl | (simp (disch := omega) only [a, s]; done)))
  · exact R.pk.cong (by first | rfl | (simp (disch := omega) only [a, s]; done)) (by first | rfl | (simp (disch := omega) only [a, s]; done))
  · exact R.kbg.cong (fun b' _ => (by first | rfl | (simp (disch := omega) only [a, s]; done))) (fun f c _ _ => (by first | rfl | (simp (disch := omega) only [a, s]; done))) (fun b' _ => (by first | rfl | (simp (disch := omega) only [a, s]; done)))
  · exact R.px.cong R.hL2 (fun f _ _ => (by first | rfl | (simp (disch := omega) only [a, s]; done)))
  · exact R.lt.cong (by first | rfl | (simp (disch := omega) only [a, s]; done)) (by first | rfl | (simp (disch := omega) only [a, s]; done))
theorem watch_m (G : GR Bd h) (hB : Bd + 1000 ≤ 5000000) (x1 x2 : Int32) : Met2 (Bd + 1000) h (fun h => p_X9_watch h 0 x1 x2) (fun h => p_X10_watch h 110 x1 x2) := by
  have G0 := G
  obtain ⟨m, y, sn, n, N, nw, ol, L, R, hLS, g1, g2, g3, g4, g5, g6, g7⟩ := G
  by_cases a1 : x1 < 0
  · refine no_m G0 hB (r := -1) ?_ ?_
    · show p_X9_watch h 0 x1 x2 = _
      unfold p_X9_watch
      rw [if_pos a1]
    · show p_X10_watch h 110 x1 x2 = _
      unfold p_X10_watch
      rw [nv_eq, if_pos a1]
  by_cases a2 : 5 < x1
  · refine no_m G0 hB (r := -1) ?_ ?_
    · show p_X9_watch h 0 x1 x2 = _
      unfold p_X9_watch
      rw [if_neg a1, if_pos a2]
    · show p_X10_watch h 110 x1 x2 = _
      unfold p_X10_watch
      rw [nv_eq, if_neg a1, if_pos a2]
  by_cases a3 : x2 < 0
  · refine no_m G0 hB (r := -1) ?_ ?_
    · show p_X9_watch h 0 x1 x2 = _
      unfold p_X9_watch
      rw [if_neg a1, if_neg a2, if_pos a3]
    · show p_X10_watch h 110 x1 x2 = _
      unfold p_X10_watch
      rw [nv_eq, if_neg a1, if_neg a2, if_pos a3]
  by_cases a4 : x2 ≤ 99999
  · obtain ⟨k, k6, kS, kW, _⟩ := R.wi
    obtain ⟨kC, kI⟩ := kW rfl
    have eS : hp h 110 0 0 (110 + 6) 3 = nI k := by rw [hp_o' _ _ (by omega)]; exact kS
    by_cases k5 : k < 6
    · let h1 : Hp := hp (hp (hp (hp h (0 + 10 + 40 + 1) k x1) (0 + 10 + 40 + 2) k x2) (0 + 10 + 40 + 3) k 0) (0 + 10 + 40) 3 (nI (k + 1))
      let hr : Hp := hp h1 110 0 0
      let h2 : Hp := hp (hp (hp (hp hr (110 + 6) (50 + 3 * k) x1) (110 + 6) (50 + 3 * k + 1) x2) (110 + 6) (50 + 3 * k + 2) 0) (110 + 6) 3 (nI (k + 1))
      have eh1 : ∀ q j, q ≠ 10 + 40 → q ≠ 10 + 41 → q ≠ 10 + 42 → q ≠ 10 + 43 → h1 q j = h q j := fun q j q1 q2 q3 q4 => by
        show hp (hp (hp (hp h (0 + 10 + 40 + 1) k x1) (0 + 10 + 40 + 2) k x2) (0 + 10 + 40 + 3) k 0) (0 + 10 + 40) 3 (nI (k + 1)) q j = _
        rw [hp_o' _ _ (by omega), hp_o' _ _ (by omega), hp_o' _ _ (by omega), hp_o' _ _ (by omega)]
      have er3 : hr (110 + 6) 3 = nI k := by
        show hp h1 110 0 0 (110 + 6) 3 = _
        rw [hp_o' _ _ (by omega), eh1 _ _ (by omega) (by omega) (by omega) (by omega)]
        exact kS
      have i6 : ib (nI k) 6 := ib_n k5 (by omega)
      have cl : Int32.toNatClampNeg (nI k) = k := nI_clamp (by omega)
      have ix : 50 + 3 * nI k = nI (50 + 3 * k) := by
        rw [show (3 : Int32) = nI 3 from rfl, nI_mul, show (50 : Int32) = nI 50 from rfl, nI_add]
      have q2 : ∀ q j, q ≠ 116 → h2 q j = hr q j := fun q j hq => by
        show hp (hp (hp (hp hr (110 + 6) (50 + 3 * k) x1) (110 + 6) (50 + 3 * k + 1) x2) (110 + 6) (50 + 3 * k + 2) 0) (110 + 6) 3 (nI (k + 1)) q j = _
        rw [hp_o' _ _ (by omega), hp_o' _ _ (by omega), hp_o' _ _ (by omega), hp_o' _ _ (by omega)]
      have q3 : ∀ q j, q ≠ 116 → q ≠ 110 ∨ j ≠ 0 → h2 q j = h1 q j := fun q j hq ho => by
        rw [q2 q j hq]
        show hp h1 110 0 0 q j = _
        by_cases e : j = 0
        · exact hp_o' _ _ (by omega)
        · exact hp_k _ _ e
      have s2 : ∀ j, j ≠ 3 → j ≠ 50 + 3 * k → j ≠ 50 + 3 * k + 1 → j ≠ 50 + 3 * k + 2 → h2 116 j = h 116 j := fun j j1 j2 j3 j4 => by
        show hp (hp (hp (hp hr (110 + 6) (50 + 3 * k) x1) (110 + 6) (50 + 3 * k + 1) x2) (110 + 6) (50 + 3 * k + 2) 0) (110 + 6) 3 (nI (k + 1)) (110 + 6) j = _
        rw [hp_k _ _ j1, hp_k _ _ j4, hp_k _ _ j3, hp_k _ _ j2]
        show hp h1 110 0 0 (110 + 6) j = _
        rw [hp_o' _ _ (by omega), eh1 _ _ (by omega) (by omega) (by omega) (by omega)]
      refine ⟨nI k, h1, h2, ?_, ?_, ?_⟩
      · show p_X9_watch h 0 x1 x2 = _
        unfold p_X9_watch
        rw [if_neg a1, if_neg a2, if_neg a3, if_pos a4]
        unfold p_X7_add
        rw [nv_eq, kC, if_pos (show nI k < 6 from nI_lt (b := 6) k5 (by omega)), if_pos i6, nv_eq, if_pos i6, nv_eq, if_pos i6, nv_eq, nv_eq, Option.bind_some, cl]
        dsimp only
        rw [hp_o' _ _ (by omega), hp_o' _ _ (by omega), hp_o' _ _ (by omega), kC, nI_1]
      · show p_X10_watch h1 110 x1 x2 = _
        unfold p_X10_watch
        rw [nv_eq, if_neg a1, if_neg a2, if_neg a3, if_pos a4, nv_eq, show hp h1 110 0 0 (110 + 6) 3 = nI k from er3, if_neg (show ¬ nI k = 6 from fun z => absurd ((nI_eq (b := 6) (by omega) (by omega)).mp z) (by omega)), ix, nI_1, show nI (50 + 3 * k) + 2 = nI (50 + 3 * k + 2) from nI_add (50 + 3 * k) 2]
        rw [if_pos (ib_n (by omega) (by omega)), nv_eq, if_pos (ib_n (by omega) (by omega)), nv_eq, if_pos (ib_n (by omega) (by omega)), nv_eq, nv_eq]
        rw [nI_clamp (show 50 + 3 * k < 2 ^ 31 by omega), nI_clamp (show 50 + 3 * k + 1 < 2 ^ 31 by omega), nI_clamp (show 50 + 3 * k + 2 < 2 ^ 31 by omega)]
        rw [hp_k _ _ (by omega), hp_k _ _ (by omega), hp_k _ _ (by omega), show hp h1 110 0 0 (110 + 6) 3 = nI k from er3, nI_1]
      · refine GR.bd (Bd := Bd) ⟨m, y, sn, n, N, nw, ol, L, R.wnew (h' := h2) (S' := h2 116) (fun q hq => ?_) (fun j j1 j2 => s2 j j1 (by omega) (by omega) (by omega)) ⟨k + 1, by omega, ?_, fun _ => ⟨?_, fun i hi => ?_⟩, fun z => by cases z⟩, ?_, ?_, ?_, ?_, ?_, ?_, ?_, ?_⟩ (by omega) hB
        · funext j
          rw [q3 q j (by omega) (by omega)]
          exact eh1 q j (by omega) (by omega) (by omega) (by omega)
        · exact hp_s _ _ _ _
        · rw [q3 _ _ (by omega) (by omega)]
          exact hp_s _ _ _ _
        · rw [q3 (0 + 10 + 40 + 1) _ (by omega) (by omega), q3 (0 + 10 + 40 + 2) _ (by omega) (by omega), q3 (0 + 10 + 40 + 3) _ (by omega) (by omega)]
          have t1 : h1 (0 + 10 + 40 + 1) = hp h (0 + 10 + 40 + 1) k x1 (0 + 10 + 40 + 1) := by
            show hp (hp (hp (hp h (0 + 10 + 40 + 1) k x1) (0 + 10 + 40 + 2) k x2) (0 + 10 + 40 + 3) k 0) (0 + 10 + 40) 3 (nI (k + 1)) (0 + 10 + 40 + 1) = _
            rw [hp_n (by omega), hp_n (by omega), hp_n (by omega)]
          have t2 : h1 (0 + 10 + 40 + 2) = hp (hp h (0 + 10 + 40 + 1) k x1) (0 + 10 + 40 + 2) k x2 (0 + 10 + 40 + 2) := by
            show hp (hp (hp (hp h (0 + 10 + 40 + 1) k x1) (0 + 10 + 40 + 2) k x2) (0 + 10 + 40 + 3) k 0) (0 + 10 + 40) 3 (nI (k + 1)) (0 + 10 + 40 + 2) = _
            rw [hp_n (by omega), hp_n (by omega)]
          have t3 : h1 (0 + 10 + 40 + 3) = hp (hp (hp h (0 + 10 + 40 + 1) k x1) (0 + 10 + 40 + 2) k x2) (0 + 10 + 40 + 3) k 0 (0 + 10 + 40 + 3) := by
            show hp (hp (hp (hp h (0 + 10 + 40 + 1) k x1) (0 + 10 + 40 + 2) k x2) (0 + 10 + 40 + 3) k 0) (0 + 10 + 40) 3 (nI (k + 1)) (0 + 10 + 40 + 3) = _
            rw [hp_n (by omega)]
          rw [t1, t2, t3]
          by_cases e : i = k
          · subst e
            have z0 : h2 116 (50 + 3 * i) = x1 := by
              show hp (hp (hp (hp hr (110 + 6) (50 + 3 * i) x1) (110 + 6) (50 + 3 * i + 1) x2) (110 + 6) (50 + 3 * i + 2) 0) (110 + 6) 3 (nI (i + 1)) (110 + 6) (50 + 3 * i) = _
              rw [hp_k _ _ (by omega), hp_k _ _ (by omega), hp_k _ _ (by omega), hp_s]
            have z1 : h2 116 (50 + 3 * i + 1) = x2 := by
              show hp (hp (hp (hp hr (110 + 6) (50 + 3 * i) x1) (110 + 6) (50 + 3 * i + 1) x2) (110 + 6) (50 + 3 * i + 2) 0) (110 + 6) 3 (nI (i + 1)) (110 + 6) (50 + 3 * i + 1) = _
              rw [hp_k _ _ (by omega), hp_k _ _ (by omega), hp_s]
            have z2 : h2 116 (50 + 3 * i + 2) = 0 := by
              show hp (hp (hp (hp hr (110 + 6) (50 + 3 * i) x1) (110 + 6) (50 + 3 * i + 1) x2) (110 + 6) (50 + 3 * i + 2) 0) (110 + 6) 3 (nI (i + 1)) (110 + 6) (50 + 3 * i + 2) = _
              rw [hp_k _ _ (by omega), hp_s]
            rw [z0, z1, z2, hp_s, hp_s, hp_s]
            refine ⟨?_, rfl, rfl, rfl⟩
            rcases rng3 x2 (lo := 0) (hi := 99999) (by omega) (by omega) with c | c | c
            · exact absurd c a3
            · exact absurd (Int32.lt_of_lt_of_le c a4) Int32.lt_irrefl
            · exact c
          · repeat rw [hp_k _ _ e]
            rw [s2 _ (by omega) (by omega) (by omega) (by omega), s2 _ (by omega) (by omega) (by omega) (by omega), s2 _ (by omega) (by omega) (by omega) (by omega)]
            exact kI i (by omega)
        · have hn := R.n200
          exact fun b g hb hg u => hLS b g hb hg (by rw [sb_cong (S := h 116) (s2 _ (by omega) (by omega) (by omega) (by omega)) (s2 _ (by omega) (by omega) (by omega) (by omega))] at u; exact u)
        · rw [q3 _ _ (by omega) (by omega), eh1 _ _ (by omega) (by omega) (by omega) (by omega), s2 _ (by omega) (by omega) (by omega) (by omega)]
          exact g1
        · rw [q3 _ _ (by omega) (by omega), eh1 _ _ (by omega) (by omega) (by omega) (by omega), s2 _ (by omega) (by omega) (by omega) (by omega)]
          exact g2
        · rw [s2 _ (by omega) (by omega) (by omega) (by omega)]
          exact g3
        · rw [s2 _ (by omega) (by omega) (by omega) (by omega)]
          exact g4
        · rw [q3 _ _ (by omega) (by omega), eh1 _ _ (by omega) (by omega) (by omega) (by omega)]
          exact g5
        · rw [q3 _ _ (by omega) (by omega), eh1 _ _ (by omega) (by omega) (by omega) (by omega)]
          exact g6
        · refine g7.cong (fun q hq => ?_) (fun j hj => ?_)
          · funext j
            rw [q3 _ _ (by omega) (by omega), eh1 _ _ (by omega) (by omega) (by omega) (by omega)]
          · rw [q3 _ _ (by omega) (by omega), eh1 _ _ (by omega) (by omega) (by omega) (by omega)]
    · have ek : k = 6 := by omega
      subst ek
      refine no_m G0 hB (r := -2) ?_ ?_
      · show p_X9_watch h 0 x1 x2 = _
        unfold p_X9_watch
        rw [if_neg a1, if_neg a2, if_neg a3, if_pos a4]
        unfold p_X7_add
        rw [nv_eq, if_neg (by rw [kC]; decide), Option.bind_some]
      · show p_X10_watch h 110 x1 x2 = _
        unfold p_X10_watch
        rw [nv_eq, if_neg a1, if_neg a2, if_neg a3, if_pos a4, nv_eq, if_pos (by rw [eS]; rfl)]
  · refine no_m G0 hB (r := -1) ?_ ?_
    · show p_X9_watch h 0 x1 x2 = _
      unfold p_X9_watch
      rw [if_neg a1, if_neg a2, if_neg a3, if_neg a4]
    · show p_X10_watch h 110 x1 x2 = _
      unfold p_X10_watch
      rw [nv_eq, if_neg a1, if_neg a2, if_neg a3, if_neg a4]
end Qw

