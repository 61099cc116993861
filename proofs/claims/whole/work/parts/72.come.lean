/-! calls that change: come, pass, run -/
theorem rng3 (x : Int32) {lo hi : Nat} (hl : lo < 2 ^ 31) (hh : hi < 2 ^ 31) : x < nI lo ∨ nI hi < x ∨ ∃ k, lo ≤ k ∧ k ≤ hi ∧ x = nI k := by
  by_cases h1 : x < nI lo
  · exact Or.inl h1
  · by_cases h2 : nI hi < x
    · exact Or.inr (Or.inl h2)
    · have h3 := fa_of_nlt h1
      have h4 := fa_of_nlt h2
      have h0 : ¬ x < 0 := fun u => by
        have := Int32.le_trans h3 (fa_of_lt u).1
        rw [fa_lt] at u
        rw [fa_le, nI_toInt hl] at h3
        have e : (0 : Int32).toInt = 0 := by decide
        omega
      obtain ⟨k, hk, rfl⟩ := nI_of h0
      exact Or.inr (Or.inr ⟨k, (nI_leI hl hk).mp h3, (nI_leI hk hh).mp h4, rfl⟩)
theorem GR.bd {Bd Bd' : Nat} {h : Hp} (G : GR Bd h) (h1 : Bd ≤ Bd') (h2 : Bd' ≤ 5000000) : GR Bd' h := by
  obtain ⟨m, y, sn, n, N, nw, ol, L, R, rest⟩ := G
  exact ⟨m, y, sn, n, N, nw, ol, L, R.bd h1 h2, rest⟩
theorem GR.th0 {Bd : Nat} {h : Hp} (G : GR Bd h) (v : Int32) : GR Bd (hp h 110 0 v) := by
  obtain ⟨m, y, sn, n, N, nw, ol, L, R, hLS, g1, g2, g3, g4, g5, g6, g7⟩ := G
  have e : hp h 110 0 v 116 = h 116 := hp_n (by omega)
  unfold GR
  rw [e]
  refine ⟨m, y, sn, n, N, nw, ol, L, R.heap (fun o a b => hp_n (by omega)), hLS, ?_, ?_, g3, g4, ?_, ?_, g7.cong (fun o ho => hp_n (by omega)) (fun j hj => hp_k _ _ (by omega))⟩
  · rw [hp_o' _ _ (by omega), g1]
  · rw [hp_o' _ _ (by omega), g2]
  · rw [hp_k _ _ (by omega), g5]
  · rw [hp_o' _ _ (by omega), g6]
theorem go_m' {Bd : Nat} {h : Hp} (G : GR Bd h) (hB : Bd + 1000 ≤ 5000000) : Met2 (Bd + 1000) h (fun h => p_X9_go h 0) (fun h => p_X10_go h 110) := by
  obtain ⟨r, h1, h2, a, b, c⟩ := go_m G
  exact ⟨r, h1, h2, a, b, c.bd (by omega) hB⟩
theorem no_m {Bd : Nat} {h : Hp} (G : GR Bd h) (hB : Bd + 1000 ≤ 5000000) {c m : Hp → Option (Int32 × Hp)} {r : Int32} (h1 : c h = some (r, h)) (h2 : m h = some (r, hp h 110 0 0)) : Met2 (Bd + 1000) h c m := ⟨r, h, _, h1, h2, (G.th0 0).bd (by omega) hB⟩
theorem come_m {Bd : Nat} {h : Hp} (G : GR Bd h) (hB : Bd + 1000 ≤ 5000000) (x1 x2 x3 : Int32) : Met2 (Bd + 1000) h (fun h => p_X9_come h 0 x1 x2 x3) (fun h => p_X10_come h 110 x1 x2 x3) := by
  rcases rng3 x1 (lo := 0) (hi := 9999) (by omega) (by omega) with a | a | ⟨key, _, hk, rfl⟩
  · refine no_m G hB (r := -1) ?_ ?_
    · show p_X9_come h 0 x1 x2 x3 = _
      unfold p_X9_come
      rw [show (13 : Int32) = nI 13 from rfl, fits_n h (r := 13) (by omega) (Or.inl a), Option.bind_some]
      dsimp only
      rw [if_pos rfl]
    · show p_X10_come h 110 x1 x2 x3 = _
      unfold p_X10_come
      rw [nv_eq, if_pos (show x1 < 0 from a)]
  · have a0 : ¬ x1 < 0 := fun u => by
      have := fa_trans a (fa_of_lt u).1
      exact absurd this (by decide)
    refine no_m G hB (r := -1) ?_ ?_
    · show p_X9_come h 0 x1 x2 x3 = _
      unfold p_X9_come
      rw [show (13 : Int32) = nI 13 from rfl, fits_n h (r := 13) (by omega) (Or.inr a), Option.bind_some]
      dsimp only
      rw [if_pos rfl]
    · show p_X10_come h 110 x1 x2 x3 = _
      unfold p_X10_come
      rw [nv_eq, if_neg a0, if_pos (show (9999 : Int32) < x1 from a)]
  · have k0 : ¬ nI key < 0 := nI_pos (by omega)
    have k1 : ¬ (9999 : Int32) < nI key := nI_nlt (a := 9999) hk (by omega)
    have f1 : p_X9_fits h 13 (nI key) = some (1, h) := fits_y h (r := 13) (lo := 0) (hi := 9999) (by omega) rfl rfl (by omega) (by omega) hk (by omega)
    have pC : p_X9_come h 0 (nI key) x2 x3 = Option.bind (p_X9_fits h 14 x2) fun r2 => if r2.1 = 0 then (some ((-1), r2.2)) else (Option.bind (p_X9_fits r2.2 15 x3) fun r3 => if r3.1 = 0 then (some ((-1), r3.2)) else (Option.bind (p_X8_arrive r3.2 (0 + 10) (nI key) x2 x3 (-2)) fun r4 => some (r4.1, r4.2))) := by
      unfold p_X9_come
      rw [f1, Option.bind_some]
      dsimp only
      rw [if_neg one_nz]
    rcases rng3 x2 (lo := 1) (hi := 1500) (by omega) (by omega) with a | a | ⟨x, hx1, hx2, rfl⟩
    · refine no_m G hB (r := -1) ?_ ?_
      · show p_X9_come h 0 (nI key) x2 x3 = _
        rw [pC, show (14 : Int32) = nI 14 from rfl, fits_n h (r := 14) (by omega) (Or.inl a), Option.bind_some]
        dsimp only
        rw [if_pos rfl]
      · show p_X10_come h 110 (nI key) x2 x3 = _
        unfold p_X10_come
        rw [nv_eq, if_neg k0, if_neg k1, if_pos (show x2 < 1 from a)]
    · have a0 : ¬ x2 < 1 := fun u => by
        have := fa_trans a (fa_of_lt u).1
        exact absurd this (by decide)
      refine no_m G hB (r := -1) ?_ ?_
      · show p_X9_come h 0 (nI key) x2 x3 = _
        rw [pC, show (14 : Int32) = nI 14 from rfl, fits_n h (r := 14) (by omega) (Or.inr a), Option.bind_some]
        dsimp only
        rw [if_pos rfl]
      · show p_X10_come h 110 (nI key) x2 x3 = _
        unfold p_X10_come
        rw [nv_eq, if_neg k0, if_neg k1, if_neg a0, if_pos (show (1500 : Int32) < x2 from a)]
    · have l0 : ¬ nI x < (1 : Int32) := nI_nlt (b := 1) hx1 (by omega)
      have l1 : ¬ (1500 : Int32) < nI x := nI_nlt (a := 1500) hx2 (by omega)
      have f2 : p_X9_fits h 14 (nI x) = some (1, h) := fits_y h (r := 14) (lo := 1) (hi := 1500) (by omega) rfl rfl (by omega) hx1 hx2 (by omega)
      rcases rng3 x3 (lo := 0) (hi := 1) (by omega) (by omega) with a | a | ⟨may, _, hmay, rfl⟩
      · refine no_m G hB (r := -1) ?_ ?_
        · show p_X9_come h 0 (nI key) (nI x) x3 = _
          rw [pC, f2, Option.bind_some]
          dsimp only
          rw [if_neg one_nz, show (15 : Int32) = nI 15 from rfl, fits_n h (r := 15) (by omega) (Or.inl a), Option.bind_some]
          dsimp only
          rw [if_pos rfl]
        · show p_X10_come h 110 (nI key) (nI x) x3 = _
          unfold p_X10_come
          rw [nv_eq, if_neg k0, if_neg k1, if_neg l0, if_neg l1, if_pos (show x3 < 0 from a)]
      · have a0 : ¬ x3 < 0 := fun u => by
          have := fa_trans a (fa_of_lt u).1
          exact absurd this (by decide)
        refine no_m G hB (r := -1) ?_ ?_
        · show p_X9_come h 0 (nI key) (nI x) x3 = _
          rw [pC, f2, Option.bind_some]
          dsimp only
          rw [if_neg one_nz, show (15 : Int32) = nI 15 from rfl, fits_n h (r := 15) (by omega) (Or.inr a), Option.bind_some]
          dsimp only
          rw [if_pos rfl]
        · show p_X10_come h 110 (nI key) (nI x) x3 = _
          unfold p_X10_come
          rw [nv_eq, if_neg k0, if_neg k1, if_neg l0, if_neg l1, if_neg a0, if_neg (show ¬ x3 ≤ 1 from fun u => (fa_of_lt (show (1 : Int32) < x3 from a)).2.1 u)]
      · have m0 : ¬ nI may < 0 := nI_pos (by omega)
        have m1 : nI may ≤ (1 : Int32) := nI_le (b := 1) hmay (by omega)
        have f3 : p_X9_fits h 15 (nI may) = some (1, h) := fits_y h (r := 15) (lo := 0) (hi := 1) (by omega) rfl rfl (by omega) (by omega) hmay (by omega)
        have G0 := G
        obtain ⟨m, y, sn, n, N, nw, ol, L, R, hLS, g1, g2, g3, g4, g5, g6, g7⟩ := G
        have pC2 : p_X9_come h 0 (nI key) (nI x) (nI may) = Option.bind (p_X8_arrive h (0 + 10) (nI key) (nI x) (nI may) (-2)) fun r4 => some (r4.1, r4.2) := by
          rw [pC, f2, Option.bind_some]
          dsimp only
          rw [if_neg one_nz, f3, Option.bind_some]
          dsimp only
          rw [if_neg one_nz]
        have hm1 : hp h 110 0 0 (110 + 6) 1 = nI n := by
          rw [hp_o' _ _ (by omega)]
          exact R.i1
        by_cases hn : n = 200
        · refine no_m G0 hB (r := -2) ?_ ?_
          · show p_X9_come h 0 (nI key) (nI x) (nI may) = _
            rw [pC2, arrive_full R hn hk, Option.bind_some]
          · show p_X10_come h 110 (nI key) (nI x) (nI may) = _
            unfold p_X10_come
            rw [nv_eq, if_neg k0, if_neg k1, if_neg l0, if_neg l1, if_neg m0, if_pos m1, if_pos (by rw [hm1, hn]; rfl)]
        · have hnn := R.n200
          obtain ⟨h1, S', L', nw', ol', aC, aM, R1, hLS1, aF, _⟩ := arrive_sim (ow := -2) R hLS (by omega) hk hx1 hx2 hmay (Or.inl rfl)
          refine ⟨nI n, h1, _, ?_, ?_, (op_close G0 aF R1 hLS1).bd (by omega) hB⟩
          · show p_X9_come h 0 (nI key) (nI x) (nI may) = _
            rw [pC2, aC, Option.bind_some]
          · have e := aM (hp h1 110 0 0) (h 116 4) (h 116 7) (by rw [hp_k _ _ (by omega), aF.1 110 (by omega), g5]) (Or.inl g2.symm)
            rw [← GR.S1 aF] at e
            have hm2 : hp h1 110 0 0 (110 + 6) 1 = nI n := by
              rw [hp_o' _ _ (by omega), show h1 (110 + 6) = h (110 + 6) from aF.1 116 (by omega)]
              exact R.i1
            show p_X10_come h1 110 (nI key) (nI x) (nI may) = _
            unfold p_X10_come
            rw [nv_eq, if_neg k0, if_neg k1, if_neg l0, if_neg l1, if_neg m0, if_pos m1, if_neg (by rw [hm2]; exact fun u => hn (nI_inj (b := 200) (by omega) (by omega) u)), e, Option.bind_some]

