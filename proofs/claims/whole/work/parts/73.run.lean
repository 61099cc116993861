/-! pass, run -/
theorem pass_m {Bd : Nat} {h : Hp} (G : GR Bd h) (hB : Bd + 1000 ≤ 5000000) (x : Int32) : Met2 (Bd + 1000) h (fun h => p_X9_pass h 0 x) (fun h => p_X10_pass h 110 x) := by
  rcases rng3 x (lo := 1) (hi := 999) (by omega) (by omega) with a | a | ⟨k, hk1, hk2, rfl⟩
  · refine no_m G hB (r := -1) ?_ ?_
    · show p_X9_pass h 0 x = _
      unfold p_X9_pass
      rw [show (16 : Int32) = nI 16 from rfl, fits_n h (r := 16) (by omega) (Or.inl a), Option.bind_some]
      dsimp only
      rw [if_pos rfl]
    · show p_X10_pass h 110 x = _
      unfold p_X10_pass
      rw [nv_eq, if_pos (show x < 1 from a)]
  · have a0 : ¬ x < 1 := fun u => by
      have := fa_trans a (fa_of_lt u).1
      exact absurd this (by decide)
    refine no_m G hB (r := -1) ?_ ?_
    · show p_X9_pass h 0 x = _
      unfold p_X9_pass
      rw [show (16 : Int32) = nI 16 from rfl, fits_n h (r := 16) (by omega) (Or.inr a), Option.bind_some]
      dsimp only
      rw [if_pos rfl]
    · show p_X10_pass h 110 x = _
      unfold p_X10_pass
      rw [nv_eq, if_neg a0, if_pos (show (999 : Int32) < x from a)]
  · have k0 : ¬ nI k < (1 : Int32) := nI_nlt (b := 1) hk1 (by omega)
    have k1 : ¬ (999 : Int32) < nI k := nI_nlt (a := 999) hk2 (by omega)
    have f1 : p_X9_fits h 16 (nI k) = some (1, h) := fits_y h (r := 16) (lo := 1) (hi := 999) (by omega) rfl rfl (by omega) hk1 hk2 (by omega)
    have G0 := G
    obtain ⟨m, y, sn, n, N, nw, ol, L, R, hLS, g1, g2, g3, g4, g5, g6, g7⟩ := G
    have hN := R.N5
    have e7 : h (0 + 10) 7 = nI N := by rw [R.now, R.i0]
    have pC : p_X9_pass h 0 (nI k) = if (h (0 + 10) 7 + nI k) ≤ 999999 then (nv (hp h (0 + 10) 7 (h (0 + 10) 7 + nI k)) fun h2 => some (h2 (0 + 10) 7, h2)) else (some ((-1), h)) := by
      unfold p_X9_pass
      rw [f1, Option.bind_some]
      dsimp only
      rw [if_neg one_nz]
    by_cases hc : N + k ≤ 999999
    · have hNb := R.ep.2.2.2.2.2.2.2.2.1
      have R1 := R.time (N' := N + k) (Bd' := Bd + 1000) (Nat.le_refl _) (by omega) (by omega) hB
      have F1 : Fr (0 + 10) h (hp h (0 + 10) 7 (nI (N + k))) := Fr.hp _ _ _ (Nat.le_refl _) (by omega) (by omega)
      refine ⟨nI (N + k), hp h (0 + 10) 7 (nI (N + k)), _, ?_, ?_, op_close G0 F1 R1 (fun b f hb hf u => hLS b f hb hf (by rw [sb_cong (S := h 116) (upd_n _ _ (by omega)) (upd_n _ _ (by omega))] at u; exact u))⟩
      · show p_X9_pass h 0 (nI k) = _
        rw [pC, if_pos (by rw [e7, nI_add]; exact nI_le (b := 999999) hc (by omega)), e7, nI_add, nv_eq, hp_s]
      · show p_X10_pass (hp h (0 + 10) 7 (nI (N + k))) 110 (nI k) = _
        have e1 : hp (hp h (0 + 10) 7 (nI (N + k))) 110 0 0 (110 + 6) 0 = nI N := by
          rw [hp_o' _ _ (by omega), hp_o' _ _ (by omega)]
          exact R.i0
        unfold p_X10_pass
        rw [nv_eq, if_neg k0, if_neg k1, if_pos (by rw [e1, nI_add]; exact nI_le (b := 999999) hc (by omega)), e1, nI_add, nv_eq, hp_s]
        rw [GR.S1 F1, mt_hp _ _ _ _ _ (by omega) (by omega), ← GR.S1 F1]
    · refine no_m G0 hB (r := -1) ?_ ?_
      · show p_X9_pass h 0 (nI k) = _
        rw [pC, if_neg (by rw [e7, nI_add]; exact nI_ge (a := 999999) (by omega) (by omega))]
      · show p_X10_pass h 110 (nI k) = _
        have e1 : hp h 110 0 0 (110 + 6) 0 = nI N := by
          rw [hp_o' _ _ (by omega)]
          exact R.i0
        unfold p_X10_pass
        rw [nv_eq, if_neg k0, if_neg k1, if_neg (by rw [e1, nI_add]; exact nI_ge (a := 999999) (by omega) (by omega))]
theorem isT_n (h : Hp) {x : Int32} (a : x < 1 ∨ (200 : Int32) < x) : p_X10_isTicks h x = some (0, h) := by
  unfold p_X10_isTicks
  by_cases c : x < 1
  · rw [if_pos c]
  · rw [if_neg c, if_pos (a.resolve_left c)]
theorem isT_y (h : Hp) {k : Nat} (h1 : 1 ≤ k) (h2 : k ≤ 200) : p_X10_isTicks h (nI k) = some (1, h) := by
  unfold p_X10_isTicks
  rw [if_neg (show ¬ nI k < (1 : Int32) from nI_nlt (b := 1) h1 (by omega)), if_neg (show ¬ (200 : Int32) < nI k from nI_nlt (a := 200) h2 (by omega))]
theorem fit18_n (h : Hp) {x : Int32} (a : x < 1 ∨ (200 : Int32) < x) : p_X9_fits h 18 x = some (0, h) := fits_n h (r := 18) (by omega) a
theorem fit18_y (h : Hp) {k : Nat} (h1 : 1 ≤ k) (h2 : k ≤ 200) : p_X9_fits h 18 (nI k) = some (1, h) := fits_y h (r := 18) (lo := 1) (hi := 200) (by omega) rfl rfl (by omega) h1 h2 (by omega)
theorem tb0' : ∀ k, k < 4 → (fun _ : Nat => (0 : Int32)) (4 + k) = 0 := fun _ _ => rfl
theorem run_m {Bd : Nat} {h : Hp} (G : GR Bd h) (hB : Bd + 1000 ≤ 5000000) (x : Int32) : Met2 (Bd + 1000) h (fun h => p_X9_run h 0 x) (fun h => p_X10_run h 110 x) := by
  have bad : x < 1 ∨ (200 : Int32) < x → Met2 (Bd + 1000) h (fun h => p_X9_run h 0 x) (fun h => p_X10_run h 110 x) := fun a => by
    refine no_m G hB (r := -1) ?_ ?_
    · show p_X9_run h 0 x = _
      unfold p_X9_run
      rw [fit18_n h a, Option.bind_some]
      dsimp only
      rw [if_pos rfl]
    · show p_X10_run h 110 x = _
      unfold p_X10_run
      rw [nv_eq, isT_n _ a, Option.bind_some]
      dsimp only
      rw [if_pos rfl]
  rcases rng3 x (lo := 1) (hi := 200) (by omega) (by omega) with a | a | ⟨k, hk1, hk2, rfl⟩
  · exact bad (Or.inl a)
  · exact bad (Or.inr a)
  · have G0 := G
    obtain ⟨m, y, sn, n, N, nw, ol, L, R, hLS, g1, g2, g3, g4, g5, g6, g7⟩ := G
    obtain ⟨h1, S', n', L', nw', ol', N', aC, aM, R1, hLS1, aF, a12, aP⟩ := ticks_sim k R hLS tb0' (by omega)
    have t0 : h (0 + 10 + 2 + 13) 1 = h 116 14 := by
      have := R.ta.1
      rw [Int32.add_zero] at this
      exact this.symm
    have t1 : h1 (0 + 10 + 2 + 13) 1 = S' 14 := by
      have := R1.ta.1
      rw [Int32.add_zero] at this
      exact this.symm
    refine ⟨S' 14 - h 116 14, h1, _, ?_, ?_, (op_close G0 aF R1 hLS1).bd (by omega) hB⟩
    · have key := lp_it (b := b_X9_run_26 0 (nI k) (h 116 14)) (f := fun h => p_X8_tick h (0 + 10)) (N := k) (fin := fun g => some (g (0 + 10 + 2 + 13) 1 - h 116 14, g)) (fun K g i hi => by
          unfold b_X9_run_26
          dsimp only
          rw [if_neg (nI_ge (by omega) (by omega)), nI_1]) (fun K g => by
          unfold b_X9_run_26
          dsimp only
          rw [if_pos (nI_le (Nat.le_refl _) (by omega))]) k 0 FU h h1 (by omega) (FU_gt (by omega)) aC
      rw [nI_0] at key
      show p_X9_run h 0 (nI k) = _
      unfold p_X9_run
      rw [fit18_y h hk1 hk2, Option.bind_some]
      dsimp only
      rw [if_neg one_nz, t0, nv_eq, key, t1]
    · have e := aM (hp h1 110 0 0) (h 116 4) (h 116 7) (by rw [hp_k _ _ (by omega), aF.1 110 (by omega), g5]) (Or.inl g1.symm) (Or.inl g2.symm)
      rw [← GR.S1 aF] at e
      have e2 := m_runs hk2 e
      have e14 : hp h1 110 0 0 (110 + 6) 14 = h 116 14 := by
        rw [hp_o' _ _ (by omega), show h1 (110 + 6) = h 116 from aF.1 116 (by omega)]
      show p_X10_run h1 110 (nI k) = _
      unfold p_X10_run
      rw [nv_eq, isT_y _ hk1 hk2, Option.bind_some]
      dsimp only
      rw [if_neg one_nz, e14, nv_eq, e2, Option.bind_some, mt_r _ _ _ _ (by omega) (by omega)]

