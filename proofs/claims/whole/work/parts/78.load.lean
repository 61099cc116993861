/-! load -/
section Ql
variable {Bd : Nat} {h : Hp}
theorem load_m (G : GR Bd h) (hB : Bd + 1000 ≤ 5000000) (x : Int32) : Met2 (Bd + 1000) h (fun h => p_X9_load h 0 x) (fun h => p_X10_load h 110 x) := by
  have G0 := G
  obtain ⟨m, y, sn, n, N, nw, ol, L, R, hLS, g1, g2, g3, g4, g5, g6, g7⟩ := G
  have e10 : hp h 110 0 0 (110 + 6) 10 = nI m := by
    rw [hp_o' _ _ (by omega)]
    exact R.i10
  have e3 : h (0 + 10 + 1) 3 = nI m := by rw [R.sets, R.i10]
  by_cases a : x < 0
  · refine no_m G0 hB (r := -1) ?_ ?_
    · show p_X9_load h 0 x = _
      unfold p_X9_load
      rw [if_pos a]
    · show p_X10_load h 110 x = _
      unfold p_X10_load
      rw [nv_eq, if_pos a]
  · by_cases b : x < nI m
    · let p : Nat → Bool := fun i => decide (nI (stN i m) = x)
      have hz0 : ∀ v : Int32, v + 0 = v := Int32.add_zero
      have kC := lp_for (b := b_X9_load_23 0 x) (fun i => (h, nI (fa_cnt p i), nI i)) 10000 (nI (fa_cnt p 10000), h) (fun K i hi => by
          unfold b_X9_load_23
          dsimp only
          rw [if_neg (show ¬ (10000 : Int32) ≤ nI i from nI_ge (b := 10000) hi (by omega)), setOf_c h (k := i) (by omega) R.m1 R.m4 e3, Option.bind_some]
          dsimp only
          by_cases c : nI (stN i m) = x
          · rw [if_pos c, fa_cnt_yes (p := p) (decide_eq_true c), nI_1, nI_1]
          · rw [if_neg c, fa_cnt_no (p := p) (decide_eq_false c), nI_1]) (fun K => by
          unfold b_X9_load_23
          dsimp only
          rw [if_pos (show (10000 : Int32) ≤ nI 10000 from nI_le (a := 10000) (Nat.le_refl _) (by omega))]) 10000 0 FU (by omega) (FU_gt (by omega))
      have kM := lp_for (b := b_X10_load_26 110 x) (fun i => (hp h 110 0 0, nI (fa_cnt p i), nI i)) 10000 (nI (fa_cnt p 10000), hp h 110 0 0) (fun K i hi => by
          unfold b_X10_load_26
          dsimp only
          rw [if_neg (show ¬ (9999 : Int32) < nI i from nI_nlt (a := 9999) (by omega) (by omega)), e10, setOf_m _ (k := i) (by omega) R.m1 R.m4, Option.bind_some]
          dsimp only
          by_cases c : nI (stN i m) = x
          · rw [if_pos c, nv_eq, fa_cnt_yes (p := p) (decide_eq_true c), nI_1, nI_1]
          · rw [if_neg c, nv_eq, hz0, fa_cnt_no (p := p) (decide_eq_false c), nI_1]) (fun K => by
          unfold b_X10_load_26
          dsimp only
          rw [if_pos (show (9999 : Int32) < nI 10000 from nI_lt (a := 9999) (by omega) (by omega))]) 10000 0 FU (by omega) (FU_gt (by omega))
      generalize nI (fa_cnt p 10000) = v at kC kM
      have f0 : fa_cnt p 0 = 0 := rfl
      rw [f0, nI_0] at kC kM
      refine no_m G0 hB (r := v) ?_ ?_
      · show p_X9_load h 0 x = _
        unfold p_X9_load
        rw [if_neg a, if_pos (by rw [e3]; exact b)]
        exact kC
      · show p_X10_load h 110 x = _
        unfold p_X10_load
        rw [nv_eq, if_neg a, if_pos (by rw [e10]; exact b)]
        exact kM
    · refine no_m G0 hB (r := -1) ?_ ?_
      · show p_X9_load h 0 x = _
        unfold p_X9_load
        rw [if_neg a, if_neg (by rw [e3]; exact b)]
      · show p_X10_load h 110 x = _
        unfold p_X10_load
        rw [nv_eq, if_neg a, if_neg (by rw [e10]; exact b)]
end Ql

