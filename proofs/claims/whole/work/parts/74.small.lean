/-! small questions -/
section Qs
variable {Bd : Nat} {h : Hp}
theorem watched_m (G : GR Bd h) (hB : Bd + 1000 ≤ 5000000) (x : Int32) : Met2 (Bd + 1000) h (fun h => p_X9_watched h 0 x) (fun h => p_X10_watched h 110 x) := by
  have G0 := G
  obtain ⟨m, y, sn, n, N, nw, ol, L, R, hLS, g1, g2, g3, g4, g5, g6, g7⟩ := G
  obtain ⟨k, hk6, hk3, hr, _⟩ := R.wi
  obtain ⟨q1, q2⟩ := hr rfl
  have e3 : hp h 110 0 0 (110 + 6) 3 = nI k := by
    rw [hp_o' _ _ (by omega)]
    exact hk3
  rcases pk_ix x (n := k) (by omega) with a | a | ⟨j, hj, rfl⟩
  · have a0 : ¬ (0 : Int32) ≤ x := (fa_of_lt a).2.1
    refine no_m G0 hB (r := -1) ?_ ?_
    · show p_X9_watched h 0 x = _
      unfold p_X9_watched
      rw [if_neg a0]
    · show p_X10_watched h 110 x = _
      unfold p_X10_watched
      rw [nv_eq, if_neg a0]
  · have a0 : (0 : Int32) ≤ x := Int32.le_trans (nI_pos' (n := k) (by omega)) a
    have a1 : ¬ x < 0 := fun u => (fa_of_lt u).2.1 a0
    refine no_m G0 hB (r := -2) ?_ ?_
    · show p_X9_watched h 0 x = _
      unfold p_X9_watched p_X7_tell
      rw [if_pos a0, if_neg a1, if_pos (by rw [q1]; exact a), Option.bind_some]
    · show p_X10_watched h 110 x = _
      unfold p_X10_watched
      rw [nv_eq, if_pos a0, if_pos (by rw [e3]; exact a)]
  · have a0 : (0 : Int32) ≤ nI j := nI_pos' (by omega)
    have a1 : ¬ nI j < 0 := nI_pos (by omega)
    have a2 : ¬ nI k ≤ nI j := nI_ge (by omega) (by omega)
    have a3 : ¬ (6 : Int32) ≤ nI j := nI_ge (b := 6) (by omega) (by omega)
    have cib : ib (nI j) 6 := ib_n (by omega) (by omega)
    obtain ⟨⟨z1, z2⟩, _⟩ := ix3 (i := j) (by omega)
    refine no_m G0 hB (r := h 116 (50 + 3 * j + 2)) ?_ ?_
    · show p_X9_watched h 0 (nI j) = _
      unfold p_X9_watched p_X7_tell
      rw [if_pos a0, if_neg a1, if_neg (by rw [q1]; exact a2), if_neg a3, if_pos cib, nI_clamp (by omega), Option.bind_some]
      dsimp only
      rw [(q2 j hj).2.2.2]
    · show p_X10_watched h 110 (nI j) = _
      unfold p_X10_watched
      rw [nv_eq, if_pos a0, if_neg (by rw [e3]; exact a2), if_pos z1, z2, hp_o' _ _ (by omega)]
theorem fault_m (G : GR Bd h) (hB : Bd + 1000 ≤ 5000000) (x : Int32) : Met2 (Bd + 1000) h (fun h => p_X9_fault h 0 x) (fun h => p_X10_fault h 110 x) := by
  have G0 := G
  obtain ⟨m, y, sn, n, N, nw, ol, L, R, hLS, g1, g2, g3, g4, g5, g6, ⟨kk, r1, r2, r3, r4, r5, r6⟩⟩ := G
  have e1 : hp h 110 0 0 110 18 = h (0 + 1) 10 := by rw [hp_k _ _ (by omega), r5]
  have e2 : hp h 110 0 0 110 19 = h (0 + 1) 11 := by rw [hp_k _ _ (by omega), r6]
  by_cases a : x = 0
  · refine no_m G0 hB (r := h (0 + 1) 10) ?_ ?_
    · show p_X9_fault h 0 x = _
      unfold p_X9_fault
      rw [if_pos a]
    · show p_X10_fault h 110 x = _
      unfold p_X10_fault
      rw [nv_eq, if_pos a, e1]
  · by_cases b : x = 1
    · refine no_m G0 hB (r := h (0 + 1) 11) ?_ ?_
      · show p_X9_fault h 0 x = _
        unfold p_X9_fault
        rw [if_neg a, if_pos b]
      · show p_X10_fault h 110 x = _
        unfold p_X10_fault
        rw [nv_eq, if_neg a, if_pos b, e2]
    · refine no_m G0 hB (r := -1) ?_ ?_
      · show p_X9_fault h 0 x = _
        unfold p_X9_fault
        rw [if_neg a, if_neg b]
      · show p_X10_fault h 110 x = _
        unfold p_X10_fault
        rw [nv_eq, if_neg a, if_neg b]
theorem q1_m (G : GR Bd h) (hB : Bd + 1000 ≤ 5000000) {c m : Hp → Option (Int32 × Hp)} (q : q1 c m) : Met2 (Bd + 1000) h c m := by
  obtain ⟨r, a, b⟩ := q
  exact no_m G hB (a h) (b h)
theorem rootBy_m' (G : GR Bd h) (hB : Bd + 1000 ≤ 5000000) (x : Int32) : Met2 (Bd + 1000) h (fun h => p_X9_rootBy h 0 x) (fun h => p_X10_rootBy h 110 x) := q1_m G hB (rootBy_q x)
theorem exact_m' (G : GR Bd h) (hB : Bd + 1000 ≤ 5000000) (x : Int32) : Met2 (Bd + 1000) h (fun h => p_X9_exact h 0 x) (fun h => p_X10_exact h 110 x) := q1_m G hB (exact_q x)
theorem farthest_m' (G : GR Bd h) (hB : Bd + 1000 ≤ 5000000) (x y : Int32) : Met2 (Bd + 1000) h (fun h => p_X9_farthest h 0 x y) (fun h => p_X10_farthest h 110 x y) := q1_m G hB (farthest_q x y)
end Qs

