/-! order, frame -/
section Qo
variable {Bd : Nat} {h : Hp}
theorem order_m (G : GR Bd h) (hB : Bd + 1000 ≤ 5000000) (x : Int32) : Met2 (Bd + 1000) h (fun h => p_X9_order h 0 x) (fun h => p_X10_order h 110 x) := by
  have G0 := G
  obtain ⟨m, y, sn, n, N, nw, ol, L, R, hLS, g1, g2, g3, g4, g5, g6, g7⟩ := G
  have hlen := R.li.len R.my
  obtain ⟨c1, c2, c3⟩ := R.lc
  obtain ⟨l1, l2, l3, l4, l5, l6, l7⟩ := R.li
  have e12 : hp h 110 0 0 (110 + 6) 12 = nI nw.length := by
    rw [hp_o' _ _ (by omega)]
    exact l1
  have e13 : hp h 110 0 0 (110 + 6) 13 = nI ol.length := by
    rw [hp_o' _ _ (by omega)]
    exact l2
  have hl16 : (nw ++ ol).length ≤ 16 := by rw [List.length_append]; omega
  by_cases hx : x < 0
  · have a0 : ¬ (0 : Int32) ≤ x := (fa_of_lt hx).2.1
    refine no_m G0 hB (r := -1) ?_ ?_
    · show p_X9_order h 0 x = _
      unfold p_X9_order
      rw [if_neg a0]
    · show p_X10_order h 110 x = _
      unfold p_X10_order
      rw [nv_eq, if_neg a0]
  · obtain ⟨i, hi, rfl⟩ := nI_of hx
    have a0 : (0 : Int32) ≤ nI i := nI_pos' hi
    by_cases h1 : i < nw.length
    · obtain ⟨b, hb⟩ : ∃ b, nw[i]? = some b := ⟨_, List.getElem?_eq_getElem h1⟩
      have e := m_inList (hp h 110 0 0) (h 116) (h 116 4) (h 116 7) (l := 0) (i := i) (by omega) (by omega)
      rw [← GR.S0] at e
      have e2 : p_X10_inList (hp h 110 0 0) 110 1 (nI i) = some (nI b, hp h 110 0 0) := by
        rw [show h 116 (18 + 16 * 0 + i) = nI b from l3 i b hb] at e
        exact e
      refine no_m G0 hB (r := nI b) ?_ ?_
      · show p_X9_order h 0 (nI i) = _
        unfold p_X9_order
        rw [if_pos a0, at_in h (i := i) (x := b) hl16 c2 c3 (by rw [List.getElem?_append_left h1]; exact hb), Option.bind_some]
      · show p_X10_order h 110 (nI i) = _
        unfold p_X10_order
        rw [nv_eq, if_pos a0, if_neg (by rw [e12]; exact nI_ge h1 (by omega)), e2, Option.bind_some]
    · have e0 : nI i - nI nw.length = nI (i - nw.length) := pk_sub (by omega)
      by_cases h2 : i - nw.length < ol.length
      · obtain ⟨b, hb⟩ : ∃ b, ol[i - nw.length]? = some b := ⟨_, List.getElem?_eq_getElem h2⟩
        have e := m_inList (hp h 110 0 0) (h 116) (h 116 4) (h 116 7) (l := 1) (i := i - nw.length) (by omega) (by omega)
        rw [← GR.S0] at e
        have e2 : p_X10_inList (hp h 110 0 0) 110 2 (nI (i - nw.length)) = some (nI b, hp h 110 0 0) := by
          rw [show h 116 (18 + 16 * 1 + (i - nw.length)) = nI b from l4 (i - nw.length) b hb] at e
          exact e
        refine no_m G0 hB (r := nI b) ?_ ?_
        · show p_X9_order h 0 (nI i) = _
          unfold p_X9_order
          rw [if_pos a0, at_in h (i := i) (x := b) hl16 c2 c3 (by rw [List.getElem?_append_right (by omega)]; exact hb), Option.bind_some]
        · show p_X10_order h 110 (nI i) = _
          unfold p_X10_order
          rw [nv_eq, if_pos a0, if_pos (by rw [e12]; exact nI_le (by omega) hi), if_neg (by rw [e12, e13, e0]; exact nI_ge h2 (by omega)), e12, e0, e2, Option.bind_some]
      · refine no_m G0 hB (r := -2) ?_ ?_
        · show p_X9_order h 0 (nI i) = _
          unfold p_X9_order
          rw [if_pos a0, at_out h (i := i) (l := nw ++ ol) hl16 c2 (by rw [List.length_append]; omega) hi, Option.bind_some]
        · show p_X10_order h 110 (nI i) = _
          unfold p_X10_order
          rw [nv_eq, if_pos a0, if_pos (by rw [e12]; exact nI_le (by omega) hi), if_pos (by rw [e12, e13, e0]; exact nI_le (by omega) (by omega))]
end Qo

