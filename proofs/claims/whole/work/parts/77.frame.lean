/-! frame -/
section Qf
variable {Bd : Nat} {h : Hp}
theorem frame_m (G : GR Bd h) (hB : Bd + 1000 ≤ 5000000) (x z : Int32) : Met2 (Bd + 1000) h (fun h => p_X9_frame h 0 x z) (fun h => p_X10_frame h 110 x z) := by
  have G0 := G
  obtain ⟨m, y, sn, n, N, nw, ol, L, R, hLS, g1, g2, g3, g4, g5, g6, g7⟩ := G
  have hnn := R.n200
  have e1 : hp h 110 0 0 (110 + 6) 1 = nI n := by
    rw [hp_o' _ _ (by omega)]
    exact R.i1
  have bad : x < 0 ∨ nI n ≤ x → Met2 (Bd + 1000) h (fun h => p_X9_frame h 0 x z) (fun h => p_X10_frame h 110 x z) := fun a => by
    refine no_m G0 hB (r := -1) ?_ ?_
    · show p_X9_frame h 0 x z = _
      unfold p_X9_frame p_X1_tell
      rw [has_out R a, Option.bind_some]
      dsimp only
      rw [if_pos rfl, Option.bind_some]
    · show p_X10_frame h 110 x z = _
      unfold p_X10_frame
      rw [nv_eq]
      by_cases c : x < 0
      · rw [if_pos c]
      · rw [if_neg c, if_pos (by rw [e1]; exact a.resolve_left c)]
  rcases pk_ix x (n := n) (by omega) with a | a | ⟨f, hf, rfl⟩
  · exact bad (Or.inl a)
  · exact bad (Or.inr a)
  · have cib : ib (nI f) 200 := ib_n (by omega) (by omega)
    have ecl : (nI f).toNatClampNeg = f := nI_clamp (by omega)
    have hz : z = 0 ∨ z = 1 ∨ z = 2 ∨ z = 3 ∨ z = 4 ∨ z = 5 ∨ z = 6 ∨ z = 7 ∨ (z < 0 ∨ ¬ z ≤ 7) := by
      rcases rng3 z (lo := 0) (hi := 7) (by omega) (by omega) with a | a | ⟨k, _, hk, rfl⟩
      · exact Or.inr (Or.inr (Or.inr (Or.inr (Or.inr (Or.inr (Or.inr (Or.inr (Or.inl a))))))))
      · exact Or.inr (Or.inr (Or.inr (Or.inr (Or.inr (Or.inr (Or.inr (Or.inr (Or.inr (fun u => (fa_of_lt (show (7 : Int32) < z from a)).2.1 u)))))))))
      · have h8 : k = 0 ∨ k = 1 ∨ k = 2 ∨ k = 3 ∨ k = 4 ∨ k = 5 ∨ k = 6 ∨ k = 7 := by omega
        rcases h8 with rfl | rfl | rfl | rfl | rfl | rfl | rfl | rfl
        · exact Or.inl rfl
        · exact Or.inr (Or.inl rfl)
        · exact Or.inr (Or.inr (Or.inl rfl))
        · exact Or.inr (Or.inr (Or.inr (Or.inl rfl)))
        · exact Or.inr (Or.inr (Or.inr (Or.inr (Or.inl rfl))))
        · exact Or.inr (Or.inr (Or.inr (Or.inr (Or.inr (Or.inl rfl)))))
        · exact Or.inr (Or.inr (Or.inr (Or.inr (Or.inr (Or.inr (Or.inl rfl))))))
        · exact Or.inr (Or.inr (Or.inr (Or.inr (Or.inr (Or.inr (Or.inr (Or.inl rfl)))))))
    rcases hz with rfl | rfl | rfl | rfl | rfl | rfl | rfl | rfl | hz
    · refine no_m G0 hB (r := h 116 (276 + 12 * f + 0)) ?_ ?_
      · show p_X9_frame h 0 (nI f) 0 = _
        unfold p_X9_frame p_X1_tell
        rw [has_y R hf, Option.bind_some]
        dsimp only
        rw [if_neg one_nz, if_pos rfl, if_pos cib, ecl, Option.bind_some]
        dsimp only
        rw [R.f1 hf]
      · have e := m_frameOf_0 (hp h 110 0 0) (h 116) (h 116 4) (h 116 7) (b := f) (by omega)
        rw [← GR.S0] at e
        show p_X10_frame h 110 (nI f) 0 = _
        unfold p_X10_frame
        rw [nv_eq, if_neg (nI_pos (by omega)), if_neg (by rw [e1]; exact nI_ge hf (by omega)), if_neg (show ¬ (0 : Int32) < 0 by decide), if_pos (show (0 : Int32) ≤ 7 by decide), e, Option.bind_some]
    · refine no_m G0 hB (r := h 116 (276 + 12 * f + 1)) ?_ ?_
      · show p_X9_frame h 0 (nI f) 1 = _
        unfold p_X9_frame p_X1_tell
        rw [has_y R hf, Option.bind_some]
        dsimp only
        rw [if_neg one_nz, if_neg (show ¬ (1 : Int32) = 0 by decide), if_pos rfl, if_pos cib, ecl, Option.bind_some]
        dsimp only
        rw [R.f2 hf]
      · have e := m_frameOf_1 (hp h 110 0 0) (h 116) (h 116 4) (h 116 7) (b := f) (by omega)
        rw [← GR.S0] at e
        show p_X10_frame h 110 (nI f) 1 = _
        unfold p_X10_frame
        rw [nv_eq, if_neg (nI_pos (by omega)), if_neg (by rw [e1]; exact nI_ge hf (by omega)), if_neg (show ¬ (1 : Int32) < 0 by decide), if_pos (show (1 : Int32) ≤ 7 by decide), e, Option.bind_some]
    · refine no_m G0 hB (r := h 116 (276 + 12 * f + 2)) ?_ ?_
      · show p_X9_frame h 0 (nI f) 2 = _
        unfold p_X9_frame p_X1_tell
        rw [has_y R hf, Option.bind_some]
        dsimp only
        rw [if_neg one_nz, if_neg (show ¬ (2 : Int32) = 0 by decide), if_neg (show ¬ (2 : Int32) = 1 by decide), if_pos rfl, if_pos cib, ecl, Option.bind_some]
        dsimp only
        rw [R.f3 hf]
      · have e := m_frameOf_2 (hp h 110 0 0) (h 116) (h 116 4) (h 116 7) (b := f) (by omega)
        rw [← GR.S0] at e
        show p_X10_frame h 110 (nI f) 2 = _
        unfold p_X10_frame
        rw [nv_eq, if_neg (nI_pos (by omega)), if_neg (by rw [e1]; exact nI_ge hf (by omega)), if_neg (show ¬ (2 : Int32) < 0 by decide), if_pos (show (2 : Int32) ≤ 7 by decide), e, Option.bind_some]
    · refine no_m G0 hB (r := h 116 (276 + 12 * f + 3)) ?_ ?_
      · show p_X9_frame h 0 (nI f) 3 = _
        unfold p_X9_frame p_X1_tell
        rw [has_y R hf, Option.bind_some]
        dsimp only
        rw [if_neg one_nz, if_neg (show ¬ (3 : Int32) = 0 by decide), if_neg (show ¬ (3 : Int32) = 1 by decide), if_neg (show ¬ (3 : Int32) = 2 by decide), if_pos rfl, if_pos cib, ecl, Option.bind_some]
        dsimp only
        rw [R.f4 hf]
      · have e := m_frameOf_3 (hp h 110 0 0) (h 116) (h 116 4) (h 116 7) (b := f) (by omega)
        rw [← GR.S0] at e
        show p_X10_frame h 110 (nI f) 3 = _
        unfold p_X10_frame
        rw [nv_eq, if_neg (nI_pos (by omega)), if_neg (by rw [e1]; exact nI_ge hf (by omega)), if_neg (show ¬ (3 : Int32) < 0 by decide), if_pos (show (3 : Int32) ≤ 7 by decide), e, Option.bind_some]
    · refine no_m G0 hB (r := h 116 (276 + 12 * f + 4)) ?_ ?_
      · show p_X9_frame h 0 (nI f) 4 = _
        unfold p_X9_frame p_X1_tell
        rw [has_y R hf, Option.bind_some]
        dsimp only
        rw [if_neg one_nz, if_neg (show ¬ (4 : Int32) = 0 by decide), if_neg (show ¬ (4 : Int32) = 1 by decide), if_neg (show ¬ (4 : Int32) = 2 by decide), if_neg (show ¬ (4 : Int32) = 3 by decide), if_pos rfl, if_pos cib, ecl, Option.bind_some]
        dsimp only
        rw [R.f5 hf]
      · have e := m_frameOf_4 (hp h 110 0 0) (h 116) (h 116 4) (h 116 7) (b := f) (by omega)
        rw [← GR.S0] at e
        show p_X10_frame h 110 (nI f) 4 = _
        unfold p_X10_frame
        rw [nv_eq, if_neg (nI_pos (by omega)), if_neg (by rw [e1]; exact nI_ge hf (by omega)), if_neg (show ¬ (4 : Int32) < 0 by decide), if_pos (show (4 : Int32) ≤ 7 by decide), e, Option.bind_some]
    · refine no_m G0 hB (r := h 116 (276 + 12 * f + 5)) ?_ ?_
      · show p_X9_frame h 0 (nI f) 5 = _
        unfold p_X9_frame p_X1_tell
        rw [has_y R hf, Option.bind_some]
        dsimp only
        rw [if_neg one_nz, if_neg (show ¬ (5 : Int32) = 0 by decide), if_neg (show ¬ (5 : Int32) = 1 by decide), if_neg (show ¬ (5 : Int32) = 2 by decide), if_neg (show ¬ (5 : Int32) = 3 by decide), if_neg (show ¬ (5 : Int32) = 4 by decide), if_pos rfl, if_pos cib, ecl, Option.bind_some]
        dsimp only
        rw [R.f8 hf]
      · have e := m_frameOf_5 (hp h 110 0 0) (h 116) (h 116 4) (h 116 7) (b := f) (by omega)
        rw [← GR.S0] at e
        show p_X10_frame h 110 (nI f) 5 = _
        unfold p_X10_frame
        rw [nv_eq, if_neg (nI_pos (by omega)), if_neg (by rw [e1]; exact nI_ge hf (by omega)), if_neg (show ¬ (5 : Int32) < 0 by decide), if_pos (show (5 : Int32) ≤ 7 by decide), e, Option.bind_some]
    · refine no_m G0 hB (r := h 116 (276 + 12 * f + 6)) ?_ ?_
      · show p_X9_frame h 0 (nI f) 6 = _
        unfold p_X9_frame p_X1_tell
        rw [has_y R hf, Option.bind_some]
        dsimp only
        rw [if_neg one_nz, if_neg (show ¬ (6 : Int32) = 0 by decide), if_neg (show ¬ (6 : Int32) = 1 by decide), if_neg (show ¬ (6 : Int32) = 2 by decide), if_neg (show ¬ (6 : Int32) = 3 by decide), if_neg (show ¬ (6 : Int32) = 4 by decide), if_neg (show ¬ (6 : Int32) = 5 by decide), if_pos rfl, if_pos cib, ecl, Option.bind_some]
        dsimp only
        rw [R.f9 hf (by omega)]
      · have e := m_frameOf_6 (hp h 110 0 0) (h 116) (h 116 4) (h 116 7) (b := f) (by omega)
        rw [← GR.S0] at e
        show p_X10_frame h 110 (nI f) 6 = _
        unfold p_X10_frame
        rw [nv_eq, if_neg (nI_pos (by omega)), if_neg (by rw [e1]; exact nI_ge hf (by omega)), if_neg (show ¬ (6 : Int32) < 0 by decide), if_pos (show (6 : Int32) ≤ 7 by decide), e, Option.bind_some]
    · refine no_m G0 hB (r := h 116 (276 + 12 * f + 7)) ?_ ?_
      · show p_X9_frame h 0 (nI f) 7 = _
        unfold p_X9_frame p_X1_tell
        rw [has_y R hf, Option.bind_some]
        dsimp only
        rw [if_neg one_nz, if_neg (show ¬ (7 : Int32) = 0 by decide), if_neg (show ¬ (7 : Int32) = 1 by decide), if_neg (show ¬ (7 : Int32) = 2 by decide), if_neg (show ¬ (7 : Int32) = 3 by decide), if_neg (show ¬ (7 : Int32) = 4 by decide), if_neg (show ¬ (7 : Int32) = 5 by decide), if_neg (show ¬ (7 : Int32) = 6 by decide), if_pos rfl, if_pos cib, ecl, Option.bind_some]
        dsimp only
        rw [R.f10 hf (by omega)]
      · have e := m_frameOf_7 (hp h 110 0 0) (h 116) (h 116 4) (h 116 7) (b := f) (by omega)
        rw [← GR.S0] at e
        show p_X10_frame h 110 (nI f) 7 = _
        unfold p_X10_frame
        rw [nv_eq, if_neg (nI_pos (by omega)), if_neg (by rw [e1]; exact nI_ge hf (by omega)), if_neg (show ¬ (7 : Int32) < 0 by decide), if_pos (show (7 : Int32) ≤ 7 by decide), e, Option.bind_some]
    · have hzn : ∀ v : Int32, 0 ≤ v → v ≤ 7 → ¬ z = v := fun v a b u => by
        rw [u] at hz
        rcases hz with hz | hz
        · exact (fa_of_lt hz).2.1 a
        · exact hz b
      refine no_m G0 hB (r := -1) ?_ ?_
      · show p_X9_frame h 0 (nI f) z = _
        unfold p_X9_frame p_X1_tell
        rw [has_y R hf, Option.bind_some]
        dsimp only
        rw [if_neg one_nz, if_neg (hzn 0 (by decide) (by decide)), if_neg (hzn 1 (by decide) (by decide)), if_neg (hzn 2 (by decide) (by decide)), if_neg (hzn 3 (by decide) (by decide)), if_neg (hzn 4 (by decide) (by decide)), if_neg (hzn 5 (by decide) (by decide)), if_neg (hzn 6 (by decide) (by decide)), if_neg (hzn 7 (by decide) (by decide)), Option.bind_some]
      · show p_X10_frame h 110 (nI f) z = _
        unfold p_X10_frame
        rw [nv_eq, if_neg (nI_pos (by omega)), if_neg (by rw [e1]; exact nI_ge hf (by omega))]
        by_cases c : z < 0
        · rw [if_pos c]
        · rw [if_neg c, if_neg (hz.resolve_left c)]
end Qf

