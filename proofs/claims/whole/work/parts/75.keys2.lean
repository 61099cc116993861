/-! set, bucketFor, whose, order -/
theorem isK_n (h : Hp) {x : Int32} (a : x < 0 ∨ (9999 : Int32) < x) : p_X10_isKey h x = some (0, h) := by
  unfold p_X10_isKey
  by_cases c : x < 0
  · rw [if_pos c]
  · rw [if_neg c, if_pos (a.resolve_left c)]
theorem isK_y (h : Hp) {k : Nat} (h2 : k ≤ 9999) : p_X10_isKey h (nI k) = some (1, h) := by
  unfold p_X10_isKey
  rw [if_neg (nI_pos (by omega)), if_neg (show ¬ (9999 : Int32) < nI k from nI_nlt (a := 9999) h2 (by omega))]
theorem fit13_n (h : Hp) {x : Int32} (a : x < 0 ∨ (9999 : Int32) < x) : p_X9_fits h 13 x = some (0, h) := fits_n h (r := 13) (by omega) a
theorem fit13_y (h : Hp) {k : Nat} (h2 : k ≤ 9999) : p_X9_fits h 13 (nI k) = some (1, h) := fits_y h (r := 13) (lo := 0) (hi := 9999) (by omega) rfl rfl (by omega) (by omega) h2 (by omega)
section Qk
variable {Bd : Nat} {h : Hp}
theorem set_m (G : GR Bd h) (hB : Bd + 1000 ≤ 5000000) (x : Int32) : Met2 (Bd + 1000) h (fun h => p_X9_set h 0 x) (fun h => p_X10_set h 110 x) := by
  have bad : x < 0 ∨ (9999 : Int32) < x → Met2 (Bd + 1000) h (fun h => p_X9_set h 0 x) (fun h => p_X10_set h 110 x) := fun a => by
    refine no_m G hB (r := -1) ?_ ?_
    · show p_X9_set h 0 x = _
      unfold p_X9_set
      rw [fit13_n h a, Option.bind_some]
      dsimp only
      rw [if_pos rfl]
    · show p_X10_set h 110 x = _
      unfold p_X10_set
      rw [nv_eq, isK_n _ a, Option.bind_some]
      dsimp only
      rw [if_pos rfl]
  rcases rng3 x (lo := 0) (hi := 9999) (by omega) (by omega) with a | a | ⟨k, _, hk, rfl⟩
  · exact bad (Or.inl a)
  · exact bad (Or.inr a)
  · have G0 := G
    obtain ⟨m, y, sn, n, N, nw, ol, L, R, hLS, g1, g2, g3, g4, g5, g6, g7⟩ := G
    have e10 : hp h 110 0 0 (110 + 6) 10 = nI m := by
      rw [hp_o' _ _ (by omega)]
      exact R.i10
    refine no_m G0 hB (r := nI (stN k m)) ?_ ?_
    · show p_X9_set h 0 (nI k) = _
      unfold p_X9_set
      rw [fit13_y h hk, Option.bind_some]
      dsimp only
      rw [if_neg one_nz, setOf_c h hk R.m1 R.m4 (by rw [R.sets, R.i10]), Option.bind_some]
    · show p_X10_set h 110 (nI k) = _
      unfold p_X10_set
      rw [nv_eq, isK_y _ hk, Option.bind_some]
      dsimp only
      rw [if_neg one_nz, e10, setOf_m _ hk R.m1 R.m4, Option.bind_some]
theorem GR.S0 (h : Hp) : hp h 110 0 0 = mt (hp h 110 0 0) (h 116) (h 116 4) (h 116 7) := GR.S1 (Fr.refl (0 + 10) h)
theorem bucketFor_m (G : GR Bd h) (hB : Bd + 1000 ≤ 5000000) (x : Int32) : Met2 (Bd + 1000) h (fun h => p_X9_bucketFor h 0 x) (fun h => p_X10_bucketFor h 110 x) := by
  have bad : x < 0 ∨ (9999 : Int32) < x → Met2 (Bd + 1000) h (fun h => p_X9_bucketFor h 0 x) (fun h => p_X10_bucketFor h 110 x) := fun a => by
    refine no_m G hB (r := -1) ?_ ?_
    · show p_X9_bucketFor h 0 x = _
      unfold p_X9_bucketFor
      rw [fit13_n h a, Option.bind_some]
      dsimp only
      rw [if_pos rfl]
    · show p_X10_bucketFor h 110 x = _
      unfold p_X10_bucketFor
      rw [nv_eq, isK_n _ a, Option.bind_some]
      dsimp only
      rw [if_pos rfl]
  rcases rng3 x (lo := 0) (hi := 9999) (by omega) (by omega) with a | a | ⟨k, _, hk, rfl⟩
  · exact bad (Or.inl a)
  · exact bad (Or.inr a)
  · have G0 := G
    obtain ⟨m, y, sn, n, N, nw, ol, L, R, hLS, g1, g2, g3, g4, g5, g6, g7⟩ := G
    obtain ⟨b, hbm, plC, plM⟩ := place_sim R hk
    refine no_m G0 hB (r := nI b) ?_ ?_
    · show p_X9_bucketFor h 0 (nI k) = _
      unfold p_X9_bucketFor
      rw [fit13_y h hk, Option.bind_some]
      dsimp only
      rw [if_neg one_nz, plC, Option.bind_some]
    · have e := plM (hp h 110 0 0) (h 116 4) (h 116 7)
      rw [← GR.S0] at e
      show p_X10_bucketFor h 110 (nI k) = _
      unfold p_X10_bucketFor
      rw [nv_eq, isK_y _ hk, Option.bind_some]
      dsimp only
      rw [if_neg one_nz, e, Option.bind_some]
theorem has_out {m y sn n N : Nat} {nw ol L : List Nat} {S : Nat → Int32} (R : Rel true true (fun _ => 0) m y sn Bd n N 200 nw ol L h (0 + 10) S) {x : Int32} (a : x < 0 ∨ nI n ≤ x) : p_X1_has h (0 + 10 + 2) x = some (0, h) := by
  unfold p_X1_has
  by_cases c : x < 0
  · rw [if_pos c]
  · rw [if_neg c, if_pos (by rw [R.many, R.i1]; exact a.resolve_left c)]
theorem whose_m (G : GR Bd h) (hB : Bd + 1000 ≤ 5000000) (x : Int32) : Met2 (Bd + 1000) h (fun h => p_X9_whose h 0 x) (fun h => p_X10_whose h 110 x) := by
  have G0 := G
  obtain ⟨m, y, sn, n, N, nw, ol, L, R, hLS, g1, g2, g3, g4, g5, g6, g7⟩ := G
  have hnn := R.n200
  have e1 : hp h 110 0 0 (110 + 6) 1 = nI n := by
    rw [hp_o' _ _ (by omega)]
    exact R.i1
  rcases pk_ix x (n := n) (by omega) with a | a | ⟨f, hf, rfl⟩
  · refine no_m G0 hB (r := -1) ?_ ?_
    · show p_X9_whose h 0 x = _
      unfold p_X9_whose
      rw [has_out R (Or.inl a), Option.bind_some]
      dsimp only
      rw [if_pos rfl]
    · show p_X10_whose h 110 x = _
      unfold p_X10_whose
      rw [nv_eq, if_pos a]
  · refine no_m G0 hB (r := -1) ?_ ?_
    · show p_X9_whose h 0 x = _
      unfold p_X9_whose
      rw [has_out R (Or.inr a), Option.bind_some]
      dsimp only
      rw [if_pos rfl]
    · show p_X10_whose h 110 x = _
      unfold p_X10_whose
      rw [nv_eq]
      by_cases c : x < 0
      · rw [if_pos c]
      · rw [if_neg c, if_pos (by rw [e1]; exact a)]
  · have e := m_frameOf_10 (hp h 110 0 0) (h 116) (h 116 4) (h 116 7) (b := f) (by omega)
    rw [← GR.S0] at e
    refine no_m G0 hB (r := h 116 (276 + 12 * f + 10)) ?_ ?_
    · show p_X9_whose h 0 (nI f) = _
      unfold p_X9_whose
      rw [has_y R hf, Option.bind_some]
      dsimp only
      rw [if_neg one_nz, if_pos (ib_n (by omega) (by omega)), nI_clamp (by omega), R.f6 hf]
    · show p_X10_whose h 110 (nI f) = _
      unfold p_X10_whose
      rw [nv_eq, if_neg (nI_pos (by omega)), if_neg (by rw [e1]; exact nI_ge hf (by omega)), e, Option.bind_some]
end Qk

