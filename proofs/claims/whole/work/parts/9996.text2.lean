/-! text -/
section Tm
variable {Bd : Nat} {h : Hp}
theorem text_m (G : GR Bd h) (hB : Bd + 1000 ≤ 5000000) (h9 : 900000 ≤ Bd + 1000) (x : Int32) : Met2 (Bd + 1000) h (fun h => p_X9_text h 0 x) (fun h => p_X10_text h 110 x) := by
  have G0 := G
  obtain ⟨m, y, sn, n, N, nw, ol, L, R, hLS, g1, g2, g3, g4, g5, g6, g7⟩ := G
  obtain ⟨k, k1, k2, k3, k4, k5, k6⟩ := g7
  by_cases a : x < 0
  · refine no_m G0 hB (r := -2) ?_ ?_
    · show p_X9_text h 0 x = _
      unfold p_X9_text
      rw [if_pos a]
    · show p_X10_text h 110 x = _
      unfold p_X10_text
      rw [nv_eq, if_pos a]
  · obtain ⟨len, hlen, rfl⟩ := nI_of a
    by_cases b : len ≤ k
    · have eC : ∀ r, tC h (nI len) = r → p_X9_text h 0 (nI len) = r := fun r e => by
        unfold p_X9_text
        rw [if_neg a, if_pos (by rw [k2]; exact nI_le b (by omega))]
        exact e
      have eM : ∀ h1 : Hp, h1 110 2 = nI k → ∀ r, tM (hp h1 110 0 0) (nI len) = r → p_X10_text h1 110 (nI len) = r := fun h1 e2 r e => by
        unfold p_X10_text
        rw [nv_eq, if_neg a, if_pos (by rw [hp_k _ _ (by omega), e2]; exact nI_le b (by omega))]
        exact e
      have tp : ∀ j, j < len → h 111 j = nI (h 111 j).toNatClampNeg ∧ (h 111 j).toNatClampNeg ≤ 255 := fun j hj => by
        obtain ⟨v, _, v1, v2⟩ := (k4 j (by omega)).2
        have e : h 111 j = nI v := v2
        rw [e, nI_clamp (by omega)]
        exact ⟨rfl, v1⟩
      have hT : ∀ j, j < len → h 2 j = nI (h 111 j).toNatClampNeg ∧ (h 111 j).toNatClampNeg ≤ 255 := fun j hj => by
        have e : h 2 j = h 111 j := (k4 j (by omega)).1
        rw [e]
        exact tp j hj
      have l12 : (0 : Int32) ≤ h (0 + 10) 12 := R.lt.2
      obtain ⟨r, h1, X0, q1, _, q3⟩ := text_core (h := h) (X := hp h 110 0 0) (ch := fun j => (h 111 j).toNatClampNeg) (len := len) hT (fun j hj => by rw [hp_n (by omega)]; exact tp j hj) (by omega) (by rw [hp_k _ _ (by omega), g5]) l12
      have h1n : ∀ o, 54 ≤ o → h1 o = h o := fun o ho => q3.1 o (by omega) (by omega) (by omega) (by omega)
      obtain ⟨r', h1', X', w1, w2, w3⟩ := text_core (h := h) (X := hp h1 110 0 0) (ch := fun j => (h 111 j).toNatClampNeg) (len := len) hT (fun j hj => by rw [hp_n (by omega), h1n _ (by omega)]; exact tp j hj) (by omega) (by rw [hp_k _ _ (by omega), h1n _ (by omega), g5]) l12
      rw [q1] at w1
      cases w1
      obtain ⟨z1, z2, z3, z4, z5, z6, z7, z8⟩ := w3
      have Xn : ∀ o, o ≠ 110 → (o < 112 ∨ 116 < o) → X' o = h1 o := fun o ho1 ho2 => by rw [z2 o ho1 ho2, hp_n ho1]
      refine ⟨r, h1, X', eC _ q1, eM h1 (by rw [h1n _ (by omega), k3]) _ w2, ?_⟩
      have rd : RD X' := ⟨0, by omega, by rw [Xn _ (by omega) (by omega), z3]; rfl, by rw [z4]; rfl, fun j hj => absurd hj (Nat.not_lt_zero j), by rw [Xn _ (by omega) (by omega), z5], by rw [Xn _ (by omega) (by omega), z6]⟩
      have o22 : X' 110 22 = -2 := by rw [z7, hp_k _ _ (by omega), h1n _ (by omega), g5]
      have w0 : X' (0 + 59 + 1 + 40) 3 = 0 := by rw [Xn _ (by omega) (by omega), h1n _ (by omega), g6]
      rcases z8 with ⟨u1, u2⟩ | ⟨m', y', sn', Bd', n', N', nw', ol', L', S, t, l, u1, u2, u3, u4, u5, u6, u7, u8⟩
      · have e116 : X' 116 = h 116 := by rw [u2, hp_n (by omega), h1n _ (by omega)]
        refine GR.bd (Bd := Bd) ?_ (by omega) hB
        unfold GR
        rw [e116]
        refine ⟨m, y, sn, n, N, nw, ol, L, R.heap (fun o p1 p2 => by rw [Xn o (by omega) (by omega), u1 o (by omega) (by omega)]), hLS, ?_, ?_, g3, g4, o22, w0, rd⟩
        · rw [Xn _ (by omega) (by omega), u1 _ (by omega) (by omega), g1]
        · rw [Xn _ (by omega) (by omega), u1 _ (by omega) (by omega), g2]
      · have e : ∀ k, k ≠ 4 → k ≠ 7 → upd (upd S 4 t) 7 l k = S k := fun k h4 h7 => by rw [upd_n _ _ h7, upd_n _ _ h4]
        have e4 : X' 116 4 = t := by rw [u8, upd_n _ _ (by omega), upd_s]
        have e7 : X' 116 7 = l := by rw [u8, upd_s]
        refine GR.bd (Bd := Bd') ?_ (by omega) hB
        refine ⟨m', y', sn', n', N', nw', ol', L', ?_, ?_, ?_, ?_, ?_, ?_, o22, w0, rd⟩
        · rw [u8]
          exact (u2.irr e).heap (fun o p1 p2 => Xn o (by omega) (by omega))
        · rw [u8]
          exact u3.ext u2.n200 (fun k hk h4 h7 => e k h4 h7)
        · rw [Xn _ (by omega) (by omega), u4, e4]
        · rw [Xn _ (by omega) (by omega), u5, e7]
        · rw [e4]
          exact u6
        · rw [e7]
          exact u7
    · refine no_m G0 hB (r := -2) ?_ ?_
      · show p_X9_text h 0 (nI len) = _
        unfold p_X9_text
        rw [if_neg a, if_neg (by rw [k2]; exact nI_ge (by omega) hlen)]
      · show p_X10_text h 110 (nI len) = _
        unfold p_X10_text
        rw [nv_eq, if_neg a, if_neg (by rw [hp_k _ _ (by omega), k3]; exact nI_ge (by omega) hlen)]
end Tm
