/-! settle -/
section Qs
variable {bg rl : Bool} {tb : Nat → Int32} {m y sn Bd n N tk : Nat} {nw ol L : List Nat} {h : Hp} {w : Nat} {S : Nat → Int32}
theorem Rel.sett (R : Rel bg rl tb m y sn Bd n N tk nw ol L h w S) {h' : Hp} {S' : Nat → Int32} (a : ∀ o, o ≠ w + 1 → h' o = h o) (s : ∀ k, k < 4 ∨ 9 < k → S' k = S k) (c1 : h' (w + 1) 1 = S' 5) (c2 : h' (w + 1) 2 = S' 6) (c6 : h' (w + 1) 6 = S' 8) (c7 : h' (w + 1) 7 = S' 9) (b3 : h' (w + 1) 3 = h (w + 1) 3) (b4 : h' (w + 1) 4 = h (w + 1) 4) (r5 : rg (S' 5) 10 999) (r6 : rg (S' 6) 50 3000) (r9 : rg (S' 9) 0 1500) (l0 : tb 11 ≤ h' (w + 1) 0) : Rel bg rl tb m y sn Bd n N tk nw ol L h' w S' := by
  have hn200 := R.n200
  have hmy := R.my
  refine ⟨?_, ?_, ?_, ?_, ?_, ?_, ?_, ?_, ?_, ?_, ?_, ?_, ?_, ?_, ?_, ?_, ?_, ?_, ?_, ?_, ?_⟩
  · obtain ⟨e1, e2, e3, e4, e5, e6, e7, e8, e9, e10⟩ := R.sc
    exact ⟨by rw [a _ (by omega), s _ (by omega), e1], by rw [a _ (by omega), s _ (by omega), e2], by rw [a _ (by omega), s _ (by omega), e3], c1, c2, c6, c7, by rw [b3, s _ (by omega), e8], by rw [b4, s _ (by omega), e9], by rw [a _ (by omega), s _ (by omega), e10]⟩
  · exact R.bk.cong (fun b' j _ _ => (by first | rfl | (simp (disch := omega) only [a, s]; done))) (fun b' c _ _ => (by first | rfl | (simp (disch := omega) only [a, s]; done)))
  · exact R.fr.cong (fun j f _ _ _ => (by first | rfl | (simp (disch := omega) only [a, s]; done))) (fun f c _ _ => (by first | rfl | (simp (disch := omega) only [a, s]; done)))
  · exact R.ksn.cong (fun k j _ _ => (by first | rfl | (simp (disch := omega) only [a, s]; done))) (fun k _ _ => (by first | rfl | (simp (disch := omega) only [a, s]; done))) R.sn4
  · unfold kIS
    rw [s 0 (by omega), s 1 (by omega), s 10 (by omega), s 11 (by omega), s 3477 (by omega)]
    exact ⟨R.i0, R.i1, R.n200, R.i10, R.m1, R.m4, R.i11, R.y1, R.y4, r5, r6, r9, R.isn, R.sn4⟩
  · exact R.br.cong (fun b' c _ _ => (by first | rfl | (simp (disch := omega) only [a, s]; done)))
  · exact R.fi.cong (fun f c _ _ => (by first | rfl | (simp (disch := omega) only [a, s]; done))) R.n200
  · exact R.si.cong (fun k c _ _ => (by first | rfl | (simp (disch := omega) only [a, s]; done))) R.sn4
  · exact R.li.cong (fun k _ _ _ => (by first | rfl | (simp (disch := omega) only [a, s]; done))) (fun b' _ => (by first | rfl | (simp (disch := omega) only [a, s]; done))) R.my
  · exact R.lc.cong (fun j => (by first | rfl | (simp (disch := omega) only [a, s]; done))) (fun j => (by first | rfl | (simp (disch := omega) only [a, s]; done)))
  · exact R.cb.cong (fun b' j _ _ => (by first | rfl | (simp (disch := omega) only [a, s]; done))) (fun f c _ _ => (by first | rfl | (simp (disch := omega) only [a, s]; done))) (fun b' _ => (by first | rfl | (simp (disch := omega) only [a, s]; done)))
  · exact R.cf.cong (fun f _ => (by first | rfl | (simp (disch := omega) only [a, s]; done))) (by first | rfl | (simp (disch := omega) only [a, s]; done)) (fun f c _ _ => (by first | rfl | (simp (disch := omega) only [a, s]; done))) (by first | rfl | (simp (disch := omega) only [a, s]; done)) (fun b' _ => (by first | rfl | (simp (disch := omega) only [a, s]; done)))
  · exact R.el.cong R.n200 (by first | rfl | (simp (disch := omega) only [a, s]; done)) (fun i _ => (by first | rfl | (simp (disch := omega) only [a, s]; done))) (fun k _ _ => (by first | rfl | (simp (disch := omega) only [a, s]; done))) (fun f c _ _ => (by first | rfl | (simp (disch := omega) only [a, s]; done)))
  · exact R.ep.cong R.hL R.hl (fun k _ => (by first | rfl | (simp (disch := omega) only [a, s]; done))) (fun f c _ _ => (by first | rfl | (simp (disch := omega) only [a, s]; done)))
  · exact R.eh.cong R.hL2 R.sn4 (fun k _ => (by first | rfl | (simp (disch := omega) only [a, s]; done))) (fun f c _ _ => (by first | rfl | (simp (disch := omega) only [a, s]; done)))
  · exact R.wi.cong (fun j i _ _ => (by first | rfl | (simp (disch := omega) only [a, s]; done))) (fun k _ => (by first | rfl | (simp (disch := omega) only [a, s]; done)))
  · exact R.ta.cong (fun j _ => (by first | rfl | (simp (disch := omega) only [a, s]; done))) (fun k _ _ => (by first | rfl | (simp (disch := omega) only [a, s]; done)))
  · exact R.pk.cong (by first | rfl | (simp (disch := omega) only [a, s]; done)) (by first | rfl | (simp (disch := omega) only [a, s]; done))
  · exact R.kbg.cong (fun b' _ => (by first | rfl | (simp (disch := omega) only [a, s]; done))) (fun f c _ _ => (by first | rfl | (simp (disch := omega) only [a, s]; done))) (fun b' _ => (by first | rfl | (simp (disch := omega) only [a, s]; done)))
  · exact R.px.cong R.hL2 (fun f _ _ => (by first | rfl | (simp (disch := omega) only [a, s]; done)))
  · refine ⟨l0, ?_⟩
    rw [a _ (by omega)]
    exact R.lt.2
theorem GR.set (G : GR Bd h) {h' : Hp} (a : ∀ o, o ≠ 0 + 10 + 1 → o ≠ 116 → o ≠ 110 → h' o = h o) (a2 : ∀ j, j ≠ 0 → h' 110 j = h 110 j) (s : ∀ k, k < 4 ∨ 9 < k → h' 116 k = h 116 k) (c0 : h' (0 + 10 + 1) 0 = h' 116 4) (c1 : h' (0 + 10 + 1) 1 = h' 116 5) (c2 : h' (0 + 10 + 1) 2 = h' 116 6) (c5 : h' (0 + 10 + 1) 5 = h' 116 7) (c6 : h' (0 + 10 + 1) 6 = h' 116 8) (c7 : h' (0 + 10 + 1) 7 = h' 116 9) (b3 : h' (0 + 10 + 1) 3 = h (0 + 10 + 1) 3) (b4 : h' (0 + 10 + 1) 4 = h (0 + 10 + 1) 4) (r4 : rg (h' 116 4) 1 99) (r5 : rg (h' 116 5) 10 999) (r6 : rg (h' 116 6) 50 3000) (r7 : rg (h' 116 7) 1 60) (r9 : rg (h' 116 9) 0 1500) : GR Bd h' := by
  obtain ⟨m, y, sn, n, N, nw, ol, L, R, hLS, g1, g2, g3, g4, g5, g6, g7⟩ := G
  let hm : Hp := va_up h (0 + 10 + 1) (h' (0 + 10 + 1))
  have R1 : Rel true true (fun _ => 0) m y sn Bd n N 200 nw ol L hm (0 + 10) (h' 116) := by
    have e : hm (0 + 10 + 1) = h' (0 + 10 + 1) := va_up_self h _ _
    exact R.sett (fun o ho => va_up_ne h _ ho) s (by rw [e]; exact c1) (by rw [e]; exact c2) (by rw [e]; exact c6) (by rw [e]; exact c7) (by rw [e]; exact b3) (by rw [e]; exact b4) r5 r6 r9 (by rw [e, c0]; obtain ⟨q, _, q2, q3⟩ := r4; rw [q3]; exact nI_pos' (by omega))
  have R2 : Rel true true (fun _ => 0) m y sn Bd n N 200 nw ol L h' (0 + 10) (h' 116) := R1.heap (fun o h1 h2 => by
    by_cases e : o = 0 + 10 + 1
    · subst e
      exact (va_up_self h _ _).symm
    · rw [show hm o = h o from va_up_ne h _ e, a o e (by omega) (by omega)])
  have hn := R.n200
  refine ⟨m, y, sn, n, N, nw, ol, L, R2, fun b g hb hg u => hLS b g hb hg (by rw [sb_cong (S := h 116) (s _ (by omega)) (s _ (by omega))] at u; exact u), c0, c5, r4, r7, ?_, ?_, ?_⟩
  · rw [a2 _ (by omega), g5]
  · rw [a _ (by omega) (by omega) (by omega), g6]
  · exact g7.cong (fun o ho => a o (by omega) (by omega) (by omega)) (fun j hj => a2 j (by omega))
end Qs
section Qs2
variable {Bd : Nat} {h : Hp}

theorem settle_0 (G : GR Bd h) (hB : Bd + 1000 ≤ 5000000) (x : Int32) : Met2 (Bd + 1000) h (fun h => p_X9_settle h 0 0 x) (fun h => p_X10_settle h 110 0 x) := by
  have G0 := G
  obtain ⟨m, y, sn, n, N, nw, ol, L, R, hLS, g1, g2, g3, g4, g5, g6, g7⟩ := G
  have kl : ∀ g : Hp, p_X10_leastOf g 0 = some (1, g) := fun g => rfl
  have km : ∀ g : Hp, p_X10_mostOf g 0 = some (99, g) := fun g => rfl
  have t4 : tbv 4 (Int32.toNatClampNeg 0) = nI 0 := rfl
  have a0 : ¬ (0 : Int32) < 0 := by decide
  have a1 : (0 : Int32) < 6 := by decide
  have a2 : ¬ (5 : Int32) < 0 := by decide
  have a3 : ib 0 6 := by decide
  have a4 : ib (nI 0) 8 := by decide
  have a5 : Int32.toNatClampNeg (nI 0) = 0 := rfl
  have a6 : ib (4 + 0) 3715 := by decide
  have a7 : Int32.toNatClampNeg (4 + 0) = 4 := rfl
  rcases rng3 x (lo := 1) (hi := 99) (by omega) (by omega) with c | c | ⟨k, k1, k2, rfl⟩
  · refine no_m G0 hB (r := -1) ?_ ?_
    · show p_X9_settle h 0 0 x = _
      unfold p_X9_settle
      rw [if_neg a0, if_pos a1, if_pos a3, nv_eq, t4, fits_n h (r := 0) (by omega) (Or.inl c), Option.bind_some]
      rfl
    · show p_X10_settle h 110 0 x = _
      unfold p_X10_settle
      rw [nv_eq, if_neg a0, if_neg a2, kl, Option.bind_some]
      dsimp only
      rw [if_pos (show x < 1 from c)]
  · have hx : ¬ x < 1 := fun z => absurd (Int32.lt_trans c z) (by decide)
    refine no_m G0 hB (r := -1) ?_ ?_
    · show p_X9_settle h 0 0 x = _
      unfold p_X9_settle
      rw [if_neg a0, if_pos a1, if_pos a3, nv_eq, t4, fits_n h (r := 0) (by omega) (Or.inr c), Option.bind_some]
      rfl
    · show p_X10_settle h 110 0 x = _
      unfold p_X10_settle
      rw [nv_eq, if_neg a0, if_neg a2, kl, Option.bind_some]
      dsimp only
      rw [if_neg hx, km, Option.bind_some]
      dsimp only
      rw [if_neg (show ¬ x ≤ 99 from fun z => absurd (Int32.lt_of_lt_of_le c z) (Int32.lt_irrefl))]
  · have e0 : h (0 + 10 + 1) 0 = h 116 4 := by first | exact g1 | exact g2 | exact R.itv | exact R.qua | exact R.sml | exact R.rat
    let h1 : Hp := hp h (0 + 10 + 1) 0 (nI k)
    let h2 : Hp := hp (hp h1 110 0 0) (110 + 6) 4 (nI k)
    have e1 : hp h1 110 0 0 (110 + 6) 4 = h 116 4 := by rw [hp_o' _ _ (by omega)]; exact hp_o' _ _ (by omega)
    refine ⟨h (0 + 10 + 1) 0, h1, h2, ?_, ?_, ?_⟩
    · show p_X9_settle h 0 0 (nI k) = _
      unfold p_X9_settle
      rw [if_neg a0, if_pos a1, if_pos a3, nv_eq, t4, fits_y h (r := 0) (lo := 1) (hi := 99) (by omega) rfl rfl (by omega) k1 k2 (by omega), Option.bind_some]
      dsimp only
      rw [if_neg (by decide), if_pos a4, nv_eq, if_pos a4, nv_eq, a5]
    · show p_X10_settle h1 110 0 (nI k) = _
      unfold p_X10_settle
      rw [nv_eq, if_neg a0, if_neg a2, kl, Option.bind_some]
      dsimp only
      rw [if_neg (show ¬ nI k < 1 from nI_nlt (b := 1) k1 (by omega)), km, Option.bind_some]
      dsimp only
      rw [if_pos (show nI k ≤ 99 from nI_le (b := 99) k2 (by omega)), if_pos a6, nv_eq, if_pos a6, nv_eq, a7, e1, e0]
    · refine GR.bd (GR.set G0 (h' := h2) ?_ ?_ ?_ ?_ ?_ ?_ ?_ ?_ ?_ ?_ ?_ ?_ ?_ ?_ ?_ ?_) (by omega) hB
      · intro o o1 o2 o3
        show hp (hp (hp h (0 + 10 + 1) 0 (nI k)) 110 0 0) (110 + 6) 4 (nI k) o = h o
        rw [hp_n (by omega), hp_n (by omega), hp_n (by omega)]
      · intro j hj
        show hp (hp (hp h (0 + 10 + 1) 0 (nI k)) 110 0 0) (110 + 6) 4 (nI k) 110 j = h 110 j
        rw [hp_o' _ _ (by omega), hp_k _ _ hj, hp_o' _ _ (by omega)]
      · intro q hq
        show hp (hp (hp h (0 + 10 + 1) 0 (nI k)) 110 0 0) (110 + 6) 4 (nI k) 116 q = h 116 q
        rw [hp_k _ _ (by omega), hp_o' _ _ (by omega), hp_o' _ _ (by omega)]
      · show hp (hp (hp h (0 + 10 + 1) 0 (nI k)) 110 0 0) (110 + 6) 4 (nI k) (0 + 10 + 1) 0 = hp (hp (hp h (0 + 10 + 1) 0 (nI k)) 110 0 0) (110 + 6) 4 (nI k) (110 + 6) 4
        rw [hp_o' _ _ (by omega), hp_o' _ _ (by omega), hp_s, hp_s]
      · show hp (hp (hp h (0 + 10 + 1) 0 (nI k)) 110 0 0) (110 + 6) 4 (nI k) (0 + 10 + 1) 1 = hp (hp (hp h (0 + 10 + 1) 0 (nI k)) 110 0 0) (110 + 6) 4 (nI k) (110 + 6) 5
        rw [hp_o' _ _ (by omega), hp_o' _ _ (by omega), hp_k _ _ (by omega), hp_k _ _ (by omega), hp_o' _ _ (by omega), hp_o' _ _ (by omega)]
        first | exact g1 | exact g2 | exact R.itv | exact R.qua | exact R.sml | exact R.rat
      · show hp (hp (hp h (0 + 10 + 1) 0 (nI k)) 110 0 0) (110 + 6) 4 (nI k) (0 + 10 + 1) 2 = hp (hp (hp h (0 + 10 + 1) 0 (nI k)) 110 0 0) (110 + 6) 4 (nI k) (110 + 6) 6
        rw [hp_o' _ _ (by omega), hp_o' _ _ (by omega), hp_k _ _ (by omega), hp_k _ _ (by omega), hp_o' _ _ (by omega), hp_o' _ _ (by omega)]
        first | exact g1 | exact g2 | exact R.itv | exact R.qua | exact R.sml | exact R.rat
      · show hp (hp (hp h (0 + 10 + 1) 0 (nI k)) 110 0 0) (110 + 6) 4 (nI k) (0 + 10 + 1) 5 = hp (hp (hp h (0 + 10 + 1) 0 (nI k)) 110 0 0) (110 + 6) 4 (nI k) (110 + 6) 7
        rw [hp_o' _ _ (by omega), hp_o' _ _ (by omega), hp_k _ _ (by omega), hp_k _ _ (by omega), hp_o' _ _ (by omega), hp_o' _ _ (by omega)]
        first | exact g1 | exact g2 | exact R.itv | exact R.qua | exact R.sml | exact R.rat
      · show hp (hp (hp h (0 + 10 + 1) 0 (nI k)) 110 0 0) (110 + 6) 4 (nI k) (0 + 10 + 1) 6 = hp (hp (hp h (0 + 10 + 1) 0 (nI k)) 110 0 0) (110 + 6) 4 (nI k) (110 + 6) 8
        rw [hp_o' _ _ (by omega), hp_o' _ _ (by omega), hp_k _ _ (by omega), hp_k _ _ (by omega), hp_o' _ _ (by omega), hp_o' _ _ (by omega)]
        first | exact g1 | exact g2 | exact R.itv | exact R.qua | exact R.sml | exact R.rat
      · show hp (hp (hp h (0 + 10 + 1) 0 (nI k)) 110 0 0) (110 + 6) 4 (nI k) (0 + 10 + 1) 7 = hp (hp (hp h (0 + 10 + 1) 0 (nI k)) 110 0 0) (110 + 6) 4 (nI k) (110 + 6) 9
        rw [hp_o' _ _ (by omega), hp_o' _ _ (by omega), hp_k _ _ (by omega), hp_k _ _ (by omega), hp_o' _ _ (by omega), hp_o' _ _ (by omega)]
        first | exact g1 | exact g2 | exact R.itv | exact R.qua | exact R.sml | exact R.rat
      · show hp (hp (hp h (0 + 10 + 1) 0 (nI k)) 110 0 0) (110 + 6) 4 (nI k) (0 + 10 + 1) 3 = h (0 + 10 + 1) 3
        rw [hp_o' _ _ (by omega), hp_o' _ _ (by omega), hp_k _ _ (by omega)]
      · show hp (hp (hp h (0 + 10 + 1) 0 (nI k)) 110 0 0) (110 + 6) 4 (nI k) (0 + 10 + 1) 4 = h (0 + 10 + 1) 4
        rw [hp_o' _ _ (by omega), hp_o' _ _ (by omega), hp_k _ _ (by omega)]
      · show rg (hp (hp (hp h (0 + 10 + 1) 0 (nI k)) 110 0 0) (110 + 6) 4 (nI k) (110 + 6) 4) 1 99
        rw [hp_s]
        exact ⟨k, k1, k2, rfl⟩
      · show rg (hp (hp (hp h (0 + 10 + 1) 0 (nI k)) 110 0 0) (110 + 6) 4 (nI k) (110 + 6) 5) 10 999
        rw [hp_k _ _ (by omega), hp_o' _ _ (by omega), hp_o' _ _ (by omega)]
        first | exact g3 | exact g4 | exact R.i5 | exact R.i6 | exact R.i9
      · show rg (hp (hp (hp h (0 + 10 + 1) 0 (nI k)) 110 0 0) (110 + 6) 4 (nI k) (110 + 6) 6) 50 3000
        rw [hp_k _ _ (by omega), hp_o' _ _ (by omega), hp_o' _ _ (by omega)]
        first | exact g3 | exact g4 | exact R.i5 | exact R.i6 | exact R.i9
      · show rg (hp (hp (hp h (0 + 10 + 1) 0 (nI k)) 110 0 0) (110 + 6) 4 (nI k) (110 + 6) 7) 1 60
        rw [hp_k _ _ (by omega), hp_o' _ _ (by omega), hp_o' _ _ (by omega)]
        first | exact g3 | exact g4 | exact R.i5 | exact R.i6 | exact R.i9
      · show rg (hp (hp (hp h (0 + 10 + 1) 0 (nI k)) 110 0 0) (110 + 6) 4 (nI k) (110 + 6) 9) 0 1500
        rw [hp_k _ _ (by omega), hp_o' _ _ (by omega), hp_o' _ _ (by omega)]
        first | exact g3 | exact g4 | exact R.i5 | exact R.i6 | exact R.i9
theorem settle_1 (G : GR Bd h) (hB : Bd + 1000 ≤ 5000000) (x : Int32) : Met2 (Bd + 1000) h (fun h => p_X9_settle h 0 1 x) (fun h => p_X10_settle h 110 1 x) := by
  have G0 := G
  obtain ⟨m, y, sn, n, N, nw, ol, L, R, hLS, g1, g2, g3, g4, g5, g6, g7⟩ := G
  have kl : ∀ g : Hp, p_X10_leastOf g 1 = some (10, g) := fun g => rfl
  have km : ∀ g : Hp, p_X10_mostOf g 1 = some (999, g) := fun g => rfl
  have t4 : tbv 4 (Int32.toNatClampNeg 1) = nI 1 := rfl
  have a0 : ¬ (1 : Int32) < 0 := by decide
  have a1 : (1 : Int32) < 6 := by decide
  have a2 : ¬ (5 : Int32) < 1 := by decide
  have a3 : ib 1 6 := by decide
  have a4 : ib (nI 1) 8 := by decide
  have a5 : Int32.toNatClampNeg (nI 1) = 1 := rfl
  have a6 : ib (4 + 1) 3715 := by decide
  have a7 : Int32.toNatClampNeg (4 + 1) = 5 := rfl
  rcases rng3 x (lo := 10) (hi := 999) (by omega) (by omega) with c | c | ⟨k, k1, k2, rfl⟩
  · refine no_m G0 hB (r := -1) ?_ ?_
    · show p_X9_settle h 0 1 x = _
      unfold p_X9_settle
      rw [if_neg a0, if_pos a1, if_pos a3, nv_eq, t4, fits_n h (r := 1) (by omega) (Or.inl c), Option.bind_some]
      rfl
    · show p_X10_settle h 110 1 x = _
      unfold p_X10_settle
      rw [nv_eq, if_neg a0, if_neg a2, kl, Option.bind_some]
      dsimp only
      rw [if_pos (show x < 10 from c)]
  · have hx : ¬ x < 10 := fun z => absurd (Int32.lt_trans c z) (by decide)
    refine no_m G0 hB (r := -1) ?_ ?_
    · show p_X9_settle h 0 1 x = _
      unfold p_X9_settle
      rw [if_neg a0, if_pos a1, if_pos a3, nv_eq, t4, fits_n h (r := 1) (by omega) (Or.inr c), Option.bind_some]
      rfl
    · show p_X10_settle h 110 1 x = _
      unfold p_X10_settle
      rw [nv_eq, if_neg a0, if_neg a2, kl, Option.bind_some]
      dsimp only
      rw [if_neg hx, km, Option.bind_some]
      dsimp only
      rw [if_neg (show ¬ x ≤ 999 from fun z => absurd (Int32.lt_of_lt_of_le c z) (Int32.lt_irrefl))]
  · have e0 : h (0 + 10 + 1) 1 = h 116 5 := by first | exact g1 | exact g2 | exact R.itv | exact R.qua | exact R.sml | exact R.rat
    let h1 : Hp := hp h (0 + 10 + 1) 1 (nI k)
    let h2 : Hp := hp (hp h1 110 0 0) (110 + 6) 5 (nI k)
    have e1 : hp h1 110 0 0 (110 + 6) 5 = h 116 5 := by rw [hp_o' _ _ (by omega)]; exact hp_o' _ _ (by omega)
    refine ⟨h (0 + 10 + 1) 1, h1, h2, ?_, ?_, ?_⟩
    · show p_X9_settle h 0 1 (nI k) = _
      unfold p_X9_settle
      rw [if_neg a0, if_pos a1, if_pos a3, nv_eq, t4, fits_y h (r := 1) (lo := 10) (hi := 999) (by omega) rfl rfl (by omega) k1 k2 (by omega), Option.bind_some]
      dsimp only
      rw [if_neg (by decide), if_pos a4, nv_eq, if_pos a4, nv_eq, a5]
    · show p_X10_settle h1 110 1 (nI k) = _
      unfold p_X10_settle
      rw [nv_eq, if_neg a0, if_neg a2, kl, Option.bind_some]
      dsimp only
      rw [if_neg (show ¬ nI k < 10 from nI_nlt (b := 10) k1 (by omega)), km, Option.bind_some]
      dsimp only
      rw [if_pos (show nI k ≤ 999 from nI_le (b := 999) k2 (by omega)), if_pos a6, nv_eq, if_pos a6, nv_eq, a7, e1, e0]
    · refine GR.bd (GR.set G0 (h' := h2) ?_ ?_ ?_ ?_ ?_ ?_ ?_ ?_ ?_ ?_ ?_ ?_ ?_ ?_ ?_ ?_) (by omega) hB
      · intro o o1 o2 o3
        show hp (hp (hp h (0 + 10 + 1) 1 (nI k)) 110 0 0) (110 + 6) 5 (nI k) o = h o
        rw [hp_n (by omega), hp_n (by omega), hp_n (by omega)]
      · intro j hj
        show hp (hp (hp h (0 + 10 + 1) 1 (nI k)) 110 0 0) (110 + 6) 5 (nI k) 110 j = h 110 j
        rw [hp_o' _ _ (by omega), hp_k _ _ hj, hp_o' _ _ (by omega)]
      · intro q hq
        show hp (hp (hp h (0 + 10 + 1) 1 (nI k)) 110 0 0) (110 + 6) 5 (nI k) 116 q = h 116 q
        rw [hp_k _ _ (by omega), hp_o' _ _ (by omega), hp_o' _ _ (by omega)]
      · show hp (hp (hp h (0 + 10 + 1) 1 (nI k)) 110 0 0) (110 + 6) 5 (nI k) (0 + 10 + 1) 0 = hp (hp (hp h (0 + 10 + 1) 1 (nI k)) 110 0 0) (110 + 6) 5 (nI k) (110 + 6) 4
        rw [hp_o' _ _ (by omega), hp_o' _ _ (by omega), hp_k _ _ (by omega), hp_k _ _ (by omega), hp_o' _ _ (by omega), hp_o' _ _ (by omega)]
        first | exact g1 | exact g2 | exact R.itv | exact R.qua | exact R.sml | exact R.rat
      · show hp (hp (hp h (0 + 10 + 1) 1 (nI k)) 110 0 0) (110 + 6) 5 (nI k) (0 + 10 + 1) 1 = hp (hp (hp h (0 + 10 + 1) 1 (nI k)) 110 0 0) (110 + 6) 5 (nI k) (110 + 6) 5
        rw [hp_o' _ _ (by omega), hp_o' _ _ (by omega), hp_s, hp_s]
      · show hp (hp (hp h (0 + 10 + 1) 1 (nI k)) 110 0 0) (110 + 6) 5 (nI k) (0 + 10 + 1) 2 = hp (hp (hp h (0 + 10 + 1) 1 (nI k)) 110 0 0) (110 + 6) 5 (nI k) (110 + 6) 6
        rw [hp_o' _ _ (by omega), hp_o' _ _ (by omega), hp_k _ _ (by omega), hp_k _ _ (by omega), hp_o' _ _ (by omega), hp_o' _ _ (by omega)]
        first | exact g1 | exact g2 | exact R.itv | exact R.qua | exact R.sml | exact R.rat
      · show hp (hp (hp h (0 + 10 + 1) 1 (nI k)) 110 0 0) (110 + 6) 5 (nI k) (0 + 10 + 1) 5 = hp (hp (hp h (0 + 10 + 1) 1 (nI k)) 110 0 0) (110 + 6) 5 (nI k) (110 + 6) 7
        rw [hp_o' _ _ (by omega), hp_o' _ _ (by omega), hp_k _ _ (by omega), hp_k _ _ (by omega), hp_o' _ _ (by omega), hp_o' _ _ (by omega)]
        first | exact g1 | exact g2 | exact R.itv | exact R.qua | exact R.sml | exact R.rat
      · show hp (hp (hp h (0 + 10 + 1) 1 (nI k)) 110 0 0) (110 + 6) 5 (nI k) (0 + 10 + 1) 6 = hp (hp (hp h (0 + 10 + 1) 1 (nI k)) 110 0 0) (110 + 6) 5 (nI k) (110 + 6) 8
        rw [hp_o' _ _ (by omega), hp_o' _ _ (by omega), hp_k _ _ (by omega), hp_k _ _ (by omega), hp_o' _ _ (by omega), hp_o' _ _ (by omega)]
        first | exact g1 | exact g2 | exact R.itv | exact R.qua | exact R.sml | exact R.rat
      · show hp (hp (hp h (0 + 10 + 1) 1 (nI k)) 110 0 0) (110 + 6) 5 (nI k) (0 + 10 + 1) 7 = hp (hp (hp h (0 + 10 + 1) 1 (nI k)) 110 0 0) (110 + 6) 5 (nI k) (110 + 6) 9
        rw [hp_o' _ _ (by omega), hp_o' _ _ (by omega), hp_k _ _ (by omega), hp_k _ _ (by omega), hp_o' _ _ (by omega), hp_o' _ _ (by omega)]
        first | exact g1 | exact g2 | exact R.itv | exact R.qua | exact R.sml | exact R.rat
      · show hp (hp (hp h (0 + 10 + 1) 1 (nI k)) 110 0 0) (110 + 6) 5 (nI k) (0 + 10 + 1) 3 = h (0 + 10 + 1) 3
        rw [hp_o' _ _ (by omega), hp_o' _ _ (by omega), hp_k _ _ (by omega)]
      · show hp (hp (hp h (0 + 10 + 1) 1 (nI k)) 110 0 0) (110 + 6) 5 (nI k) (0 + 10 + 1) 4 = h (0 + 10 + 1) 4
        rw [hp_o' _ _ (by omega), hp_o' _ _ (by omega), hp_k _ _ (by omega)]
      · show rg (hp (hp (hp h (0 + 10 + 1) 1 (nI k)) 110 0 0) (110 + 6) 5 (nI k) (110 + 6) 4) 1 99
        rw [hp_k _ _ (by omega), hp_o' _ _ (by omega), hp_o' _ _ (by omega)]
        first | exact g3 | exact g4 | exact R.i5 | exact R.i6 | exact R.i9
      · show rg (hp (hp (hp h (0 + 10 + 1) 1 (nI k)) 110 0 0) (110 + 6) 5 (nI k) (110 + 6) 5) 10 999
        rw [hp_s]
        exact ⟨k, k1, k2, rfl⟩
      · show rg (hp (hp (hp h (0 + 10 + 1) 1 (nI k)) 110 0 0) (110 + 6) 5 (nI k) (110 + 6) 6) 50 3000
        rw [hp_k _ _ (by omega), hp_o' _ _ (by omega), hp_o' _ _ (by omega)]
        first | exact g3 | exact g4 | exact R.i5 | exact R.i6 | exact R.i9
      · show rg (hp (hp (hp h (0 + 10 + 1) 1 (nI k)) 110 0 0) (110 + 6) 5 (nI k) (110 + 6) 7) 1 60
        rw [hp_k _ _ (by omega), hp_o' _ _ (by omega), hp_o' _ _ (by omega)]
        first | exact g3 | exact g4 | exact R.i5 | exact R.i6 | exact R.i9
      · show rg (hp (hp (hp h (0 + 10 + 1) 1 (nI k)) 110 0 0) (110 + 6) 5 (nI k) (110 + 6) 9) 0 1500
        rw [hp_k _ _ (by omega), hp_o' _ _ (by omega), hp_o' _ _ (by omega)]
        first | exact g3 | exact g4 | exact R.i5 | exact R.i6 | exact R.i9
theorem settle_2 (G : GR Bd h) (hB : Bd + 1000 ≤ 5000000) (x : Int32) : Met2 (Bd + 1000) h (fun h => p_X9_settle h 0 2 x) (fun h => p_X10_settle h 110 2 x) := by
  have G0 := G
  obtain ⟨m, y, sn, n, N, nw, ol, L, R, hLS, g1, g2, g3, g4, g5, g6, g7⟩ := G
  have kl : ∀ g : Hp, p_X10_leastOf g 2 = some (50, g) := fun g => rfl
  have km : ∀ g : Hp, p_X10_mostOf g 2 = some (3000, g) := fun g => rfl
  have t4 : tbv 4 (Int32.toNatClampNeg 2) = nI 2 := rfl
  have a0 : ¬ (2 : Int32) < 0 := by decide
  have a1 : (2 : Int32) < 6 := by decide
  have a2 : ¬ (5 : Int32) < 2 := by decide
  have a3 : ib 2 6 := by decide
  have a4 : ib (nI 2) 8 := by decide
  have a5 : Int32.toNatClampNeg (nI 2) = 2 := rfl
  have a6 : ib (4 + 2) 3715 := by decide
  have a7 : Int32.toNatClampNeg (4 + 2) = 6 := rfl
  rcases rng3 x (lo := 50) (hi := 3000) (by omega) (by omega) with c | c | ⟨k, k1, k2, rfl⟩
  · refine no_m G0 hB (r := -1) ?_ ?_
    · show p_X9_settle h 0 2 x = _
      unfold p_X9_settle
      rw [if_neg a0, if_pos a1, if_pos a3, nv_eq, t4, fits_n h (r := 2) (by omega) (Or.inl c), Option.bind_some]
      rfl
    · show p_X10_settle h 110 2 x = _
      unfold p_X10_settle
      rw [nv_eq, if_neg a0, if_neg a2, kl, Option.bind_some]
      dsimp only
      rw [if_pos (show x < 50 from c)]
  · have hx : ¬ x < 50 := fun z => absurd (Int32.lt_trans c z) (by decide)
    refine no_m G0 hB (r := -1) ?_ ?_
    · show p_X9_settle h 0 2 x = _
      unfold p_X9_settle
      rw [if_neg a0, if_pos a1, if_pos a3, nv_eq, t4, fits_n h (r := 2) (by omega) (Or.inr c), Option.bind_some]
      rfl
    · show p_X10_settle h 110 2 x = _
      unfold p_X10_settle
      rw [nv_eq, if_neg a0, if_neg a2, kl, Option.bind_some]
      dsimp only
      rw [if_neg hx, km, Option.bind_some]
      dsimp only
      rw [if_neg (show ¬ x ≤ 3000 from fun z => absurd (Int32.lt_of_lt_of_le c z) (Int32.lt_irrefl))]
  · have e0 : h (0 + 10 + 1) 2 = h 116 6 := by first | exact g1 | exact g2 | exact R.itv | exact R.qua | exact R.sml | exact R.rat
    let h1 : Hp := hp h (0 + 10 + 1) 2 (nI k)
    let h2 : Hp := hp (hp h1 110 0 0) (110 + 6) 6 (nI k)
    have e1 : hp h1 110 0 0 (110 + 6) 6 = h 116 6 := by rw [hp_o' _ _ (by omega)]; exact hp_o' _ _ (by omega)
    refine ⟨h (0 + 10 + 1) 2, h1, h2, ?_, ?_, ?_⟩
    · show p_X9_settle h 0 2 (nI k) = _
      unfold p_X9_settle
      rw [if_neg a0, if_pos a1, if_pos a3, nv_eq, t4, fits_y h (r := 2) (lo := 50) (hi := 3000) (by omega) rfl rfl (by omega) k1 k2 (by omega), Option.bind_some]
      dsimp only
      rw [if_neg (by decide), if_pos a4, nv_eq, if_pos a4, nv_eq, a5]
    · show p_X10_settle h1 110 2 (nI k) = _
      unfold p_X10_settle
      rw [nv_eq, if_neg a0, if_neg a2, kl, Option.bind_some]
      dsimp only
      rw [if_neg (show ¬ nI k < 50 from nI_nlt (b := 50) k1 (by omega)), km, Option.bind_some]
      dsimp only
      rw [if_pos (show nI k ≤ 3000 from nI_le (b := 3000) k2 (by omega)), if_pos a6, nv_eq, if_pos a6, nv_eq, a7, e1, e0]
    · refine GR.bd (GR.set G0 (h' := h2) ?_ ?_ ?_ ?_ ?_ ?_ ?_ ?_ ?_ ?_ ?_ ?_ ?_ ?_ ?_ ?_) (by omega) hB
      · intro o o1 o2 o3
        show hp (hp (hp h (0 + 10 + 1) 2 (nI k)) 110 0 0) (110 + 6) 6 (nI k) o = h o
        rw [hp_n (by omega), hp_n (by omega), hp_n (by omega)]
      · intro j hj
        show hp (hp (hp h (0 + 10 + 1) 2 (nI k)) 110 0 0) (110 + 6) 6 (nI k) 110 j = h 110 j
        rw [hp_o' _ _ (by omega), hp_k _ _ hj, hp_o' _ _ (by omega)]
      · intro q hq
        show hp (hp (hp h (0 + 10 + 1) 2 (nI k)) 110 0 0) (110 + 6) 6 (nI k) 116 q = h 116 q
        rw [hp_k _ _ (by omega), hp_o' _ _ (by omega), hp_o' _ _ (by omega)]
      · show hp (hp (hp h (0 + 10 + 1) 2 (nI k)) 110 0 0) (110 + 6) 6 (nI k) (0 + 10 + 1) 0 = hp (hp (hp h (0 + 10 + 1) 2 (nI k)) 110 0 0) (110 + 6) 6 (nI k) (110 + 6) 4
        rw [hp_o' _ _ (by omega), hp_o' _ _ (by omega), hp_k _ _ (by omega), hp_k _ _ (by omega), hp_o' _ _ (by omega), hp_o' _ _ (by omega)]
        first | exact g1 | exact g2 | exact R.itv | exact R.qua | exact R.sml | exact R.rat
      · show hp (hp (hp h (0 + 10 + 1) 2 (nI k)) 110 0 0) (110 + 6) 6 (nI k) (0 + 10 + 1) 1 = hp (hp (hp h (0 + 10 + 1) 2 (nI k)) 110 0 0) (110 + 6) 6 (nI k) (110 + 6) 5
        rw [hp_o' _ _ (by omega), hp_o' _ _ (by omega), hp_k _ _ (by omega), hp_k _ _ (by omega), hp_o' _ _ (by omega), hp_o' _ _ (by omega)]
        first | exact g1 | exact g2 | exact R.itv | exact R.qua | exact R.sml | exact R.rat
      · show hp (hp (hp h (0 + 10 + 1) 2 (nI k)) 110 0 0) (110 + 6) 6 (nI k) (0 + 10 + 1) 2 = hp (hp (hp h (0 + 10 + 1) 2 (nI k)) 110 0 0) (110 + 6) 6 (nI k) (110 + 6) 6
        rw [hp_o' _ _ (by omega), hp_o' _ _ (by omega), hp_s, hp_s]
      · show hp (hp (hp h (0 + 10 + 1) 2 (nI k)) 110 0 0) (110 + 6) 6 (nI k) (0 + 10 + 1) 5 = hp (hp (hp h (0 + 10 + 1) 2 (nI k)) 110 0 0) (110 + 6) 6 (nI k) (110 + 6) 7
        rw [hp_o' _ _ (by omega), hp_o' _ _ (by omega), hp_k _ _ (by omega), hp_k _ _ (by omega), hp_o' _ _ (by omega), hp_o' _ _ (by omega)]
        first | exact g1 | exact g2 | exact R.itv | exact R.qua | exact R.sml | exact R.rat
      · show hp (hp (hp h (0 + 10 + 1) 2 (nI k)) 110 0 0) (110 + 6) 6 (nI k) (0 + 10 + 1) 6 = hp (hp (hp h (0 + 10 + 1) 2 (nI k)) 110 0 0) (110 + 6) 6 (nI k) (110 + 6) 8
        rw [hp_o' _ _ (by omega), hp_o' _ _ (by omega), hp_k _ _ (by omega), hp_k _ _ (by omega), hp_o' _ _ (by omega), hp_o' _ _ (by omega)]
        first | exact g1 | exact g2 | exact R.itv | exact R.qua | exact R.sml | exact R.rat
      · show hp (hp (hp h (0 + 10 + 1) 2 (nI k)) 110 0 0) (110 + 6) 6 (nI k) (0 + 10 + 1) 7 = hp (hp (hp h (0 + 10 + 1) 2 (nI k)) 110 0 0) (110 + 6) 6 (nI k) (110 + 6) 9
        rw [hp_o' _ _ (by omega), hp_o' _ _ (by omega), hp_k _ _ (by omega), hp_k _ _ (by omega), hp_o' _ _ (by omega), hp_o' _ _ (by omega)]
        first | exact g1 | exact g2 | exact R.itv | exact R.qua | exact R.sml | exact R.rat
      · show hp (hp (hp h (0 + 10 + 1) 2 (nI k)) 110 0 0) (110 + 6) 6 (nI k) (0 + 10 + 1) 3 = h (0 + 10 + 1) 3
        rw [hp_o' _ _ (by omega), hp_o' _ _ (by omega), hp_k _ _ (by omega)]
      · show hp (hp (hp h (0 + 10 + 1) 2 (nI k)) 110 0 0) (110 + 6) 6 (nI k) (0 + 10 + 1) 4 = h (0 + 10 + 1) 4
        rw [hp_o' _ _ (by omega), hp_o' _ _ (by omega), hp_k _ _ (by omega)]
      · show rg (hp (hp (hp h (0 + 10 + 1) 2 (nI k)) 110 0 0) (110 + 6) 6 (nI k) (110 + 6) 4) 1 99
        rw [hp_k _ _ (by omega), hp_o' _ _ (by omega), hp_o' _ _ (by omega)]
        first | exact g3 | exact g4 | exact R.i5 | exact R.i6 | exact R.i9
      · show rg (hp (hp (hp h (0 + 10 + 1) 2 (nI k)) 110 0 0) (110 + 6) 6 (nI k) (110 + 6) 5) 10 999
        rw [hp_k _ _ (by omega), hp_o' _ _ (by omega), hp_o' _ _ (by omega)]
        first | exact g3 | exact g4 | exact R.i5 | exact R.i6 | exact R.i9
      · show rg (hp (hp (hp h (0 + 10 + 1) 2 (nI k)) 110 0 0) (110 + 6) 6 (nI k) (110 + 6) 6) 50 3000
        rw [hp_s]
        exact ⟨k, k1, k2, rfl⟩
      · show rg (hp (hp (hp h (0 + 10 + 1) 2 (nI k)) 110 0 0) (110 + 6) 6 (nI k) (110 + 6) 7) 1 60
        rw [hp_k _ _ (by omega), hp_o' _ _ (by omega), hp_o' _ _ (by omega)]
        first | exact g3 | exact g4 | exact R.i5 | exact R.i6 | exact R.i9
      · show rg (hp (hp (hp h (0 + 10 + 1) 2 (nI k)) 110 0 0) (110 + 6) 6 (nI k) (110 + 6) 9) 0 1500
        rw [hp_k _ _ (by omega), hp_o' _ _ (by omega), hp_o' _ _ (by omega)]
        first | exact g3 | exact g4 | exact R.i5 | exact R.i6 | exact R.i9
theorem settle_3 (G : GR Bd h) (hB : Bd + 1000 ≤ 5000000) (x : Int32) : Met2 (Bd + 1000) h (fun h => p_X9_settle h 0 3 x) (fun h => p_X10_settle h 110 3 x) := by
  have G0 := G
  obtain ⟨m, y, sn, n, N, nw, ol, L, R, hLS, g1, g2, g3, g4, g5, g6, g7⟩ := G
  have kl : ∀ g : Hp, p_X10_leastOf g 3 = some (1, g) := fun g => rfl
  have km : ∀ g : Hp, p_X10_mostOf g 3 = some (60, g) := fun g => rfl
  have t4 : tbv 4 (Int32.toNatClampNeg 3) = nI 5 := rfl
  have a0 : ¬ (3 : Int32) < 0 := by decide
  have a1 : (3 : Int32) < 6 := by decide
  have a2 : ¬ (5 : Int32) < 3 := by decide
  have a3 : ib 3 6 := by decide
  have a4 : ib (nI 5) 8 := by decide
  have a5 : Int32.toNatClampNeg (nI 5) = 5 := rfl
  have a6 : ib (4 + 3) 3715 := by decide
  have a7 : Int32.toNatClampNeg (4 + 3) = 7 := rfl
  rcases rng3 x (lo := 1) (hi := 60) (by omega) (by omega) with c | c | ⟨k, k1, k2, rfl⟩
  · refine no_m G0 hB (r := -1) ?_ ?_
    · show p_X9_settle h 0 3 x = _
      unfold p_X9_settle
      rw [if_neg a0, if_pos a1, if_pos a3, nv_eq, t4, fits_n h (r := 5) (by omega) (Or.inl c), Option.bind_some]
      rfl
    · show p_X10_settle h 110 3 x = _
      unfold p_X10_settle
      rw [nv_eq, if_neg a0, if_neg a2, kl, Option.bind_some]
      dsimp only
      rw [if_pos (show x < 1 from c)]
  · have hx : ¬ x < 1 := fun z => absurd (Int32.lt_trans c z) (by decide)
    refine no_m G0 hB (r := -1) ?_ ?_
    · show p_X9_settle h 0 3 x = _
      unfold p_X9_settle
      rw [if_neg a0, if_pos a1, if_pos a3, nv_eq, t4, fits_n h (r := 5) (by omega) (Or.inr c), Option.bind_some]
      rfl
    · show p_X10_settle h 110 3 x = _
      unfold p_X10_settle
      rw [nv_eq, if_neg a0, if_neg a2, kl, Option.bind_some]
      dsimp only
      rw [if_neg hx, km, Option.bind_some]
      dsimp only
      rw [if_neg (show ¬ x ≤ 60 from fun z => absurd (Int32.lt_of_lt_of_le c z) (Int32.lt_irrefl))]
  · have e0 : h (0 + 10 + 1) 5 = h 116 7 := by first | exact g1 | exact g2 | exact R.itv | exact R.qua | exact R.sml | exact R.rat
    let h1 : Hp := hp h (0 + 10 + 1) 5 (nI k)
    let h2 : Hp := hp (hp h1 110 0 0) (110 + 6) 7 (nI k)
    have e1 : hp h1 110 0 0 (110 + 6) 7 = h 116 7 := by rw [hp_o' _ _ (by omega)]; exact hp_o' _ _ (by omega)
    refine ⟨h (0 + 10 + 1) 5, h1, h2, ?_, ?_, ?_⟩
    · show p_X9_settle h 0 3 (nI k) = _
      unfold p_X9_settle
      rw [if_neg a0, if_pos a1, if_pos a3, nv_eq, t4, fits_y h (r := 5) (lo := 1) (hi := 60) (by omega) rfl rfl (by omega) k1 k2 (by omega), Option.bind_some]
      dsimp only
      rw [if_neg (by decide), if_pos a4, nv_eq, if_pos a4, nv_eq, a5]
    · show p_X10_settle h1 110 3 (nI k) = _
      unfold p_X10_settle
      rw [nv_eq, if_neg a0, if_neg a2, kl, Option.bind_some]
      dsimp only
      rw [if_neg (show ¬ nI k < 1 from nI_nlt (b := 1) k1 (by omega)), km, Option.bind_some]
      dsimp only
      rw [if_pos (show nI k ≤ 60 from nI_le (b := 60) k2 (by omega)), if_pos a6, nv_eq, if_pos a6, nv_eq, a7, e1, e0]
    · refine GR.bd (GR.set G0 (h' := h2) ?_ ?_ ?_ ?_ ?_ ?_ ?_ ?_ ?_ ?_ ?_ ?_ ?_ ?_ ?_ ?_) (by omega) hB
      · intro o o1 o2 o3
        show hp (hp (hp h (0 + 10 + 1) 5 (nI k)) 110 0 0) (110 + 6) 7 (nI k) o = h o
        rw [hp_n (by omega), hp_n (by omega), hp_n (by omega)]
      · intro j hj
        show hp (hp (hp h (0 + 10 + 1) 5 (nI k)) 110 0 0) (110 + 6) 7 (nI k) 110 j = h 110 j
        rw [hp_o' _ _ (by omega), hp_k _ _ hj, hp_o' _ _ (by omega)]
      · intro q hq
        show hp (hp (hp h (0 + 10 + 1) 5 (nI k)) 110 0 0) (110 + 6) 7 (nI k) 116 q = h 116 q
        rw [hp_k _ _ (by omega), hp_o' _ _ (by omega), hp_o' _ _ (by omega)]
      · show hp (hp (hp h (0 + 10 + 1) 5 (nI k)) 110 0 0) (110 + 6) 7 (nI k) (0 + 10 + 1) 0 = hp (hp (hp h (0 + 10 + 1) 5 (nI k)) 110 0 0) (110 + 6) 7 (nI k) (110 + 6) 4
        rw [hp_o' _ _ (by omega), hp_o' _ _ (by omega), hp_k _ _ (by omega), hp_k _ _ (by omega), hp_o' _ _ (by omega), hp_o' _ _ (by omega)]
        first | exact g1 | exact g2 | exact R.itv | exact R.qua | exact R.sml | exact R.rat
      · show hp (hp (hp h (0 + 10 + 1) 5 (nI k)) 110 0 0) (110 + 6) 7 (nI k) (0 + 10 + 1) 1 = hp (hp (hp h (0 + 10 + 1) 5 (nI k)) 110 0 0) (110 + 6) 7 (nI k) (110 + 6) 5
        rw [hp_o' _ _ (by omega), hp_o' _ _ (by omega), hp_k _ _ (by omega), hp_k _ _ (by omega), hp_o' _ _ (by omega), hp_o' _ _ (by omega)]
        first | exact g1 | exact g2 | exact R.itv | exact R.qua | exact R.sml | exact R.rat
      · show hp (hp (hp h (0 + 10 + 1) 5 (nI k)) 110 0 0) (110 + 6) 7 (nI k) (0 + 10 + 1) 2 = hp (hp (hp h (0 + 10 + 1) 5 (nI k)) 110 0 0) (110 + 6) 7 (nI k) (110 + 6) 6
        rw [hp_o' _ _ (by omega), hp_o' _ _ (by omega), hp_k _ _ (by omega), hp_k _ _ (by omega), hp_o' _ _ (by omega), hp_o' _ _ (by omega)]
        first | exact g1 | exact g2 | exact R.itv | exact R.qua | exact R.sml | exact R.rat
      · show hp (hp (hp h (0 + 10 + 1) 5 (nI k)) 110 0 0) (110 + 6) 7 (nI k) (0 + 10 + 1) 5 = hp (hp (hp h (0 + 10 + 1) 5 (nI k)) 110 0 0) (110 + 6) 7 (nI k) (110 + 6) 7
        rw [hp_o' _ _ (by omega), hp_o' _ _ (by omega), hp_s, hp_s]
      · show hp (hp (hp h (0 + 10 + 1) 5 (nI k)) 110 0 0) (110 + 6) 7 (nI k) (0 + 10 + 1) 6 = hp (hp (hp h (0 + 10 + 1) 5 (nI k)) 110 0 0) (110 + 6) 7 (nI k) (110 + 6) 8
        rw [hp_o' _ _ (by omega), hp_o' _ _ (by omega), hp_k _ _ (by omega), hp_k _ _ (by omega), hp_o' _ _ (by omega), hp_o' _ _ (by omega)]
        first | exact g1 | exact g2 | exact R.itv | exact R.qua | exact R.sml | exact R.rat
      · show hp (hp (hp h (0 + 10 + 1) 5 (nI k)) 110 0 0) (110 + 6) 7 (nI k) (0 + 10 + 1) 7 = hp (hp (hp h (0 + 10 + 1) 5 (nI k)) 110 0 0) (110 + 6) 7 (nI k) (110 + 6) 9
        rw [hp_o' _ _ (by omega), hp_o' _ _ (by omega), hp_k _ _ (by omega), hp_k _ _ (by omega), hp_o' _ _ (by omega), hp_o' _ _ (by omega)]
        first | exact g1 | exact g2 | exact R.itv | exact R.qua | exact R.sml | exact R.rat
      · show hp (hp (hp h (0 + 10 + 1) 5 (nI k)) 110 0 0) (110 + 6) 7 (nI k) (0 + 10 + 1) 3 = h (0 + 10 + 1) 3
        rw [hp_o' _ _ (by omega), hp_o' _ _ (by omega), hp_k _ _ (by omega)]
      · show hp (hp (hp h (0 + 10 + 1) 5 (nI k)) 110 0 0) (110 + 6) 7 (nI k) (0 + 10 + 1) 4 = h (0 + 10 + 1) 4
        rw [hp_o' _ _ (by omega), hp_o' _ _ (by omega), hp_k _ _ (by omega)]
      · show rg (hp (hp (hp h (0 + 10 + 1) 5 (nI k)) 110 0 0) (110 + 6) 7 (nI k) (110 + 6) 4) 1 99
        rw [hp_k _ _ (by omega), hp_o' _ _ (by omega), hp_o' _ _ (by omega)]
        first | exact g3 | exact g4 | exact R.i5 | exact R.i6 | exact R.i9
      · show rg (hp (hp (hp h (0 + 10 + 1) 5 (nI k)) 110 0 0) (110 + 6) 7 (nI k) (110 + 6) 5) 10 999
        rw [hp_k _ _ (by omega), hp_o' _ _ (by omega), hp_o' _ _ (by omega)]
        first | exact g3 | exact g4 | exact R.i5 | exact R.i6 | exact R.i9
      · show rg (hp (hp (hp h (0 + 10 + 1) 5 (nI k)) 110 0 0) (110 + 6) 7 (nI k) (110 + 6) 6) 50 3000
        rw [hp_k _ _ (by omega), hp_o' _ _ (by omega), hp_o' _ _ (by omega)]
        first | exact g3 | exact g4 | exact R.i5 | exact R.i6 | exact R.i9
      · show rg (hp (hp (hp h (0 + 10 + 1) 5 (nI k)) 110 0 0) (110 + 6) 7 (nI k) (110 + 6) 7) 1 60
        rw [hp_s]
        exact ⟨k, k1, k2, rfl⟩
      · show rg (hp (hp (hp h (0 + 10 + 1) 5 (nI k)) 110 0 0) (110 + 6) 7 (nI k) (110 + 6) 9) 0 1500
        rw [hp_k _ _ (by omega), hp_o' _ _ (by omega), hp_o' _ _ (by omega)]
        first | exact g3 | exact g4 | exact R.i5 | exact R.i6 | exact R.i9
theorem settle_4 (G : GR Bd h) (hB : Bd + 1000 ≤ 5000000) (x : Int32) : Met2 (Bd + 1000) h (fun h => p_X9_settle h 0 4 x) (fun h => p_X10_settle h 110 4 x) := by
  have G0 := G
  obtain ⟨m, y, sn, n, N, nw, ol, L, R, hLS, g1, g2, g3, g4, g5, g6, g7⟩ := G
  have kl : ∀ g : Hp, p_X10_leastOf g 4 = some (0, g) := fun g => rfl
  have km : ∀ g : Hp, p_X10_mostOf g 4 = some (3000, g) := fun g => rfl
  have t4 : tbv 4 (Int32.toNatClampNeg 4) = nI 6 := rfl
  have a0 : ¬ (4 : Int32) < 0 := by decide
  have a1 : (4 : Int32) < 6 := by decide
  have a2 : ¬ (5 : Int32) < 4 := by decide
  have a3 : ib 4 6 := by decide
  have a4 : ib (nI 6) 8 := by decide
  have a5 : Int32.toNatClampNeg (nI 6) = 6 := rfl
  have a6 : ib (4 + 4) 3715 := by decide
  have a7 : Int32.toNatClampNeg (4 + 4) = 8 := rfl
  rcases rng3 x (lo := 0) (hi := 3000) (by omega) (by omega) with c | c | ⟨k, k1, k2, rfl⟩
  · refine no_m G0 hB (r := -1) ?_ ?_
    · show p_X9_settle h 0 4 x = _
      unfold p_X9_settle
      rw [if_neg a0, if_pos a1, if_pos a3, nv_eq, t4, fits_n h (r := 6) (by omega) (Or.inl c), Option.bind_some]
      rfl
    · show p_X10_settle h 110 4 x = _
      unfold p_X10_settle
      rw [nv_eq, if_neg a0, if_neg a2, kl, Option.bind_some]
      dsimp only
      rw [if_pos (show x < 0 from c)]
  · have hx : ¬ x < 0 := fun z => absurd (Int32.lt_trans c z) (by decide)
    refine no_m G0 hB (r := -1) ?_ ?_
    · show p_X9_settle h 0 4 x = _
      unfold p_X9_settle
      rw [if_neg a0, if_pos a1, if_pos a3, nv_eq, t4, fits_n h (r := 6) (by omega) (Or.inr c), Option.bind_some]
      rfl
    · show p_X10_settle h 110 4 x = _
      unfold p_X10_settle
      rw [nv_eq, if_neg a0, if_neg a2, kl, Option.bind_some]
      dsimp only
      rw [if_neg hx, km, Option.bind_some]
      dsimp only
      rw [if_neg (show ¬ x ≤ 3000 from fun z => absurd (Int32.lt_of_lt_of_le c z) (Int32.lt_irrefl))]
  · have e0 : h (0 + 10 + 1) 6 = h 116 8 := by first | exact g1 | exact g2 | exact R.itv | exact R.qua | exact R.sml | exact R.rat
    let h1 : Hp := hp h (0 + 10 + 1) 6 (nI k)
    let h2 : Hp := hp (hp h1 110 0 0) (110 + 6) 8 (nI k)
    have e1 : hp h1 110 0 0 (110 + 6) 8 = h 116 8 := by rw [hp_o' _ _ (by omega)]; exact hp_o' _ _ (by omega)
    refine ⟨h (0 + 10 + 1) 6, h1, h2, ?_, ?_, ?_⟩
    · show p_X9_settle h 0 4 (nI k) = _
      unfold p_X9_settle
      rw [if_neg a0, if_pos a1, if_pos a3, nv_eq, t4, fits_y h (r := 6) (lo := 0) (hi := 3000) (by omega) rfl rfl (by omega) k1 k2 (by omega), Option.bind_some]
      dsimp only
      rw [if_neg (by decide), if_pos a4, nv_eq, if_pos a4, nv_eq, a5]
    · show p_X10_settle h1 110 4 (nI k) = _
      unfold p_X10_settle
      rw [nv_eq, if_neg a0, if_neg a2, kl, Option.bind_some]
      dsimp only
      rw [if_neg (show ¬ nI k < 0 from nI_nlt (b := 0) k1 (by omega)), km, Option.bind_some]
      dsimp only
      rw [if_pos (show nI k ≤ 3000 from nI_le (b := 3000) k2 (by omega)), if_pos a6, nv_eq, if_pos a6, nv_eq, a7, e1, e0]
    · refine GR.bd (GR.set G0 (h' := h2) ?_ ?_ ?_ ?_ ?_ ?_ ?_ ?_ ?_ ?_ ?_ ?_ ?_ ?_ ?_ ?_) (by omega) hB
      · intro o o1 o2 o3
        show hp (hp (hp h (0 + 10 + 1) 6 (nI k)) 110 0 0) (110 + 6) 8 (nI k) o = h o
        rw [hp_n (by omega), hp_n (by omega), hp_n (by omega)]
      · intro j hj
        show hp (hp (hp h (0 + 10 + 1) 6 (nI k)) 110 0 0) (110 + 6) 8 (nI k) 110 j = h 110 j
        rw [hp_o' _ _ (by omega), hp_k _ _ hj, hp_o' _ _ (by omega)]
      · intro q hq
        show hp (hp (hp h (0 + 10 + 1) 6 (nI k)) 110 0 0) (110 + 6) 8 (nI k) 116 q = h 116 q
        rw [hp_k _ _ (by omega), hp_o' _ _ (by omega), hp_o' _ _ (by omega)]
      · show hp (hp (hp h (0 + 10 + 1) 6 (nI k)) 110 0 0) (110 + 6) 8 (nI k) (0 + 10 + 1) 0 = hp (hp (hp h (0 + 10 + 1) 6 (nI k)) 110 0 0) (110 + 6) 8 (nI k) (110 + 6) 4
        rw [hp_o' _ _ (by omega), hp_o' _ _ (by omega), hp_k _ _ (by omega), hp_k _ _ (by omega), hp_o' _ _ (by omega), hp_o' _ _ (by omega)]
        first | exact g1 | exact g2 | exact R.itv | exact R.qua | exact R.sml | exact R.rat
      · show hp (hp (hp h (0 + 10 + 1) 6 (nI k)) 110 0 0) (110 + 6) 8 (nI k) (0 + 10 + 1) 1 = hp (hp (hp h (0 + 10 + 1) 6 (nI k)) 110 0 0) (110 + 6) 8 (nI k) (110 + 6) 5
        rw [hp_o' _ _ (by omega), hp_o' _ _ (by omega), hp_k _ _ (by omega), hp_k _ _ (by omega), hp_o' _ _ (by omega), hp_o' _ _ (by omega)]
        first | exact g1 | exact g2 | exact R.itv | exact R.qua | exact R.sml | exact R.rat
      · show hp (hp (hp h (0 + 10 + 1) 6 (nI k)) 110 0 0) (110 + 6) 8 (nI k) (0 + 10 + 1) 2 = hp (hp (hp h (0 + 10 + 1) 6 (nI k)) 110 0 0) (110 + 6) 8 (nI k) (110 + 6) 6
        rw [hp_o' _ _ (by omega), hp_o' _ _ (by omega), hp_k _ _ (by omega), hp_k _ _ (by omega), hp_o' _ _ (by omega), hp_o' _ _ (by omega)]
        first | exact g1 | exact g2 | exact R.itv | exact R.qua | exact R.sml | exact R.rat
      · show hp (hp (hp h (0 + 10 + 1) 6 (nI k)) 110 0 0) (110 + 6) 8 (nI k) (0 + 10 + 1) 5 = hp (hp (hp h (0 + 10 + 1) 6 (nI k)) 110 0 0) (110 + 6) 8 (nI k) (110 + 6) 7
        rw [hp_o' _ _ (by omega), hp_o' _ _ (by omega), hp_k _ _ (by omega), hp_k _ _ (by omega), hp_o' _ _ (by omega), hp_o' _ _ (by omega)]
        first | exact g1 | exact g2 | exact R.itv | exact R.qua | exact R.sml | exact R.rat
      · show hp (hp (hp h (0 + 10 + 1) 6 (nI k)) 110 0 0) (110 + 6) 8 (nI k) (0 + 10 + 1) 6 = hp (hp (hp h (0 + 10 + 1) 6 (nI k)) 110 0 0) (110 + 6) 8 (nI k) (110 + 6) 8
        rw [hp_o' _ _ (by omega), hp_o' _ _ (by omega), hp_s, hp_s]
      · show hp (hp (hp h (0 + 10 + 1) 6 (nI k)) 110 0 0) (110 + 6) 8 (nI k) (0 + 10 + 1) 7 = hp (hp (hp h (0 + 10 + 1) 6 (nI k)) 110 0 0) (110 + 6) 8 (nI k) (110 + 6) 9
        rw [hp_o' _ _ (by omega), hp_o' _ _ (by omega), hp_k _ _ (by omega), hp_k _ _ (by omega), hp_o' _ _ (by omega), hp_o' _ _ (by omega)]
        first | exact g1 | exact g2 | exact R.itv | exact R.qua | exact R.sml | exact R.rat
      · show hp (hp (hp h (0 + 10 + 1) 6 (nI k)) 110 0 0) (110 + 6) 8 (nI k) (0 + 10 + 1) 3 = h (0 + 10 + 1) 3
        rw [hp_o' _ _ (by omega), hp_o' _ _ (by omega), hp_k _ _ (by omega)]
      · show hp (hp (hp h (0 + 10 + 1) 6 (nI k)) 110 0 0) (110 + 6) 8 (nI k) (0 + 10 + 1) 4 = h (0 + 10 + 1) 4
        rw [hp_o' _ _ (by omega), hp_o' _ _ (by omega), hp_k _ _ (by omega)]
      · show rg (hp (hp (hp h (0 + 10 + 1) 6 (nI k)) 110 0 0) (110 + 6) 8 (nI k) (110 + 6) 4) 1 99
        rw [hp_k _ _ (by omega), hp_o' _ _ (by omega), hp_o' _ _ (by omega)]
        first | exact g3 | exact g4 | exact R.i5 | exact R.i6 | exact R.i9
      · show rg (hp (hp (hp h (0 + 10 + 1) 6 (nI k)) 110 0 0) (110 + 6) 8 (nI k) (110 + 6) 5) 10 999
        rw [hp_k _ _ (by omega), hp_o' _ _ (by omega), hp_o' _ _ (by omega)]
        first | exact g3 | exact g4 | exact R.i5 | exact R.i6 | exact R.i9
      · show rg (hp (hp (hp h (0 + 10 + 1) 6 (nI k)) 110 0 0) (110 + 6) 8 (nI k) (110 + 6) 6) 50 3000
        rw [hp_k _ _ (by omega), hp_o' _ _ (by omega), hp_o' _ _ (by omega)]
        first | exact g3 | exact g4 | exact R.i5 | exact R.i6 | exact R.i9
      · show rg (hp (hp (hp h (0 + 10 + 1) 6 (nI k)) 110 0 0) (110 + 6) 8 (nI k) (110 + 6) 7) 1 60
        rw [hp_k _ _ (by omega), hp_o' _ _ (by omega), hp_o' _ _ (by omega)]
        first | exact g3 | exact g4 | exact R.i5 | exact R.i6 | exact R.i9
      · show rg (hp (hp (hp h (0 + 10 + 1) 6 (nI k)) 110 0 0) (110 + 6) 8 (nI k) (110 + 6) 9) 0 1500
        rw [hp_k _ _ (by omega), hp_o' _ _ (by omega), hp_o' _ _ (by omega)]
        first | exact g3 | exact g4 | exact R.i5 | exact R.i6 | exact R.i9
theorem settle_5 (G : GR Bd h) (hB : Bd + 1000 ≤ 5000000) (x : Int32) : Met2 (Bd + 1000) h (fun h => p_X9_settle h 0 5 x) (fun h => p_X10_settle h 110 5 x) := by
  have G0 := G
  obtain ⟨m, y, sn, n, N, nw, ol, L, R, hLS, g1, g2, g3, g4, g5, g6, g7⟩ := G
  have kl : ∀ g : Hp, p_X10_leastOf g 5 = some (0, g) := fun g => rfl
  have km : ∀ g : Hp, p_X10_mostOf g 5 = some (1500, g) := fun g => rfl
  have t4 : tbv 4 (Int32.toNatClampNeg 5) = nI 7 := rfl
  have a0 : ¬ (5 : Int32) < 0 := by decide
  have a1 : (5 : Int32) < 6 := by decide
  have a2 : ¬ (5 : Int32) < 5 := by decide
  have a3 : ib 5 6 := by decide
  have a4 : ib (nI 7) 8 := by decide
  have a5 : Int32.toNatClampNeg (nI 7) = 7 := rfl
  have a6 : ib (4 + 5) 3715 := by decide
  have a7 : Int32.toNatClampNeg (4 + 5) = 9 := rfl
  rcases rng3 x (lo := 0) (hi := 1500) (by omega) (by omega) with c | c | ⟨k, k1, k2, rfl⟩
  · refine no_m G0 hB (r := -1) ?_ ?_
    · show p_X9_settle h 0 5 x = _
      unfold p_X9_settle
      rw [if_neg a0, if_pos a1, if_pos a3, nv_eq, t4, fits_n h (r := 7) (by omega) (Or.inl c), Option.bind_some]
      rfl
    · show p_X10_settle h 110 5 x = _
      unfold p_X10_settle
      rw [nv_eq, if_neg a0, if_neg a2, kl, Option.bind_some]
      dsimp only
      rw [if_pos (show x < 0 from c)]
  · have hx : ¬ x < 0 := fun z => absurd (Int32.lt_trans c z) (by decide)
    refine no_m G0 hB (r := -1) ?_ ?_
    · show p_X9_settle h 0 5 x = _
      unfold p_X9_settle
      rw [if_neg a0, if_pos a1, if_pos a3, nv_eq, t4, fits_n h (r := 7) (by omega) (Or.inr c), Option.bind_some]
      rfl
    · show p_X10_settle h 110 5 x = _
      unfold p_X10_settle
      rw [nv_eq, if_neg a0, if_neg a2, kl, Option.bind_some]
      dsimp only
      rw [if_neg hx, km, Option.bind_some]
      dsimp only
      rw [if_neg (show ¬ x ≤ 1500 from fun z => absurd (Int32.lt_of_lt_of_le c z) (Int32.lt_irrefl))]
  · have e0 : h (0 + 10 + 1) 7 = h 116 9 := by first | exact g1 | exact g2 | exact R.itv | exact R.qua | exact R.sml | exact R.rat
    let h1 : Hp := hp h (0 + 10 + 1) 7 (nI k)
    let h2 : Hp := hp (hp h1 110 0 0) (110 + 6) 9 (nI k)
    have e1 : hp h1 110 0 0 (110 + 6) 9 = h 116 9 := by rw [hp_o' _ _ (by omega)]; exact hp_o' _ _ (by omega)
    refine ⟨h (0 + 10 + 1) 7, h1, h2, ?_, ?_, ?_⟩
    · show p_X9_settle h 0 5 (nI k) = _
      unfold p_X9_settle
      rw [if_neg a0, if_pos a1, if_pos a3, nv_eq, t4, fits_y h (r := 7) (lo := 0) (hi := 1500) (by omega) rfl rfl (by omega) k1 k2 (by omega), Option.bind_some]
      dsimp only
      rw [if_neg (by decide), if_pos a4, nv_eq, if_pos a4, nv_eq, a5]
    · show p_X10_settle h1 110 5 (nI k) = _
      unfold p_X10_settle
      rw [nv_eq, if_neg a0, if_neg a2, kl, Option.bind_some]
      dsimp only
      rw [if_neg (show ¬ nI k < 0 from nI_nlt (b := 0) k1 (by omega)), km, Option.bind_some]
      dsimp only
      rw [if_pos (show nI k ≤ 1500 from nI_le (b := 1500) k2 (by omega)), if_pos a6, nv_eq, if_pos a6, nv_eq, a7, e1, e0]
    · refine GR.bd (GR.set G0 (h' := h2) ?_ ?_ ?_ ?_ ?_ ?_ ?_ ?_ ?_ ?_ ?_ ?_ ?_ ?_ ?_ ?_) (by omega) hB
      · intro o o1 o2 o3
        show hp (hp (hp h (0 + 10 + 1) 7 (nI k)) 110 0 0) (110 + 6) 9 (nI k) o = h o
        rw [hp_n (by omega), hp_n (by omega), hp_n (by omega)]
      · intro j hj
        show hp (hp (hp h (0 + 10 + 1) 7 (nI k)) 110 0 0) (110 + 6) 9 (nI k) 110 j = h 110 j
        rw [hp_o' _ _ (by omega), hp_k _ _ hj, hp_o' _ _ (by omega)]
      · intro q hq
        show hp (hp (hp h (0 + 10 + 1) 7 (nI k)) 110 0 0) (110 + 6) 9 (nI k) 116 q = h 116 q
        rw [hp_k _ _ (by omega), hp_o' _ _ (by omega), hp_o' _ _ (by omega)]
      · show hp (hp (hp h (0 + 10 + 1) 7 (nI k)) 110 0 0) (110 + 6) 9 (nI k) (0 + 10 + 1) 0 = hp (hp (hp h (0 + 10 + 1) 7 (nI k)) 110 0 0) (110 + 6) 9 (nI k) (110 + 6) 4
        rw [hp_o' _ _ (by omega), hp_o' _ _ (by omega), hp_k _ _ (by omega), hp_k _ _ (by omega), hp_o' _ _ (by omega), hp_o' _ _ (by omega)]
        first | exact g1 | exact g2 | exact R.itv | exact R.qua | exact R.sml | exact R.rat
      · show hp (hp (hp h (0 + 10 + 1) 7 (nI k)) 110 0 0) (110 + 6) 9 (nI k) (0 + 10 + 1) 1 = hp (hp (hp h (0 + 10 + 1) 7 (nI k)) 110 0 0) (110 + 6) 9 (nI k) (110 + 6) 5
        rw [hp_o' _ _ (by omega), hp_o' _ _ (by omega), hp_k _ _ (by omega), hp_k _ _ (by omega), hp_o' _ _ (by omega), hp_o' _ _ (by omega)]
        first | exact g1 | exact g2 | exact R.itv | exact R.qua | exact R.sml | exact R.rat
      · show hp (hp (hp h (0 + 10 + 1) 7 (nI k)) 110 0 0) (110 + 6) 9 (nI k) (0 + 10 + 1) 2 = hp (hp (hp h (0 + 10 + 1) 7 (nI k)) 110 0 0) (110 + 6) 9 (nI k) (110 + 6) 6
        rw [hp_o' _ _ (by omega), hp_o' _ _ (by omega), hp_k _ _ (by omega), hp_k _ _ (by omega), hp_o' _ _ (by omega), hp_o' _ _ (by omega)]
        first | exact g1 | exact g2 | exact R.itv | exact R.qua | exact R.sml | exact R.rat
      · show hp (hp (hp h (0 + 10 + 1) 7 (nI k)) 110 0 0) (110 + 6) 9 (nI k) (0 + 10 + 1) 5 = hp (hp (hp h (0 + 10 + 1) 7 (nI k)) 110 0 0) (110 + 6) 9 (nI k) (110 + 6) 7
        rw [hp_o' _ _ (by omega), hp_o' _ _ (by omega), hp_k _ _ (by omega), hp_k _ _ (by omega), hp_o' _ _ (by omega), hp_o' _ _ (by omega)]
        first | exact g1 | exact g2 | exact R.itv | exact R.qua | exact R.sml | exact R.rat
      · show hp (hp (hp h (0 + 10 + 1) 7 (nI k)) 110 0 0) (110 + 6) 9 (nI k) (0 + 10 + 1) 6 = hp (hp (hp h (0 + 10 + 1) 7 (nI k)) 110 0 0) (110 + 6) 9 (nI k) (110 + 6) 8
        rw [hp_o' _ _ (by omega), hp_o' _ _ (by omega), hp_k _ _ (by omega), hp_k _ _ (by omega), hp_o' _ _ (by omega), hp_o' _ _ (by omega)]
        first | exact g1 | exact g2 | exact R.itv | exact R.qua | exact R.sml | exact R.rat
      · show hp (hp (hp h (0 + 10 + 1) 7 (nI k)) 110 0 0) (110 + 6) 9 (nI k) (0 + 10 + 1) 7 = hp (hp (hp h (0 + 10 + 1) 7 (nI k)) 110 0 0) (110 + 6) 9 (nI k) (110 + 6) 9
        rw [hp_o' _ _ (by omega), hp_o' _ _ (by omega), hp_s, hp_s]
      · show hp (hp (hp h (0 + 10 + 1) 7 (nI k)) 110 0 0) (110 + 6) 9 (nI k) (0 + 10 + 1) 3 = h (0 + 10 + 1) 3
        rw [hp_o' _ _ (by omega), hp_o' _ _ (by omega), hp_k _ _ (by omega)]
      · show hp (hp (hp h (0 + 10 + 1) 7 (nI k)) 110 0 0) (110 + 6) 9 (nI k) (0 + 10 + 1) 4 = h (0 + 10 + 1) 4
        rw [hp_o' _ _ (by omega), hp_o' _ _ (by omega), hp_k _ _ (by omega)]
      · show rg (hp (hp (hp h (0 + 10 + 1) 7 (nI k)) 110 0 0) (110 + 6) 9 (nI k) (110 + 6) 4) 1 99
        rw [hp_k _ _ (by omega), hp_o' _ _ (by omega), hp_o' _ _ (by omega)]
        first | exact g3 | exact g4 | exact R.i5 | exact R.i6 | exact R.i9
      · show rg (hp (hp (hp h (0 + 10 + 1) 7 (nI k)) 110 0 0) (110 + 6) 9 (nI k) (110 + 6) 5) 10 999
        rw [hp_k _ _ (by omega), hp_o' _ _ (by omega), hp_o' _ _ (by omega)]
        first | exact g3 | exact g4 | exact R.i5 | exact R.i6 | exact R.i9
      · show rg (hp (hp (hp h (0 + 10 + 1) 7 (nI k)) 110 0 0) (110 + 6) 9 (nI k) (110 + 6) 6) 50 3000
        rw [hp_k _ _ (by omega), hp_o' _ _ (by omega), hp_o' _ _ (by omega)]
        first | exact g3 | exact g4 | exact R.i5 | exact R.i6 | exact R.i9
      · show rg (hp (hp (hp h (0 + 10 + 1) 7 (nI k)) 110 0 0) (110 + 6) 9 (nI k) (110 + 6) 7) 1 60
        rw [hp_k _ _ (by omega), hp_o' _ _ (by omega), hp_o' _ _ (by omega)]
        first | exact g3 | exact g4 | exact R.i5 | exact R.i6 | exact R.i9
      · show rg (hp (hp (hp h (0 + 10 + 1) 7 (nI k)) 110 0 0) (110 + 6) 9 (nI k) (110 + 6) 9) 0 1500
        rw [hp_s]
        exact ⟨k, k1, k2, rfl⟩
theorem settle_m (G : GR Bd h) (hB : Bd + 1000 ≤ 5000000) (x1 x2 : Int32) : Met2 (Bd + 1000) h (fun h => p_X9_settle h 0 x1 x2) (fun h => p_X10_settle h 110 x1 x2) := by
  rcases rng3 x1 (lo := 0) (hi := 5) (by omega) (by omega) with c | c | ⟨k, k1, k2, rfl⟩
  · have c' : x1 < 0 := c
    refine no_m G hB (r := -1) ?_ ?_
    · show p_X9_settle h 0 x1 x2 = _
      unfold p_X9_settle
      rw [if_pos c']
    · show p_X10_settle h 110 x1 x2 = _
      unfold p_X10_settle
      rw [nv_eq, if_pos c']
  · have c' : ¬ x1 < 0 := fun z => absurd (Int32.lt_trans c z) (by decide)
    have c2 : ¬ x1 < 6 := fun z => by
      have h1 := Int32.lt_iff_toInt_lt.mp z
      have h2 := Int32.lt_iff_toInt_lt.mp c
      have h3 : (nI 5).toInt = 5 := rfl
      have h4 : (6 : Int32).toInt = 6 := rfl
      omega
    refine no_m G hB (r := -1) ?_ ?_
    · show p_X9_settle h 0 x1 x2 = _
      unfold p_X9_settle
      rw [if_neg c', if_neg c2]
    · show p_X10_settle h 110 x1 x2 = _
      unfold p_X10_settle
      rw [nv_eq, if_neg c', if_pos (show (5 : Int32) < x1 from c)]
  · rcases (show k = 0 ∨ k = 1 ∨ k = 2 ∨ k = 3 ∨ k = 4 ∨ k = 5 by omega) with rfl | rfl | rfl | rfl | rfl | rfl
    · exact settle_0 G hB x2
    · exact settle_1 G hB x2
    · exact settle_2 G hB x2
    · exact settle_3 G hB x2
    · exact settle_4 G hB x2
    · exact settle_5 G hB x2
end Qs2

