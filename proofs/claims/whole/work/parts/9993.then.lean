/-! the deeds of a text, on both sides -/
section Dd
variable {m y sn : Nat}
/-- served so many times -/
theorem go_many {v pc pa ix : Nat} (hv : v ≤ 60) (hpc : pc + 2 < 2 ^ 31) (hpa : pa + 1 < 900) (e : Nat) : ∀ {g : Hp} {S : Nat → Int32} {Bd n N q : Nat} {nw ol L : List Nat}, Rel true true (fun _ => 0) m y sn Bd n N 200 nw ol L g (0 + 10) S → LSt n nw ol S → q + e = v → ∃ g' S' N' nw' ol' L', (∀ (K4 : Hp × Int32 × Int32 → Option Hp) M, e < M → lp (b_X9_perform_156 K4 0 (nI pc) (nI ix) (nI 11) (nI v)) M (g, nI q) = K4 (g', nI (pc + 2), nI (ix + 1))) ∧ (∀ hm l M k2, hm 115 (pa + 1) = nI v → e < M → lp (b_X10_doesAll_95 k2 110 (nI pa) (nI 11)) M (mt hm S (g (0 + 10 + 1) 0) l, nI q) = k2 (mt hm S' (g (0 + 10 + 1) 0) l, nI (pa + 2))) ∧ Rel true true (fun _ => 0) m y sn Bd n N' 200 nw' ol' L' g' (0 + 10) S' ∧ LSt n nw' ol' S' ∧ Fr (0 + 10) g g' := by
  have ra : ∀ hm S t l, hm 115 (pa + 1) = nI v → mt hm S t l (110 + 5) (pa + 1) = nI v := fun hm S t l e => by rw [mt_n _ _ _ _ (by omega)]; exact e
  have ip : nI pa + 1 = nI (pa + 1) := nI_1 pa
  induction e with
  | zero =>
    intro g S Bd n N q nw ol L R hLS hq
    have hq' : q = v := by omega
    subst hq'
    refine ⟨g, S, N, nw, ol, L, fun K4 M hM => ?_, fun hm l M k2 hA hM => ?_, R, hLS, Fr.refl _ g⟩
    · obtain ⟨M', rfl⟩ : ∃ m', M = m' + 1 := ⟨M - 1, by omega⟩
      rw [lp_s]
      generalize lp (b_X9_perform_156 K4 0 (nI pc) (nI ix) (nI 11) (nI q)) M' = K
      unfold b_X9_perform_156
      dsimp +instances only
      rw [if_pos (nI_le (Nat.le_refl _) (by omega)), (cnt_ok (show 11 < 13 by omega) _).1, Option.bind_some]
      dsimp +instances only
      rw [nv_eq, show (1 : Int32) + nI (cntw 11) = nI 2 from rfl, nI_add, nI_1]
    · obtain ⟨M', rfl⟩ : ∃ m', M = m' + 1 := ⟨M - 1, by omega⟩
      rw [lp_s]
      generalize lp (b_X10_doesAll_95 k2 110 (nI pa) (nI 11)) M' = K
      unfold b_X10_doesAll_95
      dsimp +instances only
      rw [ip]
      simp only [if_pos (show ib (nI (pa + 1)) 900 from ib_n (by omega) (by omega)), nI_clamp (show pa + 1 < 2 ^ 31 by omega)]
      rw [ra _ _ _ _ hA, if_pos (nI_le (Nat.le_refl _) (by omega)), show nI pa + 2 = nI (pa + 2) from nI_add pa 2]
  | succ e ih =>
    intro g S Bd n N q nw ol L R hLS hq
    obtain ⟨h1, S1, L1, nw1, ol1, N1, r, aC, aM, R1, hLS1, aF, a10, a12, a17, aO⟩ := serve_sim R hLS
    obtain ⟨g', S', N', nw', ol', L', i1, i2, i3, i4, i5⟩ := ih (q := q + 1) R1 hLS1 (by omega)
    have hT : h1 (0 + 10 + 1) 0 = g (0 + 10 + 1) 0 := aF.2 0
    refine ⟨g', S', N', nw', ol', L', fun K4 M hM => ?_, fun hm l M k2 hA hM => ?_, i3, i4, aF.trans i5⟩
    · obtain ⟨M', rfl⟩ : ∃ m', M = m' + 1 := ⟨M - 1, by omega⟩
      rw [← i1 K4 M' (by omega), lp_s]
      generalize lp (b_X9_perform_156 K4 0 (nI pc) (nI ix) (nI 11) (nI v)) M' = K
      unfold b_X9_perform_156
      dsimp +instances only
      rw [if_neg (nI_ge (by omega) (by omega)), aC, Option.bind_some, nI_1]
    · obtain ⟨M', rfl⟩ : ∃ m', M = m' + 1 := ⟨M - 1, by omega⟩
      have := i2 hm l M' k2 hA (by omega)
      rw [hT] at this
      rw [← this, lp_s]
      generalize lp (b_X10_doesAll_95 k2 110 (nI pa) (nI 11)) M' = K
      unfold b_X10_doesAll_95
      dsimp +instances only
      rw [ip]
      simp only [if_pos (show ib (nI (pa + 1)) 900 from ib_n (by omega) (by omega)), nI_clamp (show pa + 1 < 2 ^ 31 by omega)]
      rw [ra _ _ _ _ hA, if_neg (nI_ge (by omega) (by omega)), if_neg (by decide), if_pos (show nI 11 = 11 from rfl), aM hm _ l (Or.inl rfl), Option.bind_some, nI_1]
/-- so many ticks -/
theorem run_many {v pc pa ix : Nat} (hv : v ≤ 200) (hpc : pc + 2 < 2 ^ 31) (hpa : pa + 1 < 900) (e : Nat) : ∀ {g : Hp} {S : Nat → Int32} {Bd n N q : Nat} {nw ol L : List Nat}, Rel true true (fun _ => 0) m y sn Bd n N 200 nw ol L g (0 + 10) S → LSt n nw ol S → q + e = v → Bd + e ≤ 5000000 → ∃ g' S' n' N' nw' ol' L', (∀ (K4 : Hp × Int32 × Int32 → Option Hp) M, e < M → lp (b_X9_perform_189 K4 0 (nI pc) (nI ix) (nI 12) (nI v)) M (g, nI q) = K4 (g', nI (pc + 2), nI (ix + 1))) ∧ (∀ hm M k2, hm 115 (pa + 1) = nI v → hm 110 22 = -2 → e < M → lp (b_X10_doesAll_95 k2 110 (nI pa) (nI 12)) M (mt hm S (g (0 + 10 + 1) 0) (g (0 + 10 + 1) 5), nI q) = k2 (mt hm S' (g (0 + 10 + 1) 0) (g (0 + 10 + 1) 5), nI (pa + 2))) ∧ Rel true true (fun _ => 0) m y sn (Bd + e) n' N' 200 nw' ol' L' g' (0 + 10) S' ∧ LSt n' nw' ol' S' ∧ Fr (0 + 10) g g' := by
  have ra : ∀ hm S t l, hm 115 (pa + 1) = nI v → mt hm S t l (110 + 5) (pa + 1) = nI v := fun hm S t l e => by rw [mt_n _ _ _ _ (by omega)]; exact e
  have ip : nI pa + 1 = nI (pa + 1) := nI_1 pa
  induction e with
  | zero =>
    intro g S Bd n N q nw ol L R hLS hq _
    have hq' : q = v := by omega
    subst hq'
    refine ⟨g, S, n, N, nw, ol, L, fun K4 M hM => ?_, fun hm M k2 hA _ hM => ?_, R, hLS, Fr.refl _ g⟩
    · obtain ⟨M', rfl⟩ : ∃ m', M = m' + 1 := ⟨M - 1, by omega⟩
      rw [lp_s]
      generalize lp (b_X9_perform_189 K4 0 (nI pc) (nI ix) (nI 12) (nI q)) M' = K
      unfold b_X9_perform_189
      dsimp +instances only
      rw [if_pos (nI_le (Nat.le_refl _) (by omega)), (cnt_ok (show 12 < 13 by omega) _).1, Option.bind_some]
      dsimp +instances only
      rw [nv_eq, show (1 : Int32) + nI (cntw 12) = nI 2 from rfl, nI_add, nI_1]
    · obtain ⟨M', rfl⟩ : ∃ m', M = m' + 1 := ⟨M - 1, by omega⟩
      rw [lp_s]
      generalize lp (b_X10_doesAll_95 k2 110 (nI pa) (nI 12)) M' = K
      unfold b_X10_doesAll_95
      dsimp +instances only
      rw [ip]
      simp only [if_pos (show ib (nI (pa + 1)) 900 from ib_n (by omega) (by omega)), nI_clamp (show pa + 1 < 2 ^ 31 by omega)]
      rw [ra _ _ _ _ hA, if_pos (nI_le (Nat.le_refl _) (by omega)), show nI pa + 2 = nI (pa + 2) from nI_add pa 2]
  | succ e ih =>
    intro g S Bd n N q nw ol L R hLS hq hB
    obtain ⟨h1, S1, n1, L1, nw1, ol1, N1, aC, aM, R1, hLS1, aF, a12, aP⟩ := tick_sim R hLS (fun _ _ => rfl) (by omega)
    obtain ⟨g', S', n', N', nw', ol', L', i1, i2, i3, i4, i5⟩ := ih (q := q + 1) R1 hLS1 (by omega) (by omega)
    have hT : h1 (0 + 10 + 1) 0 = g (0 + 10 + 1) 0 := aF.2 0
    have hC : h1 (0 + 10 + 1) 5 = g (0 + 10 + 1) 5 := aF.2 5
    refine ⟨g', S', n', N', nw', ol', L', fun K4 M hM => ?_, fun hm M k2 hA ho hM => ?_, by rw [show Bd + (e + 1) = Bd + 1 + e by omega]; exact i3, i4, aF.trans i5⟩
    · obtain ⟨M', rfl⟩ : ∃ m', M = m' + 1 := ⟨M - 1, by omega⟩
      rw [← i1 K4 M' (by omega), lp_s]
      generalize lp (b_X9_perform_189 K4 0 (nI pc) (nI ix) (nI 12) (nI v)) M' = K
      unfold b_X9_perform_189
      dsimp +instances only
      rw [if_neg (nI_ge (by omega) (by omega)), aC, Option.bind_some, nI_1]
    · obtain ⟨M', rfl⟩ : ∃ m', M = m' + 1 := ⟨M - 1, by omega⟩
      have := i2 hm M' k2 hA ho (by omega)
      rw [hT, hC] at this
      rw [← this, lp_s]
      generalize lp (b_X10_doesAll_95 k2 110 (nI pa) (nI 12)) M' = K
      unfold b_X10_doesAll_95
      dsimp +instances only
      rw [ip]
      simp only [if_pos (show ib (nI (pa + 1)) 900 from ib_n (by omega) (by omega)), nI_clamp (show pa + 1 < 2 ^ 31 by omega)]
      rw [ra _ _ _ _ hA, if_neg (nI_ge (by omega) (by omega)), if_neg (by decide), if_neg (by decide), aM hm _ _ ho (Or.inl rfl) (Or.inl rfl), Option.bind_some, nI_1]
end Dd
