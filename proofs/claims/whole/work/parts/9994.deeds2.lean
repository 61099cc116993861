/-! all the deeds of a text -/
section De
variable {m y sn tot : Nat} {O A : Nat → Int32} {Lx La : List Nat}
theorem seg2 {pre l rest : List Nat} {j : Nat} (hj : j < l.length) : (pre ++ (l ++ rest))[pre.length + j]? = l[j]? := by
  rw [List.getElem?_append_right (by omega), show pre.length + j - pre.length = j by omega, List.getElem?_append_left hj]
theorem pf2 (hLx : Lx.length ≤ 900) (hLa : La.length ≤ 900) (hO : AL O 0 Lx) (hA : AL A 0 La) (ht : tot < 2 ^ 30) (Pb : List (List Nat)) : ∀ (pre prea : List Nat) (ix : Nat) {g : Hp} {S : Nat → Int32} {Bd n N : Nat} {nw ol L : List Nat}, Lx = pre ++ Pb.flatten → La = prea ++ Pb.flatten → ix + Pb.length = tot → g (0 + 1) 9 = nI tot → g (0 + 1) 8 = nI Lx.length → g (0 + 1 + 2) = O → Rel true true (fun _ => 0) m y sn Bd n N 200 nw ol L g (0 + 10) S → LSt n nw ol S → Bd + 1000 * Pb.length ≤ 5000000 → (∀ l ∈ Pb, okC l ∨ okD l) → ∃ g' S' Bd' n' N' nw' ol' L', Bd' ≤ Bd + 1000 * Pb.length ∧ (∀ M, Pb.length < M → lp (b_X9_perform_4 0) M (g, nI pre.length, nI ix) = some g') ∧ (∀ hm M, hm 115 = A → hm 110 8 = nI La.length → hm 110 22 = -2 → Pb.length < M → lp (b_X10_doesAll_2 110) M (mt hm S (g (0 + 10 + 1) 0) (g (0 + 10 + 1) 5), nI prea.length) = some (mt hm S' (g (0 + 10 + 1) 0) (g (0 + 10 + 1) 5))) ∧ Rel true true (fun _ => 0) m y sn Bd' n' N' 200 nw' ol' L' g' (0 + 10) S' ∧ LSt n' nw' ol' S' ∧ Fr (0 + 10) g g' := by
  induction Pb with
  | nil =>
    intro pre prea ix g S Bd n N nw ol L eX eA hix g9 g8 gO R hLS hB hok
    rw [List.flatten_nil, List.append_nil] at eX eA
    refine ⟨g, S, Bd, n, N, nw, ol, L, by omega, fun M hM => ?_, fun hm M h1 h2 h3 hM => ?_, R, hLS, Fr.refl _ g⟩
    · obtain ⟨M', rfl⟩ : ∃ m', M = m' + 1 := ⟨M - 1, by omega⟩
      rw [List.length_nil] at hix
      rw [lp_s]
      unfold b_X9_perform_4
      dsimp +instances only
      rw [if_pos (by rw [g9]; exact nI_le (by omega) (by omega))]
    · obtain ⟨M', rfl⟩ : ∃ m', M = m' + 1 := ⟨M - 1, by omega⟩
      rw [lp_s]
      unfold b_X10_doesAll_2
      dsimp +instances only
      rw [if_pos (by rw [mt_n _ _ _ _ (by omega), h2, eA]; exact nI_le (Nat.le_refl _) (by rw [eA] at hLa; omega))]
  | cons l Pb ih =>
    intro pre prea ix g S Bd n N nw ol L eX eA hix g9 g8 gO R hLS hB hok
    rw [List.flatten_cons] at eX eA
    rw [List.length_cons] at hix hB ⊢
    have lX : pre.length + l.length ≤ 900 := by
      have := congrArg List.length eX
      rw [List.length_append, List.length_append] at this
      omega
    have lA : prea.length + l.length ≤ La.length := by
      have := congrArg List.length eA
      rw [List.length_append, List.length_append] at this
      omega
    have hnn := R.n200
    have hB1 : Bd + 1000 ≤ 5000000 := Nat.le_trans (Nat.add_le_add_left (Nat.le_mul_of_pos_right 1000 (Nat.succ_pos Pb.length)) Bd) hB
    have oa : ∀ (g1 : Hp), g1 (0 + 1) 8 = nI Lx.length → g1 (0 + 1 + 2) = O → ∀ j x, l[j]? = some x → p_X3_orderAt g1 (0 + 1) (nI (pre.length + j)) = some (nI x, g1) := fun g1 h1 h2 j x hx => by
      refine ord_at h1 h2 hO hLx ?_
      rw [eX, seg2 (List.getElem?_eq_some_iff.mp hx).1]
      exact hx
    have aa : ∀ (hm : Hp) S t l0, hm 115 = A → ∀ j x, l[j]? = some x → mt hm S t l0 (110 + 5) (prea.length + j) = nI x := fun hm S t l0 h1 j x hx => by
      rw [mt_n _ _ _ _ (by omega)]
      show hm 115 (prea.length + j) = nI x
      rw [h1]
      have := hA (prea.length + j) x (by rw [eA, seg2 (List.getElem?_eq_some_iff.mp hx).1]; exact hx)
      rw [Nat.zero_add] at this
      exact this
    have fin : ∀ {g1 : Hp} {S1 : Nat → Int32} {Bd1 n1 N1 : Nat} {nw1 ol1 L1 : List Nat}, Bd1 ≤ Bd + 1000 → (∀ K : Hp × Int32 × Int32 → Option Hp, b_X9_perform_4 0 K (g, nI pre.length, nI ix) = K (g1, nI (pre.length + l.length), nI (ix + 1))) → (∀ hm k2, hm 115 = A → hm 110 8 = nI La.length → hm 110 22 = -2 → b_X10_doesAll_2 110 k2 (mt hm S (g (0 + 10 + 1) 0) (g (0 + 10 + 1) 5), nI prea.length) = k2 (mt hm S1 (g (0 + 10 + 1) 0) (g (0 + 10 + 1) 5), nI (prea.length + l.length))) → Rel true true (fun _ => 0) m y sn Bd1 n1 N1 200 nw1 ol1 L1 g1 (0 + 10) S1 → LSt n1 nw1 ol1 S1 → Fr (0 + 10) g g1 → ∃ g' S' Bd' n' N' nw' ol' L', Bd' ≤ Bd + 1000 * (Pb.length + 1) ∧ (∀ M, Pb.length + 1 < M → lp (b_X9_perform_4 0) M (g, nI pre.length, nI ix) = some g') ∧ (∀ hm M, hm 115 = A → hm 110 8 = nI La.length → hm 110 22 = -2 → Pb.length + 1 < M → lp (b_X10_doesAll_2 110) M (mt hm S (g (0 + 10 + 1) 0) (g (0 + 10 + 1) 5), nI prea.length) = some (mt hm S' (g (0 + 10 + 1) 0) (g (0 + 10 + 1) 5))) ∧ Rel true true (fun _ => 0) m y sn Bd' n' N' 200 nw' ol' L' g' (0 + 10) S' ∧ LSt n' nw' ol' S' ∧ Fr (0 + 10) g g' := fun {g1 S1 Bd1 n1 N1 nw1 ol1 L1} hb1 sC sM R1 hLS1 F1 => by
      obtain ⟨g', S', Bd', n', N', nw', ol', L', i0, i1, i2, i3, i4, i5⟩ := ih (pre ++ l) (prea ++ l) (ix + 1) (by rw [eX, List.append_assoc]) (by rw [eA, List.append_assoc]) (by omega) (by rw [F1.1 _ (by omega), g9]) (by rw [F1.1 _ (by omega), g8]) (by rw [F1.1 _ (by omega), gO]) R1 hLS1 (by omega) (fun l' hl' => hok l' (List.mem_cons_of_mem _ hl'))
      rw [F1.2 0, F1.2 5] at i2
      rw [List.length_append] at i1 i2
      refine ⟨g', S', Bd', n', N', nw', ol', L', by omega, fun M hM => ?_, fun hm M h1 h2 h3 hM => ?_, i3, i4, F1.trans i5⟩
      · obtain ⟨M', rfl⟩ : ∃ m', M = m' + 1 := ⟨M - 1, by omega⟩
        rw [lp_s, sC]
        exact i1 M' (by omega)
      · obtain ⟨M', rfl⟩ : ∃ m', M = m' + 1 := ⟨M - 1, by omega⟩
        rw [lp_s, sM hm _ h1 h2 h3]
        exact i2 hm M' h1 h2 h3 (by omega)
    have go : ∀ (i v : Nat), l[0]? = some i → l[1]? = some v → ∀ K : Hp × Int32 × Int32 → Option Hp, 8 ≤ i → i < 13 → b_X9_perform_4 0 K (g, nI pre.length, nI ix) = q_X9_perform_60 K g 0 (nI pre.length) (nI ix) (nI i) (nI v) := fun i v h0 h1 K h8 hi => by
      have o0 := oa g g8 gO 0 i h0
      have o1 := oa g g8 gO 1 v h1
      rw [show pre.length + 0 = pre.length from rfl] at o0
      unfold b_X9_perform_4
      dsimp +instances only
      rw [if_neg (by rw [g9]; exact nI_ge (by omega) (by omega)), o0, Option.bind_some]
      dsimp +instances only
      rw [nI_1, o1, Option.bind_some]
      dsimp +instances only
      rw [if_neg (nI_pos (by omega)), if_pos (show (8 : Int32) ≤ nI i from nI_le (a := 8) (by omega) (by omega))]
    have gom : ∀ (i : Nat), l[0]? = some i → i < 13 → ∀ (hm : Hp) k2, hm 115 = A → hm 110 8 = nI La.length → b_X10_doesAll_2 110 k2 (mt hm S (g (0 + 10 + 1) 0) (g (0 + 10 + 1) 5), nI prea.length) = (nv (nI i) fun v5 => if v5 = 9 then (if 200 ≤ (mt hm S (g (0 + 10 + 1) 0) (g (0 + 10 + 1) 5) (110 + 6) 1) then (k2 (mt hm S (g (0 + 10 + 1) 0) (g (0 + 10 + 1) 5), nI (prea.length + 4))) else (if ib (nI (prea.length + 1)) 900 then (if ib (nI (prea.length + 2)) 900 then (if ib (nI (prea.length + 3)) 900 then (Option.bind (p_X10_comesIn (mt hm S (g (0 + 10 + 1) 0) (g (0 + 10 + 1) 5)) 110 (mt hm S (g (0 + 10 + 1) 0) (g (0 + 10 + 1) 5) (110 + 5) (Int32.toNatClampNeg (nI (prea.length + 1)))) (mt hm S (g (0 + 10 + 1) 0) (g (0 + 10 + 1) 5) (110 + 5) (Int32.toNatClampNeg (nI (prea.length + 2)))) (mt hm S (g (0 + 10 + 1) 0) (g (0 + 10 + 1) 5) (110 + 5) (Int32.toNatClampNeg (nI (prea.length + 3))))) fun r9 => k2 (r9.2, nI (prea.length + 4))) else none) else none) else none)) else (if v5 = 10 then (if ib (nI (prea.length + 1)) 900 then (nv (hp (mt hm S (g (0 + 10 + 1) 0) (g (0 + 10 + 1) 5)) (110 + 6) 0 ((mt hm S (g (0 + 10 + 1) 0) (g (0 + 10 + 1) 5) (110 + 6) 0) + (mt hm S (g (0 + 10 + 1) 0) (g (0 + 10 + 1) 5) (110 + 5) (Int32.toNatClampNeg (nI (prea.length + 1)))))) fun h11 => lp (b_X10_doesAll_95 k2 110 (nI prea.length) v5) FU (h11, 0)) else none) else (lp (b_X10_doesAll_95 k2 110 (nI prea.length) v5) FU (mt hm S (g (0 + 10 + 1) 0) (g (0 + 10 + 1) 5), 0)))) := fun i h0 hi hm k2 h1 h2 => by
      have a0 := aa hm S (g (0 + 10 + 1) 0) (g (0 + 10 + 1) 5) h1 0 i h0
      have hl0 : 0 < l.length := (List.getElem?_eq_some_iff.mp h0).1
      rw [show prea.length + 0 = prea.length from rfl] at a0
      unfold b_X10_doesAll_2
      dsimp +instances only
      rw [if_neg (by rw [mt_n _ _ _ _ (by omega), h2]; exact nI_ge (by omega) (by omega)), if_pos (ib_n (by omega) (by omega)), nI_clamp (by omega), a0, nI_1, show nI prea.length + 2 = nI (prea.length + 2) from nI_add _ 2, show nI prea.length + 3 = nI (prea.length + 3) from nI_add _ 3, show nI prea.length + 4 = nI (prea.length + 4) from nI_add _ 4]
    rcases hok l List.mem_cons_self with ⟨k, x, mm, hk, hx1, hx2, hmm, el⟩ | ⟨j, v, j1, j2, v1, v2, el⟩
    · subst el
      have o2 := oa g g8 gO 2 x rfl
      have o3 := oa g g8 gO 3 mm rfl
      have l4 : ([9, k, x, mm] : List Nat).length = 4 := rfl
      have qC : ∀ K : Hp × Int32 × Int32 → Option Hp, ∀ r g1, p_X8_arrive g (0 + 10) (nI k) (nI x) (nI mm) (-2) = some (r, g1) → b_X9_perform_4 0 K (g, nI pre.length, nI ix) = K (g1, nI (pre.length + 4), nI (ix + 1)) := fun K r g1 e => by
        rw [go 9 k rfl rfl K (by omega) (by omega)]
        unfold q_X9_perform_60
        rw [if_neg (by decide), if_pos (show nI 9 = 9 from rfl), show nI pre.length + 2 = nI (pre.length + 2) from nI_add _ 2, o2, Option.bind_some]
        dsimp +instances only
        rw [show nI pre.length + 3 = nI (pre.length + 3) from nI_add _ 3, o3, Option.bind_some]
        dsimp +instances only
        rw [e, Option.bind_some]
        dsimp +instances only
        rw [(cnt_ok (show 9 < 13 by omega) _).1, Option.bind_some]
        dsimp +instances only
        rw [nv_eq, show (1 : Int32) + nI (cntw 9) = nI 4 from rfl, nI_add, nI_1]
      by_cases n2 : n < 200
      · obtain ⟨h1, S1, L1, nw1, ol1, aC, aM, R1, hLS1, aF, _⟩ := arrive_sim (ow := -2) R hLS n2 hk hx1 hx2 hmm (Or.inl rfl)
        refine fin (Bd1 := Bd) (by omega) (fun K => qC K _ _ aC) (fun hm k2 q1 q2 q3 => ?_) R1 hLS1 aF
        rw [gom 9 rfl (by omega) hm k2 q1 q2, nv_eq, if_pos (show nI 9 = 9 from rfl), if_neg (by rw [mt_r _ _ _ _ (by omega) (by omega), R.i1]; exact nI_ge (b := 200) n2 (by omega))]
        simp only [if_pos (show ib (nI (prea.length + 1)) 900 from ib_n (by omega) (by omega)), if_pos (show ib (nI (prea.length + 2)) 900 from ib_n (by omega) (by omega)), if_pos (show ib (nI (prea.length + 3)) 900 from ib_n (by omega) (by omega)), nI_clamp (show prea.length + 1 < 2 ^ 31 by omega), nI_clamp (show prea.length + 2 < 2 ^ 31 by omega), nI_clamp (show prea.length + 3 < 2 ^ 31 by omega)]
        rw [aa hm _ _ _ q1 1 k rfl, aa hm _ _ _ q1 2 x rfl, aa hm _ _ _ q1 3 mm rfl, aM hm _ _ q3 (Or.inl rfl), Option.bind_some]
        rfl
      · refine fin (Bd1 := Bd) (by omega) (fun K => qC K _ _ (arrive_full R (by omega) hk _ _ _)) (fun hm k2 q1 q2 q3 => ?_) R hLS (Fr.refl _ g)
        rw [gom 9 rfl (by omega) hm k2 q1 q2, nv_eq, if_pos (show nI 9 = 9 from rfl), if_pos (by rw [mt_r _ _ _ _ (by omega) (by omega), R.i1]; exact nI_le (a := 200) (by omega) (by omega))]
        rfl
    · subst el
      have l2 : ([j, v] : List Nat).length = 2 := rfl
      have v999 : v ≤ 999 := by
        rcases (show j = 10 ∨ j = 11 ∨ j = 12 by omega) with rfl | rfl | rfl
        · exact v2
        · have : v ≤ 60 := v2
          omega
        · have : v ≤ 200 := v2
          omega
      rcases (show j = 10 ∨ j = 11 ∨ j = 12 by omega) with rfl | rfl | rfl
      · clear v2
        have hN := R.N5
        have hNb := R.ep.2.2.2.2.2.2.2.2.1
        have R1 := R.time (N' := N + v) (Bd' := Bd + 1000) (Nat.le_refl _) (by omega) (by omega) hB1
        refine fin (g1 := hp g (0 + 10) 7 (nI (N + v))) (S1 := upd S 0 (nI (N + v))) (Bd1 := Bd + 1000) (Nat.le_refl _) (fun K => ?_) (fun hm k2 q1 q2 q3 => ?_) R1 (fun b f hb hf u => hLS b f hb hf (by rw [sb_cong (S := S) (upd_n _ _ (by omega)) (upd_n _ _ (by omega))] at u; exact u)) (Fr.hp _ _ _ (Nat.le_refl _) (by omega) (by omega))
        · rw [go 10 v rfl rfl K (by omega) (by omega)]
          unfold q_X9_perform_60
          rw [if_neg (by decide), if_neg (by decide), if_pos (show nI 10 = 10 from rfl), R.now, R.i0, nI_add, nv_eq, (cnt_ok (show 10 < 13 by omega) _).1, Option.bind_some]
          dsimp +instances only
          rw [nv_eq, show (1 : Int32) + nI (cntw 10) = nI 2 from rfl, nI_add, nI_1]
          rfl
        · obtain ⟨F, hF⟩ : ∃ F, FU = F + 1 := ⟨FU - 1, by have := FU_gt (k := 1) (by omega); omega⟩
          rw [gom 10 rfl (by omega) hm k2 q1 q2, nv_eq, if_neg (by decide), if_pos (show nI 10 = 10 from rfl)]
          simp only [if_pos (show ib (nI (prea.length + 1)) 900 from ib_n (by omega) (by omega)), nI_clamp (show prea.length + 1 < 2 ^ 31 by omega)]
          rw [aa hm _ _ _ q1 1 v rfl, mt_r _ _ _ _ (by omega) (by omega), R.i0, nI_add, nv_eq, mt_hp _ _ _ _ _ (by omega) (by omega), hF, lp_s]
          generalize lp (b_X10_doesAll_95 k2 110 (nI prea.length) (nI 10)) F = K
          unfold b_X10_doesAll_95
          dsimp +instances only
          rw [nI_1]
          simp only [if_pos (show ib (nI (prea.length + 1)) 900 from ib_n (by omega) (by omega)), nI_clamp (show prea.length + 1 < 2 ^ 31 by omega)]
          rw [aa hm _ _ _ q1 1 v rfl, if_neg (nI_nle (by omega) (by omega)), if_pos (by decide), show nI prea.length + 2 = nI (prea.length + 2) from nI_add _ 2]
          rfl
      · obtain ⟨g1, S1, N1, nw1, ol1, L1, i1, i2, i3, i4, i5⟩ := go_many (v := v) (pc := pre.length) (pa := prea.length) (ix := ix) v2 (by omega) (by omega) v (q := 0) R hLS (by omega)
        refine fin (Bd1 := Bd) (by omega) (fun K => ?_) (fun hm k2 q1 q2 q3 => ?_) i3 i4 i5
        · rw [go 11 v rfl rfl K (by omega) (by omega)]
          unfold q_X9_perform_60
          rw [if_neg (by decide), if_neg (by decide), if_neg (by decide), if_pos (show nI 11 = 11 from rfl)]
          have := i1 K FU (FU_gt (by omega))
          rw [nI_0] at this
          exact this
        · rw [gom 11 rfl (by omega) hm k2 q1 q2, nv_eq, if_neg (by decide), if_neg (by decide)]
          have := i2 hm (g (0 + 10 + 1) 5) FU k2 (by have := aa hm S 0 0 q1 1 v rfl; rw [mt_n _ _ _ _ (by omega)] at this; exact this) (FU_gt (by omega))
          rw [nI_0] at this
          exact this
      · obtain ⟨g1, S1, n1, N1, nw1, ol1, L1, i1, i2, i3, i4, i5⟩ := run_many (v := v) (pc := pre.length) (pa := prea.length) (ix := ix) v2 (by omega) (by omega) v (q := 0) R hLS (by omega) (by omega)
        refine fin (Bd1 := Bd + v) (by omega) (fun K => ?_) (fun hm k2 q1 q2 q3 => ?_) i3 i4 i5
        · rw [go 12 v rfl rfl K (by omega) (by omega)]
          unfold q_X9_perform_60
          rw [if_neg (by decide), if_neg (by decide), if_neg (by decide), if_neg (by decide), if_pos (show nI 12 = 12 from rfl)]
          have := i1 K FU (FU_gt (by omega))
          rw [nI_0] at this
          exact this
        · rw [gom 12 rfl (by omega) hm k2 q1 q2, nv_eq, if_neg (by decide), if_neg (by decide)]
          have := i2 hm FU k2 (by have := aa hm S 0 0 q1 1 v rfl; rw [mt_n _ _ _ _ (by omega)] at this; exact this) q3 (FU_gt (by omega))
          rw [nI_0] at this
          exact this
end De
