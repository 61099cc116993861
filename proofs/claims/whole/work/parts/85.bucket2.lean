/-! bucket, middle -/
section Qb
variable {Bd : Nat} {h : Hp}
theorem m_standIn (hm : Hp) {S : Nat → Int32} (t l : Int32) {n : Nat} (b : Nat) (hn : S 1 = nI n) (hn2 : n ≤ 200) : p_X10_standingIn (mt hm S t l) 110 (nI b) = some (nI (fa_cnt (sb S b) n), mt hm S t l) := by
  have hz : ∀ v : Int32, v + 0 = v := Int32.add_zero
  unfold p_X10_standingIn
  have := lp_for (b := b_X10_standingIn_4 110 (nI b)) (fun i => (mt hm S t l, nI (fa_cnt (sb S b) i), nI i)) n (nI (fa_cnt (sb S b) n), mt hm S t l) (fun K i hi => by
    unfold b_X10_standingIn_4
    dsimp +instances only
    rw [if_neg (by rw [mt_r _ _ _ _ (by omega) (by omega), hn]; exact nI_ge hi (by omega)), m_frameOf_4 hm S t l (b := i) (by omega), Option.bind_some]
    dsimp +instances only
    rw [m_frameOf_6 hm S t l (b := i) (by omega), Option.bind_some]
    dsimp +instances only
    simp only [nv_eq]
    rw [hz, nI_1, nI_1]
    by_cases c1 : S (276 + 12 * i + 4) = nI b
    · rw [if_pos c1]
      by_cases c2 : S (276 + 12 * i + 6) = 0
      · rw [if_pos c2, fa_cnt_yes (sb_t.mpr ⟨c1, c2⟩)]
      · rw [if_neg c2, fa_cnt_no (sb_f.mpr fun u => c2 u.2)]
    · rw [if_neg c1, fa_cnt_no (sb_f.mpr fun u => c1 u.1)]) (fun K => by
    unfold b_X10_standingIn_4
    dsimp +instances only
    rw [if_pos (by rw [mt_r _ _ _ _ (by omega) (by omega), hn]; exact nI_le (by omega) (by omega))]) n 0 FU (by omega) (FU_gt (by omega))
  have f0 : fa_cnt (sb S b) 0 = 0 := rfl
  rw [f0, nI_0] at this
  exact this
theorem GR.o120 (G : GR Bd h) (v : Int32) : GR Bd (hp h 120 0 v) := by
  obtain ⟨m, y, sn, n, N, nw, ol, L, R, hLS, g1, g2, g3, g4, g5, g6, g7⟩ := G
  have e : hp h 120 0 v 116 = h 116 := hp_n (by omega)
  unfold GR
  rw [e]
  refine ⟨m, y, sn, n, N, nw, ol, L, R.heap (fun o a b => hp_n (by omega)), hLS, ?_, ?_, g3, g4, ?_, ?_, g7.cong (fun o ho => hp_n (by omega)) (fun j hj => hp_o' _ _ (by omega))⟩
  · rw [hp_o' _ _ (by omega), g1]
  · rw [hp_o' _ _ (by omega), g2]
  · rw [hp_o' _ _ (by omega), g5]
  · rw [hp_o' _ _ (by omega), g6]
def MetB (Bd' : Nat) (h : Hp) (x z : Int32) : Prop := ∃ r h1 v h2, p_L_bk h 0 x z 120 = some (r, h1) ∧ p_X10_bucket h1 110 x z = some (v, h2) ∧ h2 110 0 = r ∧ (r = 0 → h2 120 0 = v) ∧ GR Bd' h2
theorem bucket_m (G : GR Bd h) (hB : Bd + 1000 ≤ 5000000) (x z : Int32) : MetB (Bd + 1000) h x z := by
  have G0 := G
  obtain ⟨m, y, sn, n, N, nw, ol, L, R, hLS, g1, g2, g3, g4, g5, g6, g7⟩ := G
  have hmy := R.my
  have hnn := R.n200
  have gt : ∀ u : Int32, GR (Bd + 1000) (hp (hp h 110 0 0) 110 0 u) := fun u => ((G0.th0 0).th0 u).bd (by omega) hB
  have bad : (x < 0 ∨ nI (m * y) ≤ x) → MetB (Bd + 1000) h x z := fun a => by
    refine ⟨1, h, 0, _, ?_, ?_, ?_, ?_, gt 1⟩
    · unfold p_L_bk p_X9_bk
      rw [hasB_out R a, Option.bind_some]
      dsimp +instances only
      rw [if_pos rfl, Option.bind_some]
      dsimp +instances only
      rw [if_neg (by decide), if_pos rfl]
    · have e := isB_out (hp h 110 0 0) (h 116 4) (h 116 7) R.i10 R.i11 a
      rw [← GR.S0] at e
      unfold p_X10_bucket
      rw [nv_eq, e, Option.bind_some]
      dsimp +instances only
      rw [if_pos rfl, nv_eq]
    · rw [hp_s]
    · exact fun u => absurd u one_nz
  rcases pk_ix x (n := m * y) (by omega) with a | a | ⟨b, hb, rfl⟩
  · exact bad (Or.inl a)
  · exact bad (Or.inr a)
  · have hb16 : b < 16 := by omega
    have bad2 : (z < 0 ∨ nI 10 < z) → MetB (Bd + 1000) h (nI b) z := fun a => by
      have nz : ∀ c : Nat, c ≤ 10 → ¬ z = nI c := fun c hc u => by
        rw [u] at a
        rcases a with a | a
        · exact nI_pos (by omega) a
        · exact nI_nlt (by omega) (by omega) a
      refine ⟨2, h, 0, _, ?_, ?_, ?_, ?_, gt 2⟩
      · have e : p_X9_bk h 0 (nI b) z = some (2, 0, h) := by
          unfold p_X9_bk
          rw [hasB_y R hb, Option.bind_some]
          dsimp +instances only
          rw [if_neg one_nz]
          by_cases c : z < 0
          · rw [if_pos c]
          · rw [if_neg c, if_neg (show ¬ z ≤ 10 from (fa_of_lt (a.resolve_left c)).2.1)]
        unfold p_L_bk
        rw [e, Option.bind_some]
        dsimp +instances only
        rw [if_neg (by decide), if_neg (by decide)]
      · have e := isB_y (hp h 110 0 0) (h 116 4) (h 116 7) R.i10 R.i11 hb hmy
        rw [← GR.S0] at e
        unfold p_X10_bucket
        rw [nv_eq, e, Option.bind_some]
        dsimp +instances only
        rw [if_neg one_nz, if_neg (show ¬ z = 0 from nz 0 (by omega)), if_neg (show ¬ z = 1 from nz 1 (by omega)), if_neg (show ¬ z = 2 from nz 2 (by omega)), if_neg (show ¬ z = 3 from nz 3 (by omega)), if_neg (show ¬ z = 4 from nz 4 (by omega)), if_neg (show ¬ z = 5 from nz 5 (by omega)), if_neg (show ¬ z = 6 from nz 6 (by omega)), if_neg (show ¬ z = 7 from nz 7 (by omega)), if_neg (show ¬ z = 8 from nz 8 (by omega)), if_neg (show ¬ z = 9 from nz 9 (by omega)), if_neg (show ¬ z = 10 from nz 10 (by omega)), nv_eq]
      · rw [hp_s]
      · exact fun u => absurd u (by decide)
    rcases rng3 z (lo := 0) (hi := 10) (by omega) (by omega) with a | a | ⟨c, _, hc, rfl⟩
    · exact bad2 (Or.inl a)
    · exact bad2 (Or.inr a)
    · have lf : ∀ v : Int32, p_X0_tell h (0 + 10 + 16 + 1 + b) (nI c) = some (v, h) → (p_X10_isBucket (hp (hp h 120 0 v) 110 0 0) 110 (nI b) = some (1, hp (hp h 120 0 v) 110 0 0) → p_X10_bucket (hp h 120 0 v) 110 (nI b) (nI c) = some (v, hp (hp h 120 0 v) 110 0 0)) → MetB (Bd + 1000) h (nI b) (nI c) := fun v aC aM => by
        refine ⟨0, hp h 120 0 v, v, _, ?_, aM ?_, ?_, ?_, ((G0.o120 v).th0 0).bd (by omega) hB⟩
        · have e : p_X9_bk h 0 (nI b) (nI c) = some (0, v, h) := by
            unfold p_X9_bk
            rw [hasB_y R hb, Option.bind_some]
            dsimp +instances only
            rw [if_neg one_nz, if_neg (nI_pos (by omega)), if_pos (show nI c ≤ 10 from nI_le (b := 10) hc (by omega)), if_pos (ib_n (by omega) (by omega)), nI_clamp (by omega), aC, Option.bind_some]
          unfold p_L_bk
          rw [e, Option.bind_some]
          dsimp +instances only
          rw [if_pos rfl]
        · have e := isB_y (hp (hp h 120 0 v) 110 0 0) (S := hp h 120 0 v 116) (hp h 120 0 v 116 4) (hp h 120 0 v 116 7) (m := m) (y := y) (b := b) (by rw [hp_n (by omega)]; exact R.i10) (by rw [hp_n (by omega)]; exact R.i11) hb hmy
          rw [← GR.S0] at e
          exact e
        · rw [hp_s]
        · intro _
          rw [hp_o' _ _ (by omega), hp_s]
      have mo : ∀ (v : Int32) (F : Hp → Option (Int32 × Hp)) (u : Int32), (∀ hm S t l, S = h 116 → F (mt hm S t l) = some (u, mt hm S t l)) → F (hp (hp h 120 0 v) 110 0 0) = some (u, hp (hp h 120 0 v) 110 0 0) := fun v F u e => by
        have := e (hp (hp h 120 0 v) 110 0 0) (hp h 120 0 v 116) (hp h 120 0 v 116 4) (hp h 120 0 v 116 7) (hp_n (by omega))
        rw [← GR.S0] at this
        exact this
      have eB : ∀ v : Int32, p_X10_isBucket (hp (hp h 120 0 v) 110 0 0) 110 (nI b) = some (1, hp (hp h 120 0 v) 110 0 0) → ∀ F : Hp → Option (Int32 × Hp), (∀ H, (if (1 : Int32) = 0 then (nv (hp H 110 0 1) fun h3 => some ((0 : Int32), h3)) else (if nI c = 0 then (Option.bind (p_X10_of H 110 (nI b) 0) fun r4 => some (r4.1, r4.2)) else if nI c = 1 then (Option.bind (p_X10_standingIn H 110 (nI b)) fun r6 => some (r6.1, r6.2)) else if nI c = 2 then (Option.bind (p_X10_of H 110 (nI b) 12) fun r8 => some (r8.1, r8.2)) else if nI c = 3 then (Option.bind (p_X10_of H 110 (nI b) 1) fun r10 => some (r10.1, r10.2)) else if nI c = 4 then (Option.bind (p_X10_of H 110 (nI b) 2) fun r12 => some (r12.1, r12.2)) else if nI c = 5 then (Option.bind (p_X10_of H 110 (nI b) 3) fun r14 => some (r14.1, r14.2)) else if nI c = 6 then (Option.bind (p_X10_of H 110 (nI b) 4) fun r16 => some (r16.1, r16.2)) else if nI c = 7 then (Option.bind (p_X10_of H 110 (nI b) 5) fun r18 => some (r18.1, r18.2)) else if nI c = 8 then (Option.bind (p_X10_of H 110 (nI b) 6) fun r20 => some (r20.1, r20.2)) else if nI c = 9 then (Option.bind (p_X10_of H 110 (nI b) 7) fun r22 => some (r22.1, r22.2)) else if nI c = 10 then (Option.bind (p_X10_of H 110 (nI b) 8) fun r24 => some (r24.1, r24.2)) else (nv (hp H 110 0 2) fun h26 => some (0, h26)))) = Option.bind (F H) fun r => some (r.1, r.2)) → F (hp (hp h 120 0 v) 110 0 0) = some (v, hp (hp h 120 0 v) 110 0 0) → p_X10_bucket (hp h 120 0 v) 110 (nI b) (nI c) = some (v, hp (hp h 120 0 v) 110 0 0) := fun v e F hF eF => by
        unfold p_X10_bucket
        rw [nv_eq, e, Option.bind_some]
        dsimp +instances only
        rw [hF, eF, Option.bind_some]
      have b12 : (if h (0 + 10 + 16 + 1 + b) 12 = 0 then some ((0 : Int32), h) else some (1, h)) = some (h 116 (68 + 13 * b + 5), h) := by
        rw [R.b12 hb16]
        rcases rg01 (R.br b hb16).2.2.2.2.1 with u | u
        · rw [if_pos u, u]
        · rw [if_neg (by rw [u]; exact one_nz), u]
      rcases (show c = 0 ∨ c = 1 ∨ c = 2 ∨ c = 3 ∨ c = 4 ∨ c = 5 ∨ c = 6 ∨ c = 7 ∨ c = 8 ∨ c = 9 ∨ c = 10 by omega) with rfl | rfl | rfl | rfl | rfl | rfl | rfl | rfl | rfl | rfl | rfl
      · exact lf (h 116 (68 + 13 * b + 0)) (by rw [← R.b0 hb16]; rfl) (fun e => eB (h 116 (68 + 13 * b + 0)) e (fun H => p_X10_of H 110 (nI b) 0) (fun H => rfl) (mo (h 116 (68 + 13 * b + 0)) (fun H => p_X10_of H 110 (nI b) 0) (h 116 (68 + 13 * b + 0)) (fun hm S t l q => by rw [← q]; exact m_of_0 hm S t l hb16)))
      · exact lf (nI (fa_cnt (sb (h 116) b) n)) (by rw [← (R.cb b hb16).2.2.1]; rfl) (fun e => eB (nI (fa_cnt (sb (h 116) b) n)) e (fun H => p_X10_standingIn H 110 (nI b)) (fun H => rfl) (mo (nI (fa_cnt (sb (h 116) b) n)) (fun H => p_X10_standingIn H 110 (nI b)) (nI (fa_cnt (sb (h 116) b) n)) (fun hm S t l q => by rw [← q]; exact m_standIn hm t l b (by rw [q]; exact R.i1) hnn)))
      · exact lf (h 116 (68 + 13 * b + 12)) (by rw [← R.b4 hb16]; rfl) (fun e => eB (h 116 (68 + 13 * b + 12)) e (fun H => p_X10_of H 110 (nI b) 12) (fun H => rfl) (mo (h 116 (68 + 13 * b + 12)) (fun H => p_X10_of H 110 (nI b) 12) (h 116 (68 + 13 * b + 12)) (fun hm S t l q => by rw [← q]; exact m_of_12 hm S t l hb16)))
      · exact lf (h 116 (68 + 13 * b + 1)) (by rw [← R.b5 hb16]; rfl) (fun e => eB (h 116 (68 + 13 * b + 1)) e (fun H => p_X10_of H 110 (nI b) 1) (fun H => rfl) (mo (h 116 (68 + 13 * b + 1)) (fun H => p_X10_of H 110 (nI b) 1) (h 116 (68 + 13 * b + 1)) (fun hm S t l q => by rw [← q]; exact m_of_1 hm S t l hb16)))
      · exact lf (h 116 (68 + 13 * b + 2)) (by rw [← R.b6 hb16]; rfl) (fun e => eB (h 116 (68 + 13 * b + 2)) e (fun H => p_X10_of H 110 (nI b) 2) (fun H => rfl) (mo (h 116 (68 + 13 * b + 2)) (fun H => p_X10_of H 110 (nI b) 2) (h 116 (68 + 13 * b + 2)) (fun hm S t l q => by rw [← q]; exact m_of_2 hm S t l hb16)))
      · exact lf (h 116 (68 + 13 * b + 3)) (by rw [← R.b7 hb16]; rfl) (fun e => eB (h 116 (68 + 13 * b + 3)) e (fun H => p_X10_of H 110 (nI b) 3) (fun H => rfl) (mo (h 116 (68 + 13 * b + 3)) (fun H => p_X10_of H 110 (nI b) 3) (h 116 (68 + 13 * b + 3)) (fun hm S t l q => by rw [← q]; exact m_of_3 hm S t l hb16)))
      · exact lf (h 116 (68 + 13 * b + 4)) (by rw [← R.b8 hb16]; rfl) (fun e => eB (h 116 (68 + 13 * b + 4)) e (fun H => p_X10_of H 110 (nI b) 4) (fun H => rfl) (mo (h 116 (68 + 13 * b + 4)) (fun H => p_X10_of H 110 (nI b) 4) (h 116 (68 + 13 * b + 4)) (fun hm S t l q => by rw [← q]; exact m_of_4 hm S t l hb16)))
      · exact lf (h 116 (68 + 13 * b + 5)) b12 (fun e => eB (h 116 (68 + 13 * b + 5)) e (fun H => p_X10_of H 110 (nI b) 5) (fun H => rfl) (mo (h 116 (68 + 13 * b + 5)) (fun H => p_X10_of H 110 (nI b) 5) (h 116 (68 + 13 * b + 5)) (fun hm S t l q => by rw [← q]; exact m_of_5 hm S t l hb16)))
      · exact lf (h 116 (68 + 13 * b + 6)) (by rw [← R.b9 hb16]; rfl) (fun e => eB (h 116 (68 + 13 * b + 6)) e (fun H => p_X10_of H 110 (nI b) 6) (fun H => rfl) (mo (h 116 (68 + 13 * b + 6)) (fun H => p_X10_of H 110 (nI b) 6) (h 116 (68 + 13 * b + 6)) (fun hm S t l q => by rw [← q]; exact m_of_6 hm S t l hb16)))
      · exact lf (h 116 (68 + 13 * b + 7)) (by rw [← R.b10 hb16]; rfl) (fun e => eB (h 116 (68 + 13 * b + 7)) e (fun H => p_X10_of H 110 (nI b) 7) (fun H => rfl) (mo (h 116 (68 + 13 * b + 7)) (fun H => p_X10_of H 110 (nI b) 7) (h 116 (68 + 13 * b + 7)) (fun hm S t l q => by rw [← q]; exact m_of_7 hm S t l hb16)))
      · exact lf (h 116 (68 + 13 * b + 8)) (by rw [← R.b11 hb16]; rfl) (fun e => eB (h 116 (68 + 13 * b + 8)) e (fun H => p_X10_of H 110 (nI b) 8) (fun H => rfl) (mo (h 116 (68 + 13 * b + 8)) (fun H => p_X10_of H 110 (nI b) 8) (h 116 (68 + 13 * b + 8)) (fun hm S t l q => by rw [← q]; exact m_of_8 hm S t l hb16)))
end Qb
