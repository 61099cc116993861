/-! reading a text, on both sides -/
section Rd
variable {h X : Hp} {ch : Nat → Nat} {len : Nat}
theorem line_sim {c O Q d T I Z A : Nat → Int32} {ln p s : Nat} {P1 P2 : List (List Nat)} (hT : ∀ j, j < len → h 2 j = nI (ch j) ∧ ch j ≤ 255) (hT2 : ∀ j, j < len → X 111 j = nI (ch j) ∧ ch j ≤ 255) (hl9 : len ≤ 900) (R : RS len ln p s P1 P2 c O Q d T I Z A) : LO h X len ln (p_X3_readLine (cH h c O Q) (0 + 1)) (p_X10_readLine (mH X d T I Z A) 110) (d 22) := by
  have R0 := R
  obtain ⟨a1, a2, a3, a4, a5, a6, a7, a8, a9, a10, a11, a12, rest⟩ := R
  by_cases k1 : c 4 = 1
  · obtain ⟨i, hi, e6, e14, e15⟩ : ∃ i, i < 13 ∧ c 6 = nI i ∧ d 14 = 0 ∧ d 15 = nI (wip i) := by
      rcases a7 with ⟨u, _⟩ | ⟨i, q1, q2, q3, q4, q5⟩ | ⟨a, _, u, _⟩ | ⟨u, _⟩ | ⟨u, _⟩
      · rw [k1] at u
        exact absurd u (by decide)
      · exact ⟨i, q1, q3, q4, q5⟩
      · rw [k1] at u
        exact absurd u (by decide)
      · rw [k1] at u
        exact absurd u (by decide)
      · rw [k1] at u
        exact absurd u (by decide)
    rcases (show i < 8 ∨ i = 8 ∨ i = 9 ∨ (10 ≤ i ∧ i ≤ 12) by omega) with u | rfl | rfl | ⟨u, v⟩
    · exact set_line hT hT2 hl9 R0 u k1 e6 e14 e15
    · exact send_line hT hT2 hl9 R0 k1 e6 e14 e15
    · exact come_line hT hT2 hl9 R0 k1 e6 e14 e15
    · exact deed_line hT hT2 hl9 R0 u v k1 e6 e14 e15
  · have k0 : ¬ d 14 = 0 := fun z => by
      rcases a7 with ⟨_, u⟩ | ⟨i, _, u, _⟩ | ⟨a, _, _, _, u, _⟩ | ⟨_, u⟩ | ⟨_, u⟩
      · rw [z] at u
        exact absurd u (by decide)
      · exact k1 u
      · rw [z] at u
        exact absurd u (by decide)
      · rw [z] at u
        exact absurd u (by decide)
      · rw [z] at u
        exact absurd u (by decide)
    have z16 : ¬ fau d 1 16 = 0 := by rw [fau_16]; decide
    refine Or.inr ⟨upd (upd c 10 1) 11 (c 5), O, Q, upd (fau d 1) 10 (fau d 1 10 + 1), T, I, Z, A, ?_, ?_, ?_, ?_, ?_, ?_⟩
    · unfold p_X3_readLine
      rw [if_neg (by rw [cH_1]; exact k1), ref_0 a11, Option.bind_some]
    · unfold p_X10_readLine
      rw [if_neg (by rw [mH_0]; exact k0), show p_X10_wrong (mH X d T I Z A) 110 1 = some (mH X (fau d 1) T I Z A) from wrg_0 a12 1, Option.bind_some, q59_f z16]
    · rw [upd_n _ _ (by omega), upd_s]
      exact one_nz
    · rw [upd_n _ _ (by omega), fau_16, upd_n _ _ (by omega), upd_s]
    · rw [upd_n _ _ (by omega), fau_17, upd_s, a5, a6]
    · rw [upd_n _ _ (by omega), fau_n _ _ (by omega) (by omega)]
def RO (h X : Hp) (len : Nat) (x y : Option Hp) (o22 : Int32) : Prop := (∃ ln p s P1 P2 c O Q d T I Z A, x = some (cH h c O Q) ∧ y = some (mH X d T I Z A) ∧ RS len ln p s P1 P2 c O Q d T I Z A ∧ d 22 = o22) ∨ FO h X x y o22
theorem lines_sim (hT : ∀ j, j < len → h 2 j = nI (ch j) ∧ ch j ≤ 255) (hT2 : ∀ j, j < len → X 111 j = nI (ch j) ∧ ch j ≤ 255) (hl9 : len ≤ 900) : ∀ (m : Nat) {c O Q d T I Z A : Nat → Int32} {ln p s : Nat} {P1 P2 : List (List Nat)}, RS len ln p s P1 P2 c O Q d T I Z A → len + 1 ≤ ln + m → ∀ M, m + 1 < M → RO h X len (lp (b_X3_read_62 (0 + 1)) M (cH h c O Q, nI ln)) (lp (b_X10_readText_28 110) M (mH X d T I Z A)) (d 22) := by
  intro m
  induction m with
  | zero =>
    intro c O Q d T I Z A ln p s P1 P2 R hm M hM
    obtain ⟨a1, a2, a3, a4, a5, a6, a7, a8, a9, a10, a11, a12, a13, a14, a15, a16, a17, rest⟩ := R
    omega
  | succ m ih =>
    intro c O Q d T I Z A ln p s P1 P2 R hm M hM
    obtain ⟨M', rfl⟩ : ∃ m', M = m' + 1 := ⟨M - 1, by omega⟩
    have R0 := R
    obtain ⟨a1, a2, a3, a4, a5, a6, a7, a8, a9, a10, a11, a12, a13, a14, a15, a16, a17, rest⟩ := R
    have k03 : c 4 = 0 ↔ d 14 = 3 := by
      rcases a7 with ⟨u1, u2⟩ | ⟨i, _, u1, _, u2, _⟩ | ⟨a, _, u1, _, u2, _⟩ | ⟨u1, u2⟩ | ⟨u1, u2⟩ <;> rw [u1, u2] <;> decide
    have C : lp (b_X3_read_62 (0 + 1)) (M' + 1) (cH h c O Q, nI ln) = if c 4 = 0 then some (cH h c O Q) else Option.bind (p_X3_readLine (cH h c O Q) (0 + 1)) fun r1 => lp (b_X3_read_62 (0 + 1)) M' (r1, nI (ln + 1)) := by
      rw [lp_s]
      generalize lp (b_X3_read_62 (0 + 1)) M' = K
      unfold b_X3_read_62
      dsimp +instances only
      rw [if_neg (by rw [cH_1, a1]; exact nI_nlt (by omega) (by omega)), cH_1, if_pos a11, nI_1]
    have Mm : lp (b_X10_readText_28 110) (M' + 1) (mH X d T I Z A) = if d 14 = 3 then some (mH X d T I Z A) else Option.bind (p_X10_readLine (mH X d T I Z A) 110) fun r1 => lp (b_X10_readText_28 110) M' r1 := by
      rw [lp_s]
      generalize lp (b_X10_readText_28 110) M' = K
      unfold b_X10_readText_28
      rw [mH_0, if_pos a12]
    by_cases z : c 4 = 0
    · refine Or.inl ⟨ln, p, s, P1, P2, c, O, Q, d, T, I, Z, A, ?_, ?_, R0, rfl⟩
      · rw [C, if_pos z]
      · rw [Mm, if_pos (k03.mp z)]
    · rw [C, if_neg z, Mm, if_neg (fun u => z (k03.mpr u))]
      rcases line_sim hT hT2 hl9 R0 with ⟨p', s', Q1, Q2, c', O', Q', d', T', I', Z', A', e1, e2, e3, e4⟩ | ⟨c', O', Q', d', T', I', Z', A', e1, e2, e3, e4, e5, e6⟩
      · rw [e1, e2, Option.bind_some, Option.bind_some, ← e4]
        exact ih e3 (by omega) M' (by omega)
      · obtain ⟨M2, rfl⟩ : ∃ m', M' = m' + 1 := ⟨M' - 1, by omega⟩
        rw [e1, e2, Option.bind_some, Option.bind_some]
        refine Or.inr ⟨c', O', Q', d', T', I', Z', A', ?_, ?_, e3, e4, e5, e6⟩
        · rw [lp_s]
          generalize lp (b_X3_read_62 (0 + 1)) M2 = K
          unfold b_X3_read_62
          dsimp +instances only
          rw [cH_1, if_neg e3]
          split
          · rfl
          · split <;> rfl
        · rw [lp_s]
          generalize lp (b_X10_readText_28 110) M2 = K
          unfold b_X10_readText_28
          rw [mH_0, if_neg (by rw [e4]; exact e3)]
/-- the reference begins a text -/
def tld : Nat → Int32 := fun j => [5, 100, 300, 40, 0, 0, 2, 2].getD j 0
theorem fresh_m (d T I Z A : Nat → Int32) : ∃ T' I', p_X10_freshText (mH X d T I Z A) 110 = some (mH X (upd (upd (upd d 6 0) 8 0) 9 0) T' I' Z A) ∧ (∀ j, j < 8 → T' j = tld j) ∧ ∀ j, j < 8 → I' j = 0 := by
  obtain ⟨T', hT'⟩ : ∃ T', T' = upd (upd (upd (upd (upd (upd (upd (upd T 0 5) 1 100) 2 300) 3 40) 4 0) 5 0) 6 2) 7 2 := ⟨_, rfl⟩
  have e : p_X10_freshText (mH X d T I Z A) 110 = lp (b_X10_freshText_64 110) FU (mH X d T' I Z A, nI 0) := by
    unfold p_X10_freshText
    rw [nv_eq, mH_w2, nv_eq, mH_w2, nv_eq, mH_w2, nv_eq, mH_w2, nv_eq, mH_w2, nv_eq, mH_w2, nv_eq, mH_w2, nv_eq, mH_w2, ← hT', nI_0]
  refine ⟨T', fa_fill (fun _ => 0) I 8, ?_, fun j hj => ?_, fun j hj => fa_fill_in hj⟩
  · rw [e]
    have := lp_for (b := b_X10_freshText_64 110) (fun i => (mH X d T' (fa_fill (fun _ => 0) I i) Z A, nI i)) 8 (mH X (upd (upd (upd d 6 0) 8 0) 9 0) T' (fa_fill (fun _ => 0) I 8) Z A) (fun K i hi => by
      unfold b_X10_freshText_64
      dsimp +instances only
      rw [if_neg (show ¬ (8 : Int32) ≤ nI i from nI_ge (b := 8) hi (by omega))]
      simp only [if_pos (show ib (nI i) 8 from ib_n hi (by omega)), nI_clamp (show i < 2 ^ 31 by omega)]
      rw [nv_eq, mH_w3, fa_fill_succ (fun _ => 0) I i, nI_1]) (fun K => by
      unfold b_X10_freshText_64
      dsimp +instances only
      rw [if_pos (show (8 : Int32) ≤ nI 8 by decide), nv_eq, mH_w0, nv_eq, mH_w0, nv_eq, mH_w0]) 8 0 FU (by omega) (FU_gt (by omega))
    rw [fa_fill_0] at this
    exact this
  · rw [hT']
    rcases (show j = 0 ∨ j = 1 ∨ j = 2 ∨ j = 3 ∨ j = 4 ∨ j = 5 ∨ j = 6 ∨ j = 7 by omega) with rfl | rfl | rfl | rfl | rfl | rfl | rfl | rfl <;> rfl
/-- a text is read -/
theorem read_sim (hT : ∀ j, j < len → h 2 j = nI (ch j) ∧ ch j ≤ 255) (hT2 : ∀ j, j < len → X 111 j = nI (ch j) ∧ ch j ≤ 255) (hl9 : len ≤ 900) : RO h X len (p_X3_read h (0 + 1) (nI len)) (p_X10_readText X 110 (nI len)) (X 110 22) := by
  obtain ⟨C, hC⟩ : ∃ C, C = upd (upd (upd (upd (upd (upd (upd (upd (upd (upd (h 1) 2 (nI len)) 3 0) 8 0) 9 0) 10 0) 11 (-1)) 12 0) 13 0) 14 0) 16 0 := ⟨_, rfl⟩
  have eC : p_X3_read h (0 + 1) (nI len) = Option.bind (p_X3_nextToken (cH h C (h 3) (h 4)) (0 + 1)) fun r12 => lp (b_X3_read_62 (0 + 1)) FU (r12, nI 0) := by
    have e0 := cH_eta h
    unfold p_X3_read
    rw [if_neg (show ¬ (900 : Int32) < nI len from nI_nlt (a := 900) hl9 (by omega))]
    conv => lhs; rw [← e0]
    simp only [nv_eq, cH_w1]
    rw [← hC, nI_0]
  obtain ⟨T', I', f1, f2, f3⟩ := fresh_m (X := X) (upd (upd (upd (upd (X 110) 11 (nI len)) 12 0) 16 0) 10 0) (X 112) (X 113) (X 114) (X 115)
  obtain ⟨D, hD⟩ : ∃ D, D = upd (upd (upd (upd (upd (upd (upd (X 110) 11 (nI len)) 12 0) 16 0) 10 0) 6 0) 8 0) 9 0 := ⟨_, rfl⟩
  rw [← hD] at f1
  have eM : p_X10_readText X 110 (nI len) = Option.bind (p_X10_token (mH X D T' I' (X 114) (X 115)) 110) fun r7 => lp (b_X10_readText_28 110) FU r7 := by
    have e0 := mH_eta X
    unfold p_X10_readText
    conv => lhs; rw [← e0]
    simp only [nv_eq, mH_w0]
    rw [f1, Option.bind_some]
  have rC : ∀ j v, C j = v ↔ C j = v := fun _ _ => Iff.rfl
  have C2 : C 2 = nI len := by rw [hC]; simp (disch := omega) only [upd_n, upd_s]
  have C3 : C 3 = nI 0 := by rw [hC]; simp (disch := omega) only [upd_n, upd_s]; rfl
  have C8 : C 8 = 0 := by rw [hC]; simp (disch := omega) only [upd_n, upd_s]
  have C9 : C 9 = 0 := by rw [hC]; simp (disch := omega) only [upd_n, upd_s]
  have C10 : C 10 = 0 := by rw [hC]; simp (disch := omega) only [upd_n, upd_s]
  have C11 : C 11 = -1 := by rw [hC]; simp (disch := omega) only [upd_n, upd_s]
  have C12 : C 12 = 0 := by rw [hC]; simp (disch := omega) only [upd_n, upd_s]
  have C13 : C 13 = 0 := by rw [hC]; simp (disch := omega) only [upd_n, upd_s]
  have C14 : C 14 = 0 := by rw [hC]; simp (disch := omega) only [upd_n, upd_s]
  have C16 : C 16 = 0 := by rw [hC]; simp (disch := omega) only [upd_n, upd_s]
  have D6 : D 6 = 0 := by rw [hD]; simp (disch := omega) only [upd_n, upd_s]
  have D8 : D 8 = 0 := by rw [hD]; simp (disch := omega) only [upd_n, upd_s]
  have D9 : D 9 = 0 := by rw [hD]; simp (disch := omega) only [upd_n, upd_s]
  have D10 : D 10 = 0 := by rw [hD]; simp (disch := omega) only [upd_n, upd_s]
  have D11 : D 11 = nI len := by rw [hD]; simp (disch := omega) only [upd_n, upd_s]
  have D12 : D 12 = nI 0 := by rw [hD]; simp (disch := omega) only [upd_n, upd_s]; rfl
  have D16 : D 16 = 0 := by rw [hD]; simp (disch := omega) only [upd_n, upd_s]
  have D22 : D 22 = X 110 22 := by rw [hD]; simp (disch := omega) only [upd_n, upd_s]
  obtain ⟨p, s, kk, vv, kk', vv', t1, t2, t3, t4, t5, t6, t7⟩ := token_sim (h := h) (X := X) (c := C) (O := h 3) (Q := h 4) (d := D) (T := T') (I := I') (Z := X 114) (A := X 115) hT hT2 hl9 C2 D11 (p0 := 0) (by omega) C3 D12
  rw [eC, eM, t1, t2, Option.bind_some, Option.bind_some, ← D22, show D 22 = md D (nI p) (nI s) kk' vv' 22 from (md_n _ _ _ _ _ (by omega)).symm]
  refine lines_sim hT hT2 hl9 (len + 1) (ln := 0) (p := p) (s := s) (P1 := []) (P2 := []) ⟨?_, ?_, ct_3 _ _ _ _ _, md_12 _ _ _ _ _, ct_5 _ _ _ _ _, md_13 _ _ _ _ _, t7, t4, t5, t6, ?_, ?_, ?_, ?_, ?_, ⟨by omega, rfl⟩, Nat.zero_le _, ?_, AL.nil _ _, ?_, AL.nil _ _, ?_, ⟨0, by omega, ?_, fun i hi => ?_⟩, fun i hi => ?_, Nat.zero_le _, ?_, ?_, fun k l hk => ?_, Nat.zero_le _, ?_, ?_, fun l hl => ?_, fun l hl => ?_⟩ (by omega) FU (FU_gt (by omega))
  · rw [ct_n _ _ _ _ _ (by omega), C2]
  · rw [md_n _ _ _ _ _ (by omega), D11]
  · rw [ct_n _ _ _ _ _ (by omega), C10]
  · rw [md_n _ _ _ _ _ (by omega), D16]
  · rw [ct_n _ _ _ _ _ (by omega), C11]
  · rw [ct_n _ _ _ _ _ (by omega), C9]
    rfl
  · rw [md_n _ _ _ _ _ (by omega), D10]
    rfl
  · rw [ct_n _ _ _ _ _ (by omega), C8]
    rfl
  · rw [md_n _ _ _ _ _ (by omega), D8]
    rfl
  · rw [ct_n _ _ _ _ _ (by omega), C16, if_pos rfl]
  · rw [ct_n _ _ _ _ _ (by omega), C12]
    rfl
  · rw [f3 _ (wip_lt hi), Nat.zero_testBit]
    rfl
  · rw [f2 _ (wip_lt hi)]
    rcases (show i = 0 ∨ i = 1 ∨ i = 2 ∨ i = 3 ∨ i = 4 ∨ i = 5 ∨ i = 6 ∨ i = 7 by omega) with rfl | rfl | rfl | rfl | rfl | rfl | rfl | rfl <;> rfl
  · rw [ct_n _ _ _ _ _ (by omega), C14]
    rfl
  · rw [md_n _ _ _ _ _ (by omega), D6]
    rfl
  · exact absurd hk (by simp [hdl])
  · rw [ct_n _ _ _ _ _ (by omega), C13]
    rfl
  · rw [md_n _ _ _ _ _ (by omega), D9]
    rfl
  · exact absurd hl (by simp)
  · exact absurd hl (by simp)
end Rd
