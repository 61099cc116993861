/-! what a bucket's keeper gives out -/
def Kc (w n : Nat) (h : Hp) (S : Nat → Int32) (h' : Hp) (S' : Nat → Int32) : Prop := Fr w h h' ∧ h' w 10 = h w 10 ∧ h' w 12 ≤ h w 12 ∧ (∀ b', b' < 16 → S' (68 + 13 * b' + 1) = S (68 + 13 * b' + 1)) ∧ fa_cnt (sd S') n ≤ fa_cnt (sd S) n ∧ (∀ b' g, g < n → sb S' b' g = true → sb S b' g = true) ∧ S' 17 = S 17
theorem Kc.refl (w n : Nat) (h : Hp) (S : Nat → Int32) : Kc w n h S h S := ⟨Fr.refl w h, rfl, Int32.le_refl _, fun _ _ => rfl, Nat.le_refl _, fun _ _ _ u => u, rfl⟩
theorem Kc.trans {w n : Nat} {h h1 h2 : Hp} {S S1 S2 : Nat → Int32} (a : Kc w n h S h1 S1) (b : Kc w n h1 S1 h2 S2) : Kc w n h S h2 S2 := ⟨a.1.trans b.1, b.2.1.trans a.2.1, Int32.le_trans b.2.2.1 a.2.2.1, fun b' hb' => (b.2.2.2.1 b' hb').trans (a.2.2.2.1 b' hb'), Nat.le_trans b.2.2.2.2.1 a.2.2.2.2.1, fun b' g hg u => a.2.2.2.2.2.1 b' g hg (b.2.2.2.2.2.1 b' g hg u), b.2.2.2.2.2.2.trans a.2.2.2.2.2.2⟩
theorem Kc.bk (w n : Nat) (h : Hp) (S : Nat → Int32) {b c j : Nat} (v v' : Int32) (hb : b < 16) (hc : c < 13) (hc1 : c ≠ 1) (hn : n ≤ 200) : Kc w n h S (hp h (w + 16 + 1 + b) j v) (upd S (68 + 13 * b + c) v') := by
  refine ⟨Fr.hp _ _ _ (by omega) (by omega) (by omega), hp_o' _ _ (by omega), ?_, fun b' hb' => upd_n _ _ (by omega), ?_, fun b' g hg u => ?_, upd_n _ _ (by omega)⟩
  · rw [hp_o' _ _ (by omega)]
    exact Int32.le_refl _
  · rw [fa_cnt_cong (p := sd (upd S (68 + 13 * b + c) v')) (q := sd S) (fun k hk => by unfold sd; rw [upd_n _ _ (by omega)])]
    exact Nat.le_refl _
  · rw [sb_cong (S := S) (upd_n _ _ (by omega)) (upd_n _ _ (by omega))] at u
    exact u
section Kp
variable {bg rl : Bool} {tb : Nat → Int32} {m y sn Bd n N tk : Nat} {nw ol L : List Nat} {h : Hp} {w : Nat} {S : Nat → Int32}
theorem law_sim (R : Rel bg rl tb m y sn Bd n N tk nw ol L h w S) {b : Nat} (hb : b < 16) (x : Int32) : ∃ v, p_X0_law h (w + 16 + 1 + b) x (h (w + 1) 1) = some (v, h) ∧ ∀ hm t l, p_X10_law (mt hm S t l) 110 (nI b) x = some (v, mt hm S t l) := by
  obtain ⟨i, _, hi, e1⟩ := R.i5
  obtain ⟨a, _, ha, e2⟩ := (R.br b hb).2.2.2.2.2
  refine ⟨x + nI (i * a / 65536), ?_, fun hm t l => law_m hm S t l x hb hi ha e1 e2⟩
  rw [R.itv, e1]
  exact law_c h x hi ha (by rw [R.b11 hb, e2])
theorem df2_sim (R : Rel bg rl tb m y sn Bd n N tk nw ol L h w S) {b : Nat} (hb : b < 16) (x x' : Int32) : ∃ h' S', q_X8_dropFirst_121 h w (w + 16 + 1 + b) x = some (x, h') ∧ (∀ hm t l, q_X10_dropsFirst_115 (mt hm S t l) 110 (nI b) x' = some (x', mt hm S' t l)) ∧ Rel bg rl tb m y sn Bd n N tk nw ol L h' w S' ∧ Kc w n h S h' S' ∧ ∀ k, 276 ≤ k → S' k = S k := by
  have hn := R.n200
  have R1 := R.u8 hb (S (68 + 13 * b + 3)) (R.br b hb).2.2.1
  have e0 : upd S (68 + 13 * b + 4) (S (68 + 13 * b + 3)) 0 = S 0 := upd_n _ _ (by omega)
  obtain ⟨v, hC, hM⟩ := law_sim R1 hb (S 0)
  have R2 := R1.u9 hb v
  refine ⟨_, _, ?_, fun h0 t l => ?_, R2, (Kc.bk w n h S _ _ hb (by omega) (by omega) hn).trans (Kc.bk w n _ _ _ _ hb (by omega) (by omega) hn), fun k hk => ?_⟩
  · unfold q_X8_dropFirst_121
    rw [R.b7 hb, nv_eq, R1.now, e0, hC, Option.bind_some]
    rfl
  · unfold q_X10_dropsFirst_115
    rw [m_of_3 h0 S t l hb, Option.bind_some]
    dsimp only
    rw [m_puts_4 h0 S t l _ hb, Option.bind_some, mt_r _ _ _ _ (by omega) (by omega), e0, hM, Option.bind_some]
    dsimp only
    rw [m_puts_6 h0 _ t l _ hb, Option.bind_some]
  · rw [upd_n _ _ (by omega), upd_n _ _ (by omega)]
theorem df_sim (R : Rel bg rl tb m y sn Bd n N tk nw ol L h w S) {b : Nat} (hb : b < 16) (x x' : Int32) : ∃ h' S', q_X8_dropFirst_45 h w (w + 16 + 1 + b) x = some (x, h') ∧ (∀ hm t l, q_X10_dropsFirst_31 (mt hm S t l) 110 (nI b) x' = some (x', mt hm S' t l)) ∧ Rel bg rl tb m y sn Bd n N tk nw ol L h' w S' ∧ Kc w n h S h' S' ∧ ∀ k, 276 ≤ k → S' k = S k := by
  have hn := R.n200
  have R1 := R.u12 hb 1 (rg_1 (by omega))
  have K1 := Kc.bk w n h S (b := b) (c := 5) (j := 12) 1 1 hb (by omega) (by omega) hn
  have u1 : ∀ k, k ≠ 68 + 13 * b + 5 → upd S (68 + 13 * b + 5) 1 k = S k := fun k hk => upd_n _ _ hk
  generalize hh1 : hp h (w + 16 + 1 + b) 12 1 = h1 at R1 K1
  generalize hS1 : upd S (68 + 13 * b + 5) 1 = S1 at R1 K1 u1
  have hv0 : h1 (w + 16 + 1 + b) 7 - h1 (w + 16 + 1 + b) 8 = S1 (68 + 13 * b + 3) - S1 (68 + 13 * b + 4) := by rw [R1.b7 hb, R1.b8 hb]
  have hv1 : 16 * h1 (w + 1) 1 = 16 * S1 5 := by rw [R1.itv]
  have hv2 : h1 w 7 - h1 (w + 16 + 1 + b) 9 = S1 0 - S1 (68 + 13 * b + 6) := by rw [R1.now, R1.b9 hb]
  have hPre : ∀ h0 t l, q_X10_dropsFirst_31 (mt h0 S t l) 110 (nI b) x' = if S1 (68 + 13 * b + 3) - S1 (68 + 13 * b + 4) ≤ 1 then (Option.bind (p_X10_puts (mt h0 S1 t l) 110 (nI b) 3 1) fun r9 => Option.bind (p_X10_puts r9 110 (nI b) 8 65535) fun r10 => q_X10_dropsFirst_115 r10 110 (nI b) x') else (Option.bind (p_X10_of (mt h0 S1 t l) 110 (nI b) 6) fun r11 => Option.bind (p_X10_interval r11.2 110) fun r12 => if (16 * r12.1) ≤ ((mt h0 S1 t l (110 + 6) 0) - r11.1) then (Option.bind (p_X10_puts r12.2 110 (nI b) 3 1) fun r13 => Option.bind (p_X10_puts r13 110 (nI b) 8 65535) fun r14 => q_X10_dropsFirst_115 r14 110 (nI b) x') else (Option.bind (p_X10_puts r12.2 110 (nI b) 3 (S1 (68 + 13 * b + 3) - S1 (68 + 13 * b + 4))) fun r15 => Option.bind (p_X10_steps r15 110 (nI b)) fun r16 => q_X10_dropsFirst_115 r16 110 (nI b) x')) := fun h0 t l => by
    unfold q_X10_dropsFirst_31
    rw [m_puts_5 h0 S t l _ hb, Option.bind_some, hS1, m_of_3 h0 S1 t l hb, Option.bind_some]
    dsimp only
    rw [m_of_4 h0 S1 t l hb, Option.bind_some]
    simp only [nv_eq]
  by_cases hr : S1 (68 + 13 * b + 3) - S1 (68 + 13 * b + 4) ≤ 1 ∨ (16 * S1 5) ≤ (S1 0 - S1 (68 + 13 * b + 6))
  · have R2 := (R1.u7 hb 1 (rg_1 (by omega))).u11 hb 65535 ⟨65535, by omega, by omega, rfl⟩
    have K2 := K1.trans ((Kc.bk w n h1 S1 (b := b) (c := 3) (j := 7) 1 1 hb (by omega) (by omega) hn).trans (Kc.bk w n _ _ (b := b) (c := 8) (j := 11) 65535 65535 hb (by omega) (by omega) hn))
    obtain ⟨h3, S3, hC3, hM3, R3, K3, F3⟩ := df2_sim R2 hb x x'
    refine ⟨h3, S3, ?_, fun h0 t l => ?_, R3, K2.trans K3, fun k hk => ?_⟩
    · unfold q_X8_dropFirst_45
      rw [hh1, nv_eq, nv_eq]
      by_cases h2 : S1 (68 + 13 * b + 3) - S1 (68 + 13 * b + 4) ≤ 1
      · rw [if_pos (by rw [hv0]; exact h2), nv_eq, nv_eq]
        exact hC3
      · rw [if_neg (by rw [hv0]; exact h2), if_pos (by rw [hv1, hv2]; exact hr.resolve_left h2), nv_eq, nv_eq]
        exact hC3
    · rw [hPre]
      by_cases h1 : S1 (68 + 13 * b + 3) - S1 (68 + 13 * b + 4) ≤ 1
      · rw [if_pos h1, m_puts_3 h0 S1 t l _ hb, Option.bind_some, m_puts_8 h0 _ t l _ hb, Option.bind_some]
        exact hM3 h0 t l
      · rw [if_neg h1, m_of_6 h0 S1 t l hb, Option.bind_some]
        dsimp only
        rw [m_interval, Option.bind_some]
        dsimp only
        rw [if_pos (show 16 * S1 5 ≤ mt h0 S1 t l (110 + 6) 0 - S1 (68 + 13 * b + 6) by rw [mt_r _ _ _ _ (by omega) (by omega)]; exact hr.resolve_left h1), m_puts_3 h0 S1 t l _ hb, Option.bind_some, m_puts_8 h0 _ t l _ hb, Option.bind_some]
        exact hM3 h0 t l
    · rw [F3 k hk, upd_n _ _ (by omega), upd_n _ _ (by omega), u1 k (by omega)]
  · have n1 : ¬ S1 (68 + 13 * b + 3) - S1 (68 + 13 * b + 4) ≤ 1 := fun u => hr (Or.inl u)
    have n2 : ¬ (16 * S1 5) ≤ (S1 0 - S1 (68 + 13 * b + 6)) := fun u => hr (Or.inr u)
    have hv : rg (S1 (68 + 13 * b + 3) - S1 (68 + 13 * b + 4)) 0 999 := by
      obtain ⟨c, _, hc, e1⟩ := (R1.br b hb).2.2.1
      obtain ⟨c', _, hc', e2⟩ := (R1.br b hb).2.2.2.1
      rw [e1, e2] at n1 ⊢
      rcases Nat.lt_or_ge c c' with u | u
      · exact absurd (by rw [Int32.le_iff_toInt_le, pk_sub_toInt (by omega) (by omega), show (1 : Int32).toInt = 1 by decide]; omega) n1
      · exact ⟨c - c', by omega, by omega, pk_sub u⟩
    have R2a := R1.u7 hb _ hv
    have K2a := K1.trans (Kc.bk w n h1 S1 (b := b) (c := 3) (j := 7) (S1 (68 + 13 * b + 3) - S1 (68 + 13 * b + 4)) (S1 (68 + 13 * b + 3) - S1 (68 + 13 * b + 4)) hb (by omega) (by omega) hn)
    have u2 : ∀ k, 276 ≤ k → upd S1 (68 + 13 * b + 3) (S1 (68 + 13 * b + 3) - S1 (68 + 13 * b + 4)) k = S k := fun k hk => by rw [upd_n _ _ (by omega), u1 k (by omega)]
    have u3 : upd S1 (68 + 13 * b + 3) (S1 (68 + 13 * b + 3) - S1 (68 + 13 * b + 4)) (68 + 13 * b + 3) = S1 (68 + 13 * b + 3) - S1 (68 + 13 * b + 4) := upd_s _ _ _
    have hP3 := fun h0 t l => m_puts_3 h0 S1 t l (S1 (68 + 13 * b + 3) - S1 (68 + 13 * b + 4)) hb
    generalize S1 (68 + 13 * b + 3) - S1 (68 + 13 * b + 4) = v at *
    generalize hh2 : hp h1 (w + 16 + 1 + b) 7 v = h2 at R2a K2a
    generalize hS2 : upd S1 (68 + 13 * b + 3) v = S2 at R2a K2a u2 u3 hP3
    obtain ⟨z, hz⟩ : ∃ z, z = stp (S2 (68 + 13 * b + 8)) v := ⟨_, rfl⟩
    have hzr : rg z 1 65535 := by rw [hz]; exact stp_rg (S2 (68 + 13 * b + 8)) v
    have hzc : p_X4_step h2 (S2 (68 + 13 * b + 8)) v = some (z, h2) := by rw [hz]; exact stp_eq h2 (S2 (68 + 13 * b + 8)) v
    have R2 := R2a.u11 hb z hzr
    have K2 := K2a.trans (Kc.bk w n h2 S2 (b := b) (c := 8) (j := 11) z z hb (by omega) (by omega) hn)
    obtain ⟨h3, S3, hC3, hM3, R3, K3, F3⟩ := df2_sim R2 hb x x'
    refine ⟨h3, S3, ?_, fun h0 t l => ?_, R3, K2.trans K3, fun k hk => ?_⟩
    · unfold q_X8_dropFirst_45
      rw [hh1, nv_eq, nv_eq, if_neg (by rw [hv0]; exact n1), if_neg (by rw [hv1, hv2]; exact n2), hv0, hh2, nv_eq, R2a.b11 hb, hzc, Option.bind_some]
      dsimp only
      rw [nv_eq]
      exact hC3
    · have hst := m_steps h0 S2 t l hb (R2a.br b hb).2.2.2.2.2 (R2a.br b hb).2.2.1
      rw [u3, ← hz] at hst
      rw [hPre, if_neg n1, m_of_6 h0 S1 t l hb, Option.bind_some]
      dsimp only
      rw [m_interval, Option.bind_some]
      dsimp only
      rw [if_neg (show ¬ 16 * S1 5 ≤ mt h0 S1 t l (110 + 6) 0 - S1 (68 + 13 * b + 6) by rw [mt_r _ _ _ _ (by omega) (by omega)]; exact n2), hP3, Option.bind_some, hst, Option.bind_some]
      exact hM3 h0 t l
    · rw [F3 k hk, upd_n _ _ (by omega), u2 k hk]
end Kp

