/-! dropping on and on, and what the keeper gives out -/
theorem dm_0 (h : Hp) {w b turn : Nat} (x : Int32) (ht : turn < 1000) (h0 : h (w + 16 + 1 + b) 12 = 0) (m : Nat) : lp (b_X8_dropMore_5 w (w + 16 + 1 + b)) (m + 1) (h, x, nI turn) = some (x, h) := by
  rw [lp_s]
  unfold b_X8_dropMore_5
  dsimp only
  by_cases e : 200 ≤ turn
  · rw [if_pos (show (200 : Int32) ≤ nI turn from nI_le (a := 200) e (by omega))]
  · rw [if_neg (show ¬ (200 : Int32) ≤ nI turn from nI_ge (b := 200) (by omega) (by omega)), if_pos h0]
theorem do_0 (h : Hp) (S : Nat → Int32) (t l : Int32) {b : Nat} (x : Int32) (hb : b < 16) (h0 : ¬ S (68 + 13 * b + 5) = 1) (m : Nat) : lp (b_X10_dropsOn_2 110 (nI b)) (m + 1) (mt h S t l, x) = some (x, mt h S t l) := by
  rw [lp_s]
  unfold b_X10_dropsOn_2
  dsimp only
  rw [m_of_5 h S t l hb, Option.bind_some]
  dsimp only
  rw [if_neg h0]
theorem took_kc {bg rl : Bool} {tb : Nat → Int32} {m y sn Bd n N : Nat} {nw ol L : List Nat} {h : Hp} {w : Nat} {S : Nat → Int32} {b : Nat} {h' : Hp} {S' : Nat → Int32} {f : Nat} (T : Took bg rl tb m y sn Bd n N nw ol L h w S b h' S' f) : Kc w n h S h' S' := by
  obtain ⟨_, _, _, _, _, _, a, b, c, d, e, f17, g⟩ := T
  exact ⟨a, b, c, d, by omega, g, f17⟩
theorem tnone_kc {bg rl : Bool} {tb : Nat → Int32} {m y sn Bd n N : Nat} {nw ol L : List Nat} {h : Hp} {w : Nat} {S : Nat → Int32} {b : Nat} {h' : Hp} {S' : Nat → Int32} (T : Tnone bg rl tb m y sn Bd n N nw ol L h w S b h' S') : Kc w n h S h' S' := by
  obtain ⟨_, _, _, a, b, c, d, e, f17, g, _⟩ := T
  exact ⟨a, b, c, d, Nat.le_of_eq e, g, f17⟩
section Km
variable {bg rl : Bool} {tb : Nat → Int32} {m y sn Bd n N tk : Nat} {nw ol L : List Nat} {h : Hp} {w : Nat} {S : Nat → Int32}
/-- a taking, in one -/
theorem take_sim (R : Rel bg rl tb m y sn Bd n N 200 nw ol L h w S) {b : Nat} (hb : b < 16) : (∃ h' S' f, p_X8_take h w (w + 16 + 1 + b) = some (nI f, h') ∧ (∀ hm t l, Tk (h (w + 1) 0) t (h' w 12) → p_X10_takes (mt hm S t l) 110 (nI b) = some (nI f, mt hm S' t l)) ∧ Took bg rl tb m y sn Bd n N nw ol L h w S b h' S' f) ∨ (∃ h' S', p_X8_take h w (w + 16 + 1 + b) = some (-2, h') ∧ (∀ hm t l, p_X10_takes (mt hm S t l) 110 (nI b) = some (-1, mt hm S' t l)) ∧ Tnone bg rl tb m y sn Bd n N nw ol L h w S b h' S') := by
  rcases Nat.lt_or_ge (fa_first (sb S b) n) n with h1 | h1
  · have h2 := fa_first_yes (sb S b) n h1
    obtain ⟨h', S', a, c, d⟩ := take_y R hb h1 h2 (fun g hg => fa_first_no (sb S b) n g hg)
    exact Or.inl ⟨h', S', _, a, c, d⟩
  · exact Or.inr (take_n R hb (fun g hg => fa_first_no (sb S b) n g (by omega)))
theorem dm_sim (k : Nat) : ∀ {h : Hp} {S : Nat → Int32} {L : List Nat} {b f turn : Nat}, Rel bg rl tb m y sn Bd n N f nw ol L h w S → b < 16 → f < 200 → S (276 + 12 * f + 6) = 1 → S (276 + 12 * f + 5) = 0 → fa_cnt (sd S) n ≤ k → turn + k ≤ 199 → ∃ h' S' L' r r', (∀ m, k + 2 < m → lp (b_X8_dropMore_5 w (w + 16 + 1 + b)) m (h, nI f, nI turn) = some (r, h')) ∧ (∀ hm t l m, k + 2 < m → Tk (h (w + 1) 0) t (h' w 12) → lp (b_X10_dropsOn_2 110 (nI b)) m (mt hm S t l, nI f) = some (r', mt hm S' t l)) ∧ ((∃ f, f < n ∧ r = nI f ∧ r' = nI f ∧ Rel bg rl tb m y sn Bd n N f nw ol L' h' w S' ∧ S' (276 + 12 * f + 6) = 1) ∨ (r = -2 ∧ r' = -1 ∧ Rel bg rl tb m y sn Bd n N 200 nw ol L' h' w S' ∧ ∀ g, g < n → sb S' b g = false)) ∧ Kc w n h S h' S' := by
  induction k using Nat.strongRecOn with
  | ind k ih =>
  intro h S L b f turn R hb hf2 h6 h5 hk ht
  have hn := R.n200
  obtain ⟨hf, hl⟩ := tk_lt R hf2
  have ct : ¬ (200 : Int32) ≤ nI turn := nI_ge (b := 200) (by omega) (by omega)
  rcases rg01 (R.br b hb).2.2.2.2.1 with hd | hd
  · refine ⟨h, S, L, nI f, nI f, fun m hm => ?_, fun h0 t l m hm _ => ?_, Or.inl ⟨f, hf, rfl, rfl, R, h6⟩, Kc.refl w n h S⟩
    · obtain ⟨m', rfl⟩ : ∃ m', m = m' + 1 := ⟨m - 1, by omega⟩
      exact dm_0 h _ (by omega) (by rw [R.b12 hb, hd]) m'
    · obtain ⟨m', rfl⟩ : ∃ m', m = m' + 1 := ⟨m - 1, by omega⟩
      exact do_0 h0 S t l _ hb (by rw [hd]; decide) m'
  · have hd0 : ¬ h (w + 16 + 1 + b) 12 = 0 := by rw [R.b12 hb, hd]; decide
    by_cases hnx : S 0 < S (68 + 13 * b + 6)
    · refine ⟨h, S, L, nI f, nI f, fun m hm => ?_, fun h0 t l m hm _ => ?_, Or.inl ⟨f, hf, rfl, rfl, R, h6⟩, Kc.refl w n h S⟩
      · obtain ⟨m', rfl⟩ : ∃ m', m = m' + 1 := ⟨m - 1, by omega⟩
        rw [lp_s]
        unfold b_X8_dropMore_5
        dsimp only
        rw [if_neg ct, if_neg hd0, if_pos (by rw [R.now, R.b9 hb]; exact hnx)]
      · obtain ⟨m', rfl⟩ : ∃ m', m = m' + 1 := ⟨m - 1, by omega⟩
        rw [lp_s]
        unfold b_X10_dropsOn_2
        dsimp only
        rw [m_of_5 h0 S t l hb, Option.bind_some]
        dsimp only
        rw [if_pos hd, m_of_6 h0 S t l hb, Option.bind_some]
        dsimp only
        rw [if_pos (by rw [mt_r _ _ _ _ (by omega) (by omega)]; exact hnx)]
    · obtain ⟨c, _, hc, hcc⟩ := (R.br b hb).2.2.1
      obtain ⟨c', hc', hcv⟩ : ∃ c', c' ≤ 999 ∧ c' = (if 999 ≤ c then 999 else c + 1) := ⟨_, by split <;> omega, rfl⟩
      have hv7 : (if 999 < h (w + 16 + 1 + b) 7 + 1 then 999 else h (w + 16 + 1 + b) 7 + 1) = nI c' := by
        rw [R.b7 hb, hcc, nI_1]
        by_cases e : 999 ≤ c
        · rw [if_pos (show (999 : Int32) < nI (c + 1) from nI_lt (a := 999) (by omega) (by omega)), hcv, if_pos e]
          rfl
        · rw [if_neg (show ¬ (999 : Int32) < nI (c + 1) from nI_nlt (a := 999) (by omega) (by omega)), hcv, if_neg e]
      have R1 := R.u7 hb (nI c') ⟨c', by omega, hc', rfl⟩
      have K1 := Kc.bk w n h S (b := b) (c := 3) (j := 7) (nI c') (nI c') hb (by omega) (by omega) hn
      have u1 : ∀ k, k ≠ 68 + 13 * b + 3 → upd S (68 + 13 * b + 3) (nI c') k = S k := fun k hk => upd_n _ _ hk
      have u1s : upd S (68 + 13 * b + 3) (nI c') (68 + 13 * b + 3) = nI c' := upd_s _ _ _
      have hP3 := fun h0 t l => m_puts_3 h0 S t l (nI c') hb
      generalize hh1 : hp h (w + 16 + 1 + b) 7 (nI c') = h1 at R1 K1
      generalize hS1 : upd S (68 + 13 * b + 3) (nI c') = S1 at R1 K1 u1 u1s hP3
      obtain ⟨z, hz⟩ : ∃ z, z = stp (S1 (68 + 13 * b + 8)) (nI c') := ⟨_, rfl⟩
      have hzr : rg z 1 65535 := by rw [hz]; exact stp_rg (S1 (68 + 13 * b + 8)) (nI c')
      have hzc : p_X4_step h1 (S1 (68 + 13 * b + 8)) (nI c') = some (z, h1) := by rw [hz]; exact stp_eq h1 (S1 (68 + 13 * b + 8)) (nI c')
      have hzm : ∀ h0 t l, p_X10_steps (mt h0 S1 t l) 110 (nI b) = some (mt h0 (upd S1 (68 + 13 * b + 8) z) t l) := fun h0 t l => by
        have := m_steps h0 S1 t l hb (R1.br b hb).2.2.2.2.2 (R1.br b hb).2.2.1
        rw [u1s, ← hz] at this
        exact this
      have R2 := R1.u11 hb z hzr
      have K2 := K1.trans (Kc.bk w n h1 S1 (b := b) (c := 8) (j := 11) z z hb (by omega) (by omega) hn)
      have u2 : ∀ k, k ≠ 68 + 13 * b + 3 → k ≠ 68 + 13 * b + 8 → upd S1 (68 + 13 * b + 8) z k = S k := fun k hk hk2 => by rw [upd_n _ _ hk2, u1 k hk]
      generalize hh2 : hp h1 (w + 16 + 1 + b) 11 z = h2 at R2 K2
      generalize hS2 : upd S1 (68 + 13 * b + 8) z = S2 at R2 K2 u2 hzm
      have g6 : S2 (276 + 12 * f + 6) = 1 := by rw [u2 _ (by omega) (by omega), h6]
      have g5 : S2 (276 + 12 * f + 5) = 0 := by rw [u2 _ (by omega) (by omega), h5]
      have hcn : fa_cnt (sd S2) n ≤ k := Nat.le_trans K2.2.2.2.2.1 hk
      have cib : ib (nI f) 200 := ib_n (by omega) (by omega)
      have ecl : (nI f).toNatClampNeg = f := nI_clamp (by omega)
      have hmay : h2 (w + 2 + 3) (nI f).toNatClampNeg = S2 (276 + 12 * f + 2) := by rw [ecl]; exact R2.f3 hf
      -- one turn
      have tC : ∀ K : Hp × Int32 × Int32 → Option (Int32 × Hp), b_X8_dropMore_5 w (w + 16 + 1 + b) K (h, nI f, nI turn) = if h2 (w + 2 + 3) (nI f).toNatClampNeg = 1 then (Option.bind (p_X8_mark h2 w (nI f)) fun r6 => Option.bind (p_X0_law r6 (w + 16 + 1 + b) (r6 (w + 16 + 1 + b) 9) (r6 (w + 1) 1)) fun r7 => nv (hp r7.2 (w + 16 + 1 + b) 9 r7.1) fun h8 => some (nI f, h8)) else (Option.bind (p_X8_drop h2 w (nI f)) fun r9 => Option.bind (p_X8_take r9 w (w + 16 + 1 + b)) fun r10 => if (r10.2 w 11) = 0 then (nv (hp r10.2 (w + 16 + 1 + b) 12 0) fun h11 => K (h11, r10.1, nI turn + 1)) else (Option.bind (p_X0_law r10.2 (w + 16 + 1 + b) (r10.2 (w + 16 + 1 + b) 9) (r10.2 (w + 1) 1)) fun r12 => nv (hp r12.2 (w + 16 + 1 + b) 9 r12.1) fun h13 => K (h13, r10.1, nI turn + 1))) := fun K => by
        unfold b_X8_dropMore_5
        dsimp only
        rw [if_neg ct, if_neg hd0, if_neg (by rw [R.now, R.b9 hb]; exact hnx), has_y R hf, Option.bind_some]
        dsimp only
        rw [if_neg one_nz, hv7, hh1, nv_eq, R1.b11 hb, R1.b7 hb, u1s, hzc, Option.bind_some]
        dsimp only
        rw [hh2, nv_eq, if_pos cib]
      have tM : ∀ h0 t l (K : Hp × Int32 → Option (Int32 × Hp)), b_X10_dropsOn_2 110 (nI b) K (mt h0 S t l, nI f) = if S2 (276 + 12 * f + 2) = 1 then (Option.bind (p_X10_marks (mt h0 S2 t l) 110 (nI f)) fun r4 => Option.bind (p_X10_of r4 110 (nI b) 6) fun r5 => Option.bind (p_X10_law r5.2 110 (nI b) r5.1) fun r6 => Option.bind (p_X10_puts r6.2 110 (nI b) 6 r6.1) fun r7 => some (nI f, r7)) else (Option.bind (p_X10_drops (mt h0 S2 t l) 110 (nI f)) fun r8 => Option.bind (p_X10_takes r8 110 (nI b)) fun r9 => Option.bind (p_X10_of r9.2 110 (nI b) 11) fun r10 => if r10.1 = 0 then (Option.bind (p_X10_puts r10.2 110 (nI b) 5 0) fun r11 => K (r11, r9.1)) else (Option.bind (p_X10_of r10.2 110 (nI b) 6) fun r12 => Option.bind (p_X10_law r12.2 110 (nI b) r12.1) fun r13 => Option.bind (p_X10_puts r13.2 110 (nI b) 6 r13.1) fun r14 => K (r14, r9.1))) := fun h0 t l K => by
        have hq : q_X10_dropsOn_57 K (mt h0 S t l) 110 (nI b) (nI f) 110 (nI b) 3 (nI c') = if S2 (276 + 12 * f + 2) = 1 then (Option.bind (p_X10_marks (mt h0 S2 t l) 110 (nI f)) fun r4 => Option.bind (p_X10_of r4 110 (nI b) 6) fun r5 => Option.bind (p_X10_law r5.2 110 (nI b) r5.1) fun r6 => Option.bind (p_X10_puts r6.2 110 (nI b) 6 r6.1) fun r7 => some (nI f, r7)) else (Option.bind (p_X10_drops (mt h0 S2 t l) 110 (nI f)) fun r8 => Option.bind (p_X10_takes r8 110 (nI b)) fun r9 => Option.bind (p_X10_of r9.2 110 (nI b) 11) fun r10 => if r10.1 = 0 then (Option.bind (p_X10_puts r10.2 110 (nI b) 5 0) fun r11 => K (r11, r9.1)) else (Option.bind (p_X10_of r10.2 110 (nI b) 6) fun r12 => Option.bind (p_X10_law r12.2 110 (nI b) r12.1) fun r13 => Option.bind (p_X10_puts r13.2 110 (nI b) 6 r13.1) fun r14 => K (r14, r9.1))) := by
          unfold q_X10_dropsOn_57
          rw [hP3, Option.bind_some, hzm, Option.bind_some, m_frameOf_2 h0 S2 t l hf2, Option.bind_some]
        rw [← hq]
        unfold b_X10_dropsOn_2
        dsimp only
        rw [m_of_5 h0 S t l hb, Option.bind_some]
        dsimp only
        rw [if_pos hd, m_of_6 h0 S t l hb, Option.bind_some]
        dsimp only
        rw [if_neg (by rw [mt_r _ _ _ _ (by omega) (by omega)]; exact hnx), m_of_3 h0 S t l hb, Option.bind_some]
        dsimp only
        by_cases e : 999 ≤ c
        · rw [if_pos (by rw [hcc]; exact nI_le (a := 999) e (by omega)), hcv, if_pos e]
          rfl
        · rw [if_neg (by rw [hcc]; exact nI_ge (b := 999) (by omega) (by omega)), hcv, if_neg e, m_of_3 h0 S t l hb, Option.bind_some]
          dsimp only
          rw [hcc, nI_1]
      rcases rg01 (R2.fi.1 f hf).2.2.1 with hmy | hmy
      · -- dropped, and the next is taken
        have hm0 : ¬ S2 (276 + 12 * f + 2) = 1 := by rw [hmy]; decide
        obtain ⟨h3, S3, dC, dM, R3, F3, x10, x11, x12, Sd3, cn3, x17, mo3⟩ := drop_sim R2 hf2 g5
        have K3 : Kc w n h2 S2 h3 S3 := ⟨F3, x10, by rw [x12]; exact Int32.le_refl _, fun b' hb' => Sd3 _ (by omega), Nat.le_of_eq cn3, mo3, x17⟩
        have hT : ∀ {hx : Hp}, Fr w h hx → hx (w + 1) 0 = h (w + 1) 0 := fun F => F.2 0
        have F23 : Fr w h h3 := (K2.trans K3).1
        rcases take_sim R3 hb with ⟨h4, S4, g, tkC, tkM, T⟩ | ⟨h4, S4, tkC, tkM, T⟩
        · have K4 := took_kc T
          obtain ⟨hg, R4, t6, t5, t11, trg, tF, tx10, tx12, tdf, tcn, t14, tmo⟩ := T
          have hg2 : g < 200 := by omega
          rcases rg01 trg with hl0 | hl0
          · have R5 := R4.u12 hb 0 (rg_0 1)
            have K5 := Kc.bk w n h4 S4 (b := b) (c := 5) (j := 12) 0 0 hb (by omega) (by omega) hn
            refine ⟨_, _, L ++ [f], nI g, nI g, fun m hm => ?_, fun h0 t l m hm hTk => ?_, Or.inl ⟨g, hg, rfl, rfl, R5, by rw [upd_n _ _ (by omega), t6]⟩, ((K2.trans K3).trans K4).trans K5⟩
            · obtain ⟨m', rfl⟩ : ∃ m', m = m' + 1 + 1 := ⟨m - 2, by omega⟩
              rw [lp_s, tC, if_neg (by rw [hmay]; exact hm0), dC, Option.bind_some, tkC, Option.bind_some]
              dsimp only
              rw [if_pos hl0, nv_eq, nI_1]
              exact dm_0 _ _ (by omega) (hp_s _ _ _ _) m'
            · obtain ⟨m', rfl⟩ : ∃ m', m = m' + 1 + 1 := ⟨m - 2, by omega⟩
              have hTk4 : Tk (h3 (w + 1) 0) t (h4 w 12) := by
                rw [hT F23]
                rw [hp_o' _ _ (by omega)] at hTk
                exact hTk
              rw [lp_s, tM, if_neg hm0, dM, Option.bind_some, tkM h0 t l hTk4, Option.bind_some]
              dsimp only
              rw [m_of_11 h0 S4 t l hb, Option.bind_some]
              dsimp only
              rw [if_pos (by rw [← t11]; exact hl0), m_puts_5 h0 S4 t l _ hb, Option.bind_some]
              exact do_0 h0 _ t l _ hb (by rw [upd_s]; decide) m'
          · obtain ⟨v, lC, lM⟩ := law_sim R4 hb (S4 (68 + 13 * b + 6))
            have R5 := R4.u9 hb v
            have K5 := Kc.bk w n h4 S4 (b := b) (c := 6) (j := 9) v v hb (by omega) (by omega) hn
            have hcn3 : fa_cnt (sd S3) n ≤ k := by rw [cn3]; exact hcn
            have hk1 : 1 ≤ k := by omega
            have K45 := (K2.trans K3).trans (K4.trans K5)
            have w6 : upd S4 (68 + 13 * b + 6) v (276 + 12 * g + 6) = 1 := by rw [upd_n _ _ (by omega), t6]
            have w5 : upd S4 (68 + 13 * b + 6) v (276 + 12 * g + 5) = 0 := by rw [upd_n _ _ (by omega), t5]
            have wcn : fa_cnt (sd (upd S4 (68 + 13 * b + 6) v)) n ≤ k - 1 := by
              have := K5.2.2.2.2.1
              omega
            obtain ⟨h', S', L', r, r', iC, iM, iO, iK⟩ := ih (k - 1) (by omega) (turn := turn + 1) R5 hb hg2 w6 w5 wcn (by omega)
            refine ⟨h', S', L', r, r', fun m hm => ?_, fun h0 t l m hm hTk => ?_, iO, K45.trans iK⟩
            · obtain ⟨m', rfl⟩ : ∃ m', m = m' + 1 := ⟨m - 1, by omega⟩
              rw [lp_s, tC, if_neg (by rw [hmay]; exact hm0), dC, Option.bind_some, tkC, Option.bind_some]
              dsimp only
              rw [if_neg (by rw [hl0]; decide), R4.b9 hb, lC, Option.bind_some]
              dsimp only
              rw [nv_eq, nI_1]
              exact iC m' (by omega)
            · obtain ⟨m', rfl⟩ : ∃ m', m = m' + 1 := ⟨m - 1, by omega⟩
              have hTk5 : Tk (hp h4 (w + 16 + 1 + b) 9 v (w + 1) 0) t (h' w 12) := by
                rw [hT K45.1]
                exact hTk
              have hTk4 : Tk (h3 (w + 1) 0) t (h4 w 12) := by
                rw [hT F23]
                refine hTk.mono (Int32.le_trans iK.2.2.1 ?_)
                rw [hp_o' _ _ (by omega)]
                exact Int32.le_refl _
              rw [lp_s, tM, if_neg hm0, dM, Option.bind_some, tkM h0 t l hTk4, Option.bind_some]
              dsimp only
              rw [m_of_11 h0 S4 t l hb, Option.bind_some]
              dsimp only
              rw [if_neg (by rw [← t11, hl0]; decide), m_of_6 h0 S4 t l hb, Option.bind_some]
              dsimp only
              rw [lM, Option.bind_some]
              dsimp only
              rw [m_puts_6 h0 S4 t l _ hb, Option.bind_some]
              exact iM h0 t l m' (by omega) hTk5
        · have K4 := tnone_kc T
          obtain ⟨R4, tl, tl2, tF, tx10, tx12, tdf, tcn, t14, tmo, tno⟩ := T
          have R5 := R4.u12 hb 0 (rg_0 1)
          have K5 := Kc.bk w n h4 S4 (b := b) (c := 5) (j := 12) 0 0 hb (by omega) (by omega) hn
          refine ⟨_, _, L ++ [f], -2, -1, fun m hm => ?_, fun h0 t l m hm hTk => ?_, Or.inr ⟨rfl, rfl, R5, fun g hg => ?_⟩, ((K2.trans K3).trans K4).trans K5⟩
          · obtain ⟨m', rfl⟩ : ∃ m', m = m' + 1 + 1 := ⟨m - 2, by omega⟩
            rw [lp_s, tC, if_neg (by rw [hmay]; exact hm0), dC, Option.bind_some, tkC, Option.bind_some]
            dsimp only
            rw [if_pos tl, nv_eq, nI_1]
            exact dm_0 _ _ (by omega) (hp_s _ _ _ _) m'
          · obtain ⟨m', rfl⟩ : ∃ m', m = m' + 1 + 1 := ⟨m - 2, by omega⟩
            rw [lp_s, tM, if_neg hm0, dM, Option.bind_some, tkM h0 t l, Option.bind_some]
            dsimp only
            rw [m_of_11 h0 S4 t l hb, Option.bind_some]
            dsimp only
            rw [if_pos tl2, m_puts_5 h0 S4 t l _ hb, Option.bind_some]
            exact do_0 h0 _ t l _ hb (by rw [upd_s]; decide) m'
          · rw [sb_cong (S := S4) (upd_n _ _ (by omega)) (upd_n _ _ (by omega))]
            exact tno g hg
      · -- marked
        obtain ⟨h3, S3, kC, kM, R3, F3, x10, x11, x12, Sd3, cn3, x17, m6, mo3⟩ := mark_sim R2 hf2 g5 g6
        have K3 : Kc w n h2 S2 h3 S3 := ⟨F3, x10, by rw [x12]; exact Int32.le_refl _, fun b' hb' => Sd3 _ (by omega), Nat.le_of_eq cn3, mo3, x17⟩
        obtain ⟨v, lC, lM⟩ := law_sim R3 hb (S3 (68 + 13 * b + 6))
        have R4 := R3.u9 hb v
        have K4 := Kc.bk w n h3 S3 (b := b) (c := 6) (j := 9) v v hb (by omega) (by omega) hn
        refine ⟨_, _, L, nI f, nI f, fun m hm => ?_, fun h0 t l m hm _ => ?_, Or.inl ⟨f, hf, rfl, rfl, R4, by rw [upd_n _ _ (by omega), m6]⟩, (K2.trans K3).trans K4⟩
        · obtain ⟨m', rfl⟩ : ∃ m', m = m' + 1 := ⟨m - 1, by omega⟩
          rw [lp_s, tC, if_pos (by rw [hmay]; exact hmy), kC, Option.bind_some, R3.b9 hb, lC, Option.bind_some]
          dsimp only
          rw [nv_eq]
        · obtain ⟨m', rfl⟩ : ∃ m', m = m' + 1 := ⟨m - 1, by omega⟩
          rw [lp_s, tM, if_pos hmy, kM, Option.bind_some, m_of_6 h0 S3 t l hb, Option.bind_some]
          dsimp only
          rw [lM, Option.bind_some]
          dsimp only
          rw [m_puts_6 h0 S3 t l _ hb, Option.bind_some]
end Km

