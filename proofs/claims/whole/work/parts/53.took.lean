/-! a frame is taken, dropped, marked, sent -/
section Ty
variable {bg rl : Bool} {tb : Nat → Int32} {m y sn Bd n N tk : Nat} {nw ol L : List Nat} {h : Hp} {w : Nat} {S : Nat → Int32}
theorem take_y (R : Rel bg rl tb m y sn Bd n N 200 nw ol L h w S) {b f : Nat} (hb : b < 16) (hf : f < n) (hs : sb S b f = true) (hm : ∀ g, g < f → sb S b g = false) : ∃ h' S', p_X8_take h w (w + 16 + 1 + b) = some (nI f, h') ∧ (∀ hm t l, Tk (h (w + 1) 0) t (h' w 12) → p_X10_takes (mt hm S t l) 110 (nI b) = some (nI f, mt hm S' t l)) ∧ Took bg rl tb m y sn Bd n N nw ol L h w S b h' S' f := by
  have hn := R.n200
  have hf2 : f < 200 := by omega
  obtain ⟨hs1, hs2⟩ := sb_t.mp hs
  have hmk : S (276 + 12 * f + 5) = 0 := (rg01 (R.fi.1 f hf).2.2.2.2.2.1).resolve_right (fun u => by have := (R.fi.1 f hf).2.2.2.2.2.2.2.2.1 u; rw [hs2] at this; exact absurd this (by decide))
  have h1f : h (w + 16 + 1 + b) 1 = nI f := by
    rcases (R.cb b hb).1 with ⟨z, k1, k2, k3, k4, k5⟩ | ⟨k1, k2⟩
    · rcases Nat.lt_trichotomy z f with u | u | u
      · rw [hm z u] at k3
        cases k3
      · rw [← u]
        exact k5
      · rw [k4 f (by omega) u] at hs
        cases hs
    · rw [k1 f (by omega) hf] at hs
      cases hs
  have hfL : f ∉ L := fun u => ((R.el.2.2.2.2.2.1 f).mp u).2.2 hs2
  have hlen : L.length < n := by
    have := nd_len n (f :: L) (List.nodup_cons.mpr ⟨hfL, R.el.2.2.2.2.1⟩) (fun x hx => by
      rcases List.mem_cons.mp hx with u | u
      · rw [u]; exact hf
      · exact R.hL2 x u)
    rw [List.length_cons] at this
    omega
  have R0 := R.mlate hb 0
  have hsb0 : ∀ g, g < n → sb (upd S (68 + 13 * b + 11) 0) b g = sb S b g := fun g hg => sb_cong (upd_n _ _ (by omega)) (upd_n _ _ (by omega))
  obtain ⟨h1, hU, fr, fw, fb, q1, q2, q3, q4, q8, q9⟩ := unlink_c R0 hb hf h1f
  have R1 := R0.tak hb hf (by rw [hsb0 f hf]; exact hs) (fun g hg => by rw [hsb0 g (by omega)]; exact hm g hg) (Or.inl rfl) fr fw fb q1 q2 q3 q4 q8 q9
  have hM : ∀ h0 t l, p_X10_becomes (mt h0 (upd S (68 + 13 * b + 11) 0) t l) 110 (nI f) 1 = some (mt h0 (sBec (upd S (68 + 13 * b + 11) 0) f b L.length (nI 1)) t l) := fun h0 t l => m_becomes h0 _ t l _ hf2 hb (by rw [upd_n _ _ (by omega)]; exact hs1) (by rw [upd_n _ _ (by omega), R.el.2.2.1, lr_200 _ (Nat.le_refl _)]) (by omega)
  have s6 : sBec (upd S (68 + 13 * b + 11) 0) f b L.length (nI 1) (276 + 12 * f + 6) = 1 := sBec_6 _ _ hf2 hb
  have s5 : sBec (upd S (68 + 13 * b + 11) 0) f b L.length (nI 1) (276 + 12 * f + 5) = 0 := by simp (disch := omega) only [sBec_n, upd_n, hmk]
  have s11 : sBec (upd S (68 + 13 * b + 11) 0) f b L.length (nI 1) (68 + 13 * b + 11) = 0 := by simp (disch := omega) only [sBec_n, upd_s]
  have s1 : ∀ b', b' < 16 → sBec (upd S (68 + 13 * b + 11) 0) f b L.length (nI 1) (68 + 13 * b' + 1) = S (68 + 13 * b' + 1) := fun b' hb' => by simp (disch := omega) only [sBec_n, upd_n]
  have s14 : sBec (upd S (68 + 13 * b + 11) 0) f b L.length (nI 1) 17 = S 17 := by simp (disch := omega) only [sBec_n, upd_n]
  have scn : fa_cnt (sd (sBec (upd S (68 + 13 * b + 11) 0) f b L.length (nI 1))) n + 1 = fa_cnt (sd S) n := (cnt_one hf (show sd S f = true from decide_eq_true_iff.mpr hs2) (decide_eq_false_iff_not.mpr (by rw [s6]; decide)) (fun k hk hn => by unfold sd; simp (disch := omega) only [sBec_n, upd_n])).symm
  have ssb : ∀ b' g, g < n → sb (sBec (upd S (68 + 13 * b + 11) 0) f b L.length (nI 1)) b' g = true → sb S b' g = true := fun b' g hg u => by
    by_cases e : g = f
    · subst e
      have := (sb_t.mp u).2
      rw [s6] at this
      exact absurd this (by decide)
    · rw [sb_cong (S := S) (by simp (disch := omega) only [sBec_n, upd_n]) (by simp (disch := omega) only [sBec_n, upd_n])] at u
      exact u
  generalize hS1 : sBec (upd S (68 + 13 * b + 11) 0) f b L.length (nI 1) = S1 at R1 hM s6 s5 s11 s1 s14 scn ssb
  have R2 := R1.late 0
  have hT : ∀ h' : Hp, Fr w h1 h' → h' (w + 1) 0 = h (w + 1) 0 := fun h' hF => (hF.2 0).trans (fr _ _ (by omega) (by omega))
  have hF1 : Fr w h h1 := ⟨fun o ho => funext fun j => fr o j (by omega) (by omega), fun j => fr _ _ (by omega) (by omega)⟩
  have hFL : Fr w h1 (hp h1 w 11 0) := Fr.hp _ _ _ (by omega) (by omega) (by omega)
  have hMt : ∀ h0 t l, S1 0 - S1 (276 + 12 * f + 3) < t → p_X10_takes (mt h0 S t l) 110 (nI b) = some (nI f, mt h0 (upd S1 (68 + 13 * b + 7) (-2)) t l) := fun h0 t l hx => by
    have c1 : ¬ nI f = -1 := fun u => by
      have := nI_pos (n := f) (by omega)
      rw [u] at this
      exact this (by decide)
    unfold p_X10_takes
    rw [m_first_y h0 S t l R.i1 hn hf hs hm, Option.bind_some]
    dsimp only
    rw [m_puts_11 h0 S t l _ hb, Option.bind_some, if_neg c1, hM, Option.bind_some, m_frameOf_3 h0 S1 t l hf2, Option.bind_some]
    dsimp only
    rw [m_target, Option.bind_some]
    dsimp only
    rw [mt_r h0 S1 t l (k := 0) (by omega) (by omega), m_puts_7 h0 S1 t l _ hb, Option.bind_some, m_of_12 h0 S1 t l hb, Option.bind_some]
    dsimp only
    rw [if_pos hx]
  have hMs : ∀ h0 t l, ¬ S1 0 - S1 (276 + 12 * f + 3) < t → ¬ S1 8 ≤ S1 (68 + 13 * b + 12) → p_X10_takes (mt h0 S t l) 110 (nI b) = some (nI f, mt h0 (upd S1 (68 + 13 * b + 7) (-2)) t l) := fun h0 t l hx hsm => by
    have c1 : ¬ nI f = -1 := fun u => by
      have := nI_pos (n := f) (by omega)
      rw [u] at this
      exact this (by decide)
    unfold p_X10_takes
    rw [m_first_y h0 S t l R.i1 hn hf hs hm, Option.bind_some]
    dsimp only
    rw [m_puts_11 h0 S t l _ hb, Option.bind_some, if_neg c1, hM, Option.bind_some, m_frameOf_3 h0 S1 t l hf2, Option.bind_some]
    dsimp only
    rw [m_target, Option.bind_some]
    dsimp only
    rw [mt_r h0 S1 t l (k := 0) (by omega) (by omega), m_puts_7 h0 S1 t l _ hb, Option.bind_some, m_of_12 h0 S1 t l hb, Option.bind_some]
    dsimp only
    rw [if_neg hx, if_neg (show ¬ mt h0 S1 t l (110 + 6) 8 ≤ S1 (68 + 13 * b + 12) by rw [mt_r _ _ _ _ (by omega) (by omega)]; exact hsm), m_puts_7 h0 S1 t l _ hb, Option.bind_some]
  have hMa : ∀ h0 t l, ¬ S1 0 - S1 (276 + 12 * f + 3) < t → S1 8 ≤ S1 (68 + 13 * b + 12) → S1 (68 + 13 * b + 7) = -2 → p_X10_takes (mt h0 S t l) 110 (nI b) = some (nI f, mt h0 (upd S1 (68 + 13 * b + 7) (S1 0 + S1 5)) t l) := fun h0 t l hx hsm hab => by
    have c1 : ¬ nI f = -1 := fun u => by
      have := nI_pos (n := f) (by omega)
      rw [u] at this
      exact this (by decide)
    unfold p_X10_takes
    rw [m_first_y h0 S t l R.i1 hn hf hs hm, Option.bind_some]
    dsimp only
    rw [m_puts_11 h0 S t l _ hb, Option.bind_some, if_neg c1, hM, Option.bind_some, m_frameOf_3 h0 S1 t l hf2, Option.bind_some]
    dsimp only
    rw [m_target, Option.bind_some]
    dsimp only
    rw [mt_r h0 S1 t l (k := 0) (by omega) (by omega), m_puts_7 h0 S1 t l _ hb, Option.bind_some, m_of_12 h0 S1 t l hb, Option.bind_some]
    dsimp only
    rw [if_neg hx, if_pos (show mt h0 S1 t l (110 + 6) 8 ≤ S1 (68 + 13 * b + 12) by rw [mt_r _ _ _ _ (by omega) (by omega)]; exact hsm), m_of_7 h0 S1 t l hb, Option.bind_some]
    dsimp only
    rw [if_pos hab, m_interval, Option.bind_some]
    dsimp only
    rw [mt_r h0 S1 t l (k := 0) (by omega) (by omega), m_puts_7 h0 S1 t l _ hb, Option.bind_some]
  have hMn : ∀ h0 t l, ¬ S1 0 - S1 (276 + 12 * f + 3) < t → S1 8 ≤ S1 (68 + 13 * b + 12) → ¬ S1 (68 + 13 * b + 7) = -2 → S1 0 < S1 (68 + 13 * b + 7) → p_X10_takes (mt h0 S t l) 110 (nI b) = some (nI f, mt h0 (S1) t l) := fun h0 t l hx hsm hab hnw => by
    have c1 : ¬ nI f = -1 := fun u => by
      have := nI_pos (n := f) (by omega)
      rw [u] at this
      exact this (by decide)
    unfold p_X10_takes
    rw [m_first_y h0 S t l R.i1 hn hf hs hm, Option.bind_some]
    dsimp only
    rw [m_puts_11 h0 S t l _ hb, Option.bind_some, if_neg c1, hM, Option.bind_some, m_frameOf_3 h0 S1 t l hf2, Option.bind_some]
    dsimp only
    rw [m_target, Option.bind_some]
    dsimp only
    rw [mt_r h0 S1 t l (k := 0) (by omega) (by omega), m_puts_7 h0 S1 t l _ hb, Option.bind_some, m_of_12 h0 S1 t l hb, Option.bind_some]
    dsimp only
    rw [if_neg hx, if_pos (show mt h0 S1 t l (110 + 6) 8 ≤ S1 (68 + 13 * b + 12) by rw [mt_r _ _ _ _ (by omega) (by omega)]; exact hsm), m_of_7 h0 S1 t l hb, Option.bind_some]
    dsimp only
    rw [if_neg hab, m_of_7 h0 S1 t l hb, Option.bind_some]
    dsimp only
    rw [if_pos (show mt h0 S1 t l (110 + 6) 0 < S1 (68 + 13 * b + 7) by rw [mt_r _ _ _ _ (by omega) (by omega)]; exact hnw)]
  have hMl : ∀ h0 t l, ¬ S1 0 - S1 (276 + 12 * f + 3) < t → S1 8 ≤ S1 (68 + 13 * b + 12) → ¬ S1 (68 + 13 * b + 7) = -2 → ¬ S1 0 < S1 (68 + 13 * b + 7) → p_X10_takes (mt h0 S t l) 110 (nI b) = some (nI f, mt h0 (upd S1 (68 + 13 * b + 11) 1) t l) := fun h0 t l hx hsm hab hnw => by
    have c1 : ¬ nI f = -1 := fun u => by
      have := nI_pos (n := f) (by omega)
      rw [u] at this
      exact this (by decide)
    unfold p_X10_takes
    rw [m_first_y h0 S t l R.i1 hn hf hs hm, Option.bind_some]
    dsimp only
    rw [m_puts_11 h0 S t l _ hb, Option.bind_some, if_neg c1, hM, Option.bind_some, m_frameOf_3 h0 S1 t l hf2, Option.bind_some]
    dsimp only
    rw [m_target, Option.bind_some]
    dsimp only
    rw [mt_r h0 S1 t l (k := 0) (by omega) (by omega), m_puts_7 h0 S1 t l _ hb, Option.bind_some, m_of_12 h0 S1 t l hb, Option.bind_some]
    dsimp only
    rw [if_neg hx, if_pos (show mt h0 S1 t l (110 + 6) 8 ≤ S1 (68 + 13 * b + 12) by rw [mt_r _ _ _ _ (by omega) (by omega)]; exact hsm), m_of_7 h0 S1 t l hb, Option.bind_some]
    dsimp only
    rw [if_neg hab, m_of_7 h0 S1 t l hb, Option.bind_some]
    dsimp only
    rw [if_neg (show ¬ mt h0 S1 t l (110 + 6) 0 < S1 (68 + 13 * b + 7) by rw [mt_r _ _ _ _ (by omega) (by omega)]; exact hnw), m_puts_11 h0 S1 t l _ hb, Option.bind_some]
  have hlt : ∀ x : Int32, ¬ x < h (w + 1) 0 → tb 11 ≤ (if x < h w 12 then x else h w 12) := fun x hx => by
    split
    · exact Int32.le_trans R.lt.1 (fa_of_nlt hx)
    · exact R.lt.2
  have hC2 : p_X8_take h w (w + 16 + 1 + b) = if S1 0 - S1 (276 + 12 * f + 3) < h (w + 1) 0 then some (nI f, hp (hp h1 w 11 0) (w + 16 + 1 + b) 10 (-2)) else if S1 8 ≤ S1 (68 + 13 * b + 12) then (if S1 (68 + 13 * b + 7) = -2 then some (nI f, hp (hp (hp h1 w 11 0) w 12 (if S1 0 - S1 (276 + 12 * f + 3) < h w 12 then S1 0 - S1 (276 + 12 * f + 3) else h w 12)) (w + 16 + 1 + b) 10 (S1 0 + S1 5)) else if S1 0 < S1 (68 + 13 * b + 7) then some (nI f, hp (hp (hp h1 w 11 0) w 12 (if S1 0 - S1 (276 + 12 * f + 3) < h w 12 then S1 0 - S1 (276 + 12 * f + 3) else h w 12)) w 11 0) else some (nI f, hp (hp (hp h1 w 11 0) w 12 (if S1 0 - S1 (276 + 12 * f + 3) < h w 12 then S1 0 - S1 (276 + 12 * f + 3) else h w 12)) w 11 1)) else some (nI f, hp (hp (hp h1 w 11 0) w 12 (if S1 0 - S1 (276 + 12 * f + 3) < h w 12 then S1 0 - S1 (276 + 12 * f + 3) else h w 12)) (w + 16 + 1 + b) 10 (-2)) := by
    have c2 : ib (nI f) 200 := ib_n (by omega) (by omega)
    have e1 : (nI f).toNatClampNeg = f := nI_clamp (by omega)
    have r12 : hp h1 w 11 0 w 12 = h w 12 := by rw [hp_k _ _ (by decide), fw 12 (by omega) (by omega)]
    have rT := hT _ hFL
    unfold p_X8_take
    rw [hU, Option.bind_some]
    simp only [nv_eq, has_y R2 hf, Option.bind_some, if_neg one_nz, if_pos c2, e1, R2.now, R2.f4 hf, rT, r12]
    by_cases hw : S1 0 - S1 (276 + 12 * f + 3) < h (w + 1) 0
    · simp only [if_pos hw, q_X8_take_67, rT, nv_eq]
    · have R3 := R2.ll (if S1 0 - S1 (276 + 12 * f + 3) < h w 12 then S1 0 - S1 (276 + 12 * f + 3) else h w 12) (hlt _ hw)
      have rT3 := hT _ (hFL.trans (Fr.hp (hp h1 w 11 0) 12 (if S1 0 - S1 (276 + 12 * f + 3) < h w 12 then S1 0 - S1 (276 + 12 * f + 3) else h w 12) (Nat.le_refl w) (by omega) (by omega)))
      simp only [if_neg hw, q_X8_take_67, rT3, nv_eq, R3.sml, R3.b4 hb, R3.b10 hb, R3.now, R3.itv]
  have hx : ∀ T t LL : Int32, T ≤ S1 0 - S1 (276 + 12 * f + 3) → Tk T t (if S1 0 - S1 (276 + 12 * f + 3) < LL then S1 0 - S1 (276 + 12 * f + 3) else LL) → ¬ S1 0 - S1 (276 + 12 * f + 3) < t := fun T t LL h2 h3 u => by
    rcases h3 with h3 | h3
    · rw [h3] at u
      exact (fa_of_lt u).2.1 h2
    · exact (fa_of_lt u).2.1 (Int32.le_trans h3.2 (min_le2 _ _))
  by_cases hw : S1 0 - S1 (276 + 12 * f + 3) < h (w + 1) 0
  · rw [if_pos hw] at hC2
    have ht : ∀ t LL, Tk (h (w + 1) 0) t LL → S1 0 - S1 (276 + 12 * f + 3) < t := fun t LL h3 => by
      rcases h3 with h3 | h3
      · rw [h3]
        exact hw
      · exact fa_trans hw h3.1
    refine ⟨_, upd S1 (68 + 13 * b + 7) (-2), hC2, fun h0 t l h3 => hMt h0 t l (ht t _ h3), hf, R2.u10 hb (-2), ?_, ?_, ?_, ?_, hF1.trans (hFL.trans (Fr.hp _ _ _ (by omega) (by omega) (by omega))), ?_, ?_, fun b' hb' => ?_, ?_, ?_, fun b' g hg u => ?_⟩
    · rw [upd_n _ _ (by omega), s6]
    · rw [upd_n _ _ (by omega), s5]
    · rw [upd_n _ _ (by omega), s11, hp_o' _ _ (by omega), hp_s]
    · rw [hp_o' _ _ (by omega), hp_s]
      exact rg_0 1
    · simp (disch := omega) only [hp_s, hp_o', hp_k, fw]
    · simp (disch := omega) only [hp_s, hp_o', hp_k, fw]
      exact Int32.le_refl _
    · rw [upd_n _ _ (by omega), s1 b' hb']
    · rw [← scn, fa_cnt_cong (p := sd (upd S1 (68 + 13 * b + 7) (-2))) (q := sd S1) (fun k hk => by unfold sd; rw [upd_n _ _ (by omega)])]
    · rw [upd_n _ _ (by omega), s14]
    · exact ssb b' g hg (by rw [sb_cong (S := S1) (upd_n _ _ (by omega)) (upd_n _ _ (by omega))] at u; exact u)
  · rw [if_neg hw] at hC2
    have hle := fa_of_nlt hw
    have R3 := R2.ll (if S1 0 - S1 (276 + 12 * f + 3) < h w 12 then S1 0 - S1 (276 + 12 * f + 3) else h w 12) (hlt _ hw)
    have hF3 : Fr w h (hp (hp h1 w 11 0) w 12 (if S1 0 - S1 (276 + 12 * f + 3) < h w 12 then S1 0 - S1 (276 + 12 * f + 3) else h w 12)) := hF1.trans (hFL.trans (Fr.hp _ _ _ (Nat.le_refl w) (by omega) (by omega)))
    by_cases hsm : S1 8 ≤ S1 (68 + 13 * b + 12)
    · rw [if_pos hsm] at hC2
      by_cases hab : S1 (68 + 13 * b + 7) = -2
      · rw [if_pos hab] at hC2
        refine ⟨_, upd S1 (68 + 13 * b + 7) (S1 0 + S1 5), hC2, fun h0 t l h3 => hMa h0 t l (hx _ t _ hle (by simpa (disch := omega) only [hp_s, hp_o', hp_k] using h3)) hsm hab, hf, R3.u10 hb (S1 0 + S1 5), ?_, ?_, ?_, ?_, hF3.trans (Fr.hp _ _ _ (by omega) (by omega) (by omega)), ?_, ?_, fun b' hb' => ?_, ?_, ?_, fun b' g hg u => ?_⟩
        · rw [upd_n _ _ (by omega), s6]
        · rw [upd_n _ _ (by omega), s5]
        · rw [upd_n _ _ (by omega), s11, hp_o' _ _ (by omega), hp_k _ _ (by omega), hp_s]
        · rw [hp_o' _ _ (by omega), hp_k _ _ (by omega), hp_s]
          exact rg_0 1
        · simp (disch := omega) only [hp_s, hp_o', hp_k, fw]
        · simp (disch := omega) only [hp_s, hp_o', hp_k, fw]
          exact min_le _ _
        · rw [upd_n _ _ (by omega), s1 b' hb']
        · rw [← scn, fa_cnt_cong (p := sd (upd S1 (68 + 13 * b + 7) (S1 0 + S1 5))) (q := sd S1) (fun k hk => by unfold sd; rw [upd_n _ _ (by omega)])]
        · rw [upd_n _ _ (by omega), s14]
        · exact ssb b' g hg (by rw [sb_cong (S := S1) (upd_n _ _ (by omega)) (upd_n _ _ (by omega))] at u; exact u)
      · rw [if_neg hab] at hC2
        by_cases hnw : S1 0 < S1 (68 + 13 * b + 7)
        · rw [if_pos hnw] at hC2
          refine ⟨_, S1, hC2, fun h0 t l h3 => hMn h0 t l (hx _ t _ hle (by simpa (disch := omega) only [hp_s, hp_o', hp_k] using h3)) hsm hab hnw, hf, R3.late 0, ?_, ?_, ?_, ?_, hF3.trans (Fr.hp _ _ _ (Nat.le_refl w) (by omega) (by omega)), ?_, ?_, fun b' hb' => ?_, ?_, ?_, fun b' g hg u => ?_⟩
          · rw [s6]
          · rw [s5]
          · rw [hp_s, s11]
          · rw [hp_s]
            exact rg_0 1
          · simp (disch := omega) only [hp_s, hp_o', hp_k, fw]
          · simp (disch := omega) only [hp_s, hp_o', hp_k, fw]
            exact min_le _ _
          · rw [s1 b' hb']
          · exact scn
          · rw [s14]
          · exact ssb b' g hg u
        · rw [if_neg hnw] at hC2
          refine ⟨_, upd S1 (68 + 13 * b + 11) 1, hC2, fun h0 t l h3 => hMl h0 t l (hx _ t _ hle (by simpa (disch := omega) only [hp_s, hp_o', hp_k] using h3)) hsm hab hnw, hf, (R3.late 1).mlate hb 1, ?_, ?_, ?_, ?_, hF3.trans (Fr.hp _ _ _ (Nat.le_refl w) (by omega) (by omega)), ?_, ?_, fun b' hb' => ?_, ?_, ?_, fun b' g hg u => ?_⟩
          · rw [upd_n _ _ (by omega), s6]
          · rw [upd_n _ _ (by omega), s5]
          · rw [hp_s, upd_s]
          · rw [hp_s]
            exact rg_1 (by omega)
          · simp (disch := omega) only [hp_s, hp_o', hp_k, fw]
          · simp (disch := omega) only [hp_s, hp_o', hp_k, fw]
            exact min_le _ _
          · rw [upd_n _ _ (by omega), s1 b' hb']
          · rw [← scn, fa_cnt_cong (p := sd (upd S1 (68 + 13 * b + 11) 1)) (q := sd S1) (fun k hk => by unfold sd; rw [upd_n _ _ (by omega)])]
          · rw [upd_n _ _ (by omega), s14]
          · exact ssb b' g hg (by rw [sb_cong (S := S1) (upd_n _ _ (by omega)) (upd_n _ _ (by omega))] at u; exact u)
    · rw [if_neg hsm] at hC2
      refine ⟨_, upd S1 (68 + 13 * b + 7) (-2), hC2, fun h0 t l h3 => hMs h0 t l (hx _ t _ hle (by simpa (disch := omega) only [hp_s, hp_o', hp_k] using h3)) hsm, hf, R3.u10 hb (-2), ?_, ?_, ?_, ?_, hF3.trans (Fr.hp _ _ _ (by omega) (by omega) (by omega)), ?_, ?_, fun b' hb' => ?_, ?_, ?_, fun b' g hg u => ?_⟩
      · rw [upd_n _ _ (by omega), s6]
      · rw [upd_n _ _ (by omega), s5]
      · rw [upd_n _ _ (by omega), s11, hp_o' _ _ (by omega), hp_k _ _ (by omega), hp_s]
      · rw [hp_o' _ _ (by omega), hp_k _ _ (by omega), hp_s]
        exact rg_0 1
      · simp (disch := omega) only [hp_s, hp_o', hp_k, fw]
      · simp (disch := omega) only [hp_s, hp_o', hp_k, fw]
        exact min_le _ _
      · rw [upd_n _ _ (by omega), s1 b' hb']
      · rw [← scn, fa_cnt_cong (p := sd (upd S1 (68 + 13 * b + 7) (-2))) (q := sd S1) (fun k hk => by unfold sd; rw [upd_n _ _ (by omega)])]
      · rw [upd_n _ _ (by omega), s14]
      · exact ssb b' g hg (by rw [sb_cong (S := S1) (upd_n _ _ (by omega)) (upd_n _ _ (by omega))] at u; exact u)
end Ty
