/-! a frame is dropped, marked, sent -/
def Sd (S S' : Nat → Int32) : Prop := ∀ k, k < 14 ∨ (68 ≤ k ∧ k < 276) → S' k = S k
theorem Sd.trans {S S1 S2 : Nat → Int32} (a : Sd S S1) (b : Sd S1 S2) : Sd S S2 := fun k hk => (b k hk).trans (a k hk)
section Dr
variable {bg rl : Bool} {tb : Nat → Int32} {m y sn Bd n N tk : Nat} {nw ol L : List Nat} {h : Hp} {w : Nat} {S : Nat → Int32}
theorem tk_lt {f : Nat} (R : Rel bg rl tb m y sn Bd n N f nw ol L h w S) (hf2 : f < 200) : f < n ∧ L.length < 200 := by
  have h1 := (R.el.2.2.2.2.2.2.1 hf2).1
  have h2 := R.el.lr200 R.n200
  rw [lr_in _ hf2, List.length_append] at h2
  have h3 : L.length + 1 ≤ n := h2
  have h4 := R.n200
  exact ⟨h1, by omega⟩
theorem drop_sim {f : Nat} (R : Rel bg rl tb m y sn Bd n N f nw ol L h w S) (hf2 : f < 200) (h5 : S (276 + 12 * f + 5) = 0) : ∃ h' S', p_X8_drop h w (nI f) = some h' ∧ (∀ hm t l, p_X10_drops (mt hm S t l) 110 (nI f) = some (mt hm S' t l)) ∧ Rel bg rl tb m y sn Bd n N 200 nw ol (L ++ [f]) h' w S' ∧ Fr w h h' ∧ h' w 10 = h w 10 ∧ h' w 11 = h w 11 ∧ h' w 12 = h w 12 ∧ Sd S S' ∧ fa_cnt (sd S') n = fa_cnt (sd S) n ∧ S' 17 = S 17 ∧ ∀ b' g, g < n → sb S' b' g = true → sb S b' g = true := by
  obtain ⟨hf, hl⟩ := tk_lt R hf2
  have hn := R.n200
  have hb0 := (R.el.2.2.2.2.2.2.1 hf2).2.1
  have R1 := R.fin2 hf2 h5
  have hc1 : (pl S 2 L).length < 200 := Nat.lt_of_le_of_lt (List.length_filter_le _ _) hl
  have hE : p_X1_end h (w + 2) (nI f) 2 (h w 7) = some (hp (hp (hp (hp (hp h (w + 2 + 9) f (nI 2)) (w + 2 + 10) f (nI N)) (w + 2 + 12) L.length (nI f)) (w + 2) 14 (nI (L.length + 1))) (w + 2 + 13) 2 (h (w + 2 + 13) 2 + 1)) := by
    rw [R.now, R.i0]
    exact end_c R hf hl (c := 2) (by omega)
  generalize hh1 : hp (hp (hp (hp (hp h (w + 2 + 9) f (nI 2)) (w + 2 + 10) f (nI N)) (w + 2 + 12) L.length (nI f)) (w + 2) 14 (nI (L.length + 1))) (w + 2 + 13) 2 (h (w + 2 + 13) 2 + 1) = h1 at R1 hE
  obtain ⟨d, d', hC, hM, R2⟩ := nsim_1 R1 (S (276 + 12 * f + 0))
  have hFr : Fr w h h1 := by
    rw [← hh1]
    exact ((((Fr.hp _ _ _ (by omega) (by omega) (by omega)).trans (Fr.hp _ _ _ (by omega) (by omega) (by omega))).trans (Fr.hp _ _ _ (by omega) (by omega) (by omega))).trans (Fr.hp _ _ _ (by omega) (by omega) (by omega))).trans (Fr.hp _ _ _ (by omega) (by omega) (by omega))
  have hw : ∀ j, h1 w j = h w j := fun j => by
    rw [← hh1]
    simp (disch := omega) only [hp_o']
  refine ⟨_, _, ?_, fun h0 t l => ?_, R2, hFr.trans (Fr.vu _ _ (by omega) (by omega) (by omega)), ?_, ?_, ?_, fun k hk => ?_, ?_, ?_, fun b' g hg u => ?_⟩
  · have hkey : h1 (w + 2 + 1) f = S (276 + 12 * f + 0) := by
      rw [R1.f1 hf]
      simp (disch := omega) only [sHap_n, upd_n]
    unfold p_X8_drop
    rw [has_y R hf, Option.bind_some]
    dsimp only
    rw [if_neg one_nz, hE, Option.bind_some, if_pos (ib_n (by omega) (by omega)), nI_clamp (by omega), hkey, hC, Option.bind_some]
  · have e1 : p_X10_frames (mt h0 S t l) 110 (nI f) 6 2 = some (mt h0 (upd S (276 + 12 * f + 6) (nI 2)) t l) := m_frames_6 h0 S t l (nI 2) hf2
    have e2 : p_X10_happens (mt h0 (upd S (276 + 12 * f + 6) (nI 2)) t l) 110 1 (nI f) = some (mt h0 (sHap (upd S (276 + 12 * f + 6) (nI 2)) 1 (pl S 2 L).length f) t l) := m_happens h0 _ t l (k := 1) (by omega) hc1 (by rw [upd_n _ _ (by omega)]; exact R.ep.2.2.1)
    have e3 : sHap (upd S (276 + 12 * f + 6) (nI 2)) 1 (pl S 2 L).length f (276 + 12 * f + 0) = S (276 + 12 * f + 0) := by simp (disch := omega) only [sHap_n, upd_n]
    unfold p_X10_drops
    rw [e1, Option.bind_some, e2, Option.bind_some, m_frameOf_0 h0 _ t l hf2, Option.bind_some]
    dsimp only
    rw [e3, hM, Option.bind_some]
  · rw [vu_o _ _ (by omega), hw]
  · rw [vu_o _ _ (by omega), hw]
  · rw [vu_o _ _ (by omega), hw]
  · simp (disch := omega) only [wup_n, sHap_n, upd_n]
  · refine fa_cnt_cong fun k hk => ?_
    unfold sd
    by_cases e : k = f
    · subst e
      simp (disch := omega) only [wup_n, sHap_n, upd_s]
      exact decide_eq_decide.mpr ⟨fun u => absurd u (by decide), fun u => absurd u hb0⟩
    · simp (disch := omega) only [wup_n, sHap_n, upd_n]
  · simp (disch := omega) only [wup_n, sHap_n, upd_n]
  · by_cases e : g = f
    · subst e
      have := (sb_t.mp u).2
      simp (disch := omega) only [wup_n, sHap_n, upd_s] at this
      exact absurd this (by decide)
    · rw [sb_cong (S := S) (by simp (disch := omega) only [wup_n, sHap_n, upd_n]) (by simp (disch := omega) only [wup_n, sHap_n, upd_n])] at u
      exact u
theorem mark_sim {f : Nat} (R : Rel bg rl tb m y sn Bd n N f nw ol L h w S) (hf2 : f < 200) (h5 : S (276 + 12 * f + 5) = 0) (h6 : S (276 + 12 * f + 6) = 1) : ∃ h' S', p_X8_mark h w (nI f) = some h' ∧ (∀ hm t l, p_X10_marks (mt hm S t l) 110 (nI f) = some (mt hm S' t l)) ∧ Rel bg rl tb m y sn Bd n N f nw ol L h' w S' ∧ Fr w h h' ∧ h' w 10 = h w 10 ∧ h' w 11 = h w 11 ∧ h' w 12 = h w 12 ∧ Sd S S' ∧ fa_cnt (sd S') n = fa_cnt (sd S) n ∧ S' 17 = S 17 ∧ S' (276 + 12 * f + 6) = 1 ∧ ∀ b' g, g < n → sb S' b' g = true → sb S b' g = true := by
  obtain ⟨hf, hl⟩ := tk_lt R hf2
  have hn := R.n200
  have R1 := R.mrk hf2 h5 h6
  have hml : (ml S (lr f L)).length < 200 := by
    rw [lr_in _ hf2]
    unfold ml
    rw [List.filter_append, List.filter_cons_of_neg (by rw [h5]; decide)]
    have := List.length_filter_le (fun f => decide (S (276 + 12 * f + 5) = 1)) L
    simp only [List.filter_nil, List.append_nil]
    omega
  have hr : h (w + 2 + 8) f = 0 := by rw [R.f8 hf, h5]
  have hby : hp (hp h (w + 2 + 8) f 1) (w + 2 + 13) 4 (h (w + 2 + 13) 4 + 1) (w + 2 + 2) f = S (276 + 12 * f + 1) := by
    rw [R1.f2 hf]
    simp (disch := omega) only [sHap_n, upd_n]
  obtain ⟨d, d', hC, hM, R2⟩ := nsim_3 R1 (S (276 + 12 * f + 1))
  refine ⟨_, _, ?_, fun h0 t l => ?_, R2, ((Fr.hp _ _ _ (by omega) (by omega) (by omega)).trans (Fr.hp _ _ _ (by omega) (by omega) (by omega))).trans (Fr.vu _ _ (by omega) (by omega) (by omega)), ?_, ?_, ?_, fun k hk => ?_, ?_, ?_, ?_, fun b' g hg u => ?_⟩
  · have c1 : ib (nI f) 200 := ib_n (by omega) (by omega)
    have e1 : (nI f).toNatClampNeg = f := nI_clamp (by omega)
    have e2 : hp h (w + 2 + 8) f 1 (w + 2 + 13) 4 = h (w + 2 + 13) 4 := hp_o' _ _ (by omega)
    unfold p_X8_mark
    simp only [has_y R hf, Option.bind_some, if_neg one_nz, if_pos c1, e1, if_pos hr, nv_eq, e2, hby, hC, Option.bind_some]
  · have e1 : p_X10_frames (mt h0 S t l) 110 (nI f) 5 1 = some (mt h0 (upd S (276 + 12 * f + 5) 1) t l) := m_frames_5 h0 S t l 1 hf2
    have e2 : p_X10_happens (mt h0 (upd S (276 + 12 * f + 5) 1) t l) 110 2 (nI f) = some (mt h0 (sHap (upd S (276 + 12 * f + 5) 1) 2 (ml S (lr f L)).length f) t l) := m_happens h0 _ t l (k := 2) (by omega) hml (by rw [upd_n _ _ (by omega)]; exact R.ep.2.2.2.2.1)
    have e3 : sHap (upd S (276 + 12 * f + 5) 1) 2 (ml S (lr f L)).length f (276 + 12 * f + 1) = S (276 + 12 * f + 1) := by simp (disch := omega) only [sHap_n, upd_n]
    unfold p_X10_marks
    rw [e1, Option.bind_some, e2, Option.bind_some, m_frameOf_1 h0 _ t l hf2, Option.bind_some]
    dsimp only
    rw [e3, hM, Option.bind_some]
  · simp (disch := omega) only [vu_o, hp_o']
  · simp (disch := omega) only [vu_o, hp_o']
  · simp (disch := omega) only [vu_o, hp_o']
  · simp (disch := omega) only [wup_n, sHap_n, upd_n]
  · refine fa_cnt_cong fun k hk => ?_
    unfold sd
    simp (disch := omega) only [wup_n, sHap_n, upd_n]
  · simp (disch := omega) only [wup_n, sHap_n, upd_n]
  · simp (disch := omega) only [wup_n, sHap_n, upd_n, h6]
  · rw [sb_cong (S := S) (by simp (disch := omega) only [wup_n, sHap_n, upd_n]) (by simp (disch := omega) only [wup_n, sHap_n, upd_n])] at u
    exact u
/-- how long it takes to send -/
theorem quo {h : Hp} {x r : Nat} (hx : x ≤ 1500) (hx1 : 1 ≤ x) (hr : r ≤ 1500) : ∃ q, q ≤ 1500 ∧ p_X9_quotientUp h (nI x) (nI r) = some (nI q, h) ∧ (r = 0 → q = 0) ∧ (0 < r → ((nI x + nI r) - 1) / nI r = nI q) := by
  unfold p_X9_quotientUp
  rcases Nat.eq_zero_or_pos r with e | e
  · subst e
    exact ⟨0, by omega, by rw [if_pos (by decide)]; rfl, fun _ => rfl, fun u => absurd u (by omega)⟩
  · have c1 : ¬ nI r ≤ (0 : Int32) := nI_nle e (by omega)
    have c2 : ¬ nI r = 0 := nI_ne0 e (by omega)
    have e1 : ((nI x + nI r) - 1) / nI r = nI ((x + r - 1) / r) := by
      rw [nI_add, show x + r = (x + r - 1) + 1 by omega, nI_pred, show x + r - 1 + 1 - 1 = x + r - 1 by omega]
      exact pk_div (by omega) e (by omega)
    refine ⟨(x + r - 1) / r, ?_, ?_, fun u => by omega, fun _ => e1⟩
    · refine Nat.le_trans (Nat.div_le_of_le_mul ?_) hx
      have : r * x ≥ x + r - 1 := by
        obtain ⟨r', rfl⟩ : ∃ r', r = r' + 1 := ⟨r - 1, by omega⟩
        obtain ⟨x', rfl⟩ : ∃ x', x = x' + 1 := ⟨x - 1, by omega⟩
        rw [Nat.mul_comm, Nat.succ_mul, Nat.mul_succ]
        omega
      exact this
    · rw [if_neg c1, if_pos c2, e1]
theorem send_sim {b f : Nat} (R : Rel bg rl tb m y sn Bd n N f nw ol L h w S) (hb : b < 16) (hf2 : f < 200) (h6 : S (276 + 12 * f + 6) = 1) (hd : 0 < (S (68 + 13 * b + 1)).toInt) : ∃ h' S' N', p_X8_send h w (w + 16 + 1 + b) (nI f) = some h' ∧ (∀ hm t l, p_X10_sends (mt hm S t l) 110 (nI b) (nI f) = some (mt hm S' t l)) ∧ Rel bg rl tb m y sn Bd n N' 200 nw ol (L ++ [f]) h' w S' ∧ Fr w h h' ∧ h' w 10 = h w 10 ∧ h' w 12 = h w 12 ∧ fa_cnt (sd S') n = fa_cnt (sd S) n ∧ (∀ b' g, g < n → sb S' b' g = true → sb S b' g = true) ∧ S' 17 = S 17 := by
  obtain ⟨hf, hl⟩ := tk_lt R hf2
  have hn := R.n200
  have hN := R.N5
  obtain ⟨_, hb0, hwf⟩ := R.el.2.2.2.2.2.2.1 hf2
  have R1 := R.fin1 hf2
  have hc1 : (pl S 1 L).length < 200 := Nat.lt_of_le_of_lt (List.length_filter_le _ _) hl
  obtain ⟨by1, hby1, hby2, hby⟩ := (R.fi.1 f hf).2.1
  obtain ⟨ra, _, hra2, hra⟩ := R.i9
  have hus : upd S (276 + 12 * f + 6) (nI 1) = S := fa_upd_same h6
  rw [hus] at R1
  have hE : p_X1_end h (w + 2) (nI f) 1 (h w 7) = some (hp (hp (hp (hp (hp h (w + 2 + 9) f (nI 1)) (w + 2 + 10) f (nI N)) (w + 2 + 12) L.length (nI f)) (w + 2) 14 (nI (L.length + 1))) (w + 2 + 13) 1 (h (w + 2 + 13) 1 + 1)) := by
    rw [R.now, R.i0]
    exact end_c R hf hl (c := 1) (by omega)
  generalize hh1 : hp (hp (hp (hp (hp h (w + 2 + 9) f (nI 1)) (w + 2 + 10) f (nI N)) (w + 2 + 12) L.length (nI f)) (w + 2) 14 (nI (L.length + 1))) (w + 2 + 13) 1 (h (w + 2 + 13) 1 + 1) = h1 at R1 hE
  have hFr1 : Fr w h h1 := by
    rw [← hh1]
    exact ((((Fr.hp _ _ _ (by omega) (by omega) (by omega)).trans (Fr.hp _ _ _ (by omega) (by omega) (by omega))).trans (Fr.hp _ _ _ (by omega) (by omega) (by omega))).trans (Fr.hp _ _ _ (by omega) (by omega) (by omega))).trans (Fr.hp _ _ _ (by omega) (by omega) (by omega))
  have hw1 : ∀ j, h1 w j = h w j := fun j => by
    rw [← hh1]
    simp (disch := omega) only [hp_o']
  have sH : ∀ k, k < 14 ∨ (18 ≤ k ∧ k < 2676) ∨ 3476 ≤ k → sHap S 0 (pl S 1 L).length f k = S k := fun k hk => sHap_n _ (by omega) (by omega)
  have s14 : sHap S 0 (pl S 1 L).length f 14 = nI ((pl S 1 L).length + 1) := sHap_c (k := 0) _
  have hdm := (R.br b hb).2.1
  have hds : (S (68 + 13 * b + 1) - S (276 + 12 * f + 1)).toInt = (S (68 + 13 * b + 1)).toInt - by1 := by
    rw [hby, Int32.toInt_sub, nI_toInt (by omega)]
    exact bm32 (by omega) (by omega)
  have R2 := R1.u5 hb (S (68 + 13 * b + 1) - S (276 + 12 * f + 1)) (by omega) (by omega)
  generalize hS2 : upd (sHap S 0 (pl S 1 L).length f) (68 + 13 * b + 1) (S (68 + 13 * b + 1) - S (276 + 12 * f + 1)) = S2 at R2
  have t2 : ∀ k, k < 14 ∨ (18 ≤ k ∧ k < 2676) ∨ 3476 ≤ k → k ≠ 68 + 13 * b + 1 → S2 k = S k := fun k hk hk2 => by rw [← hS2, upd_n _ _ hk2, sH k hk]
  have t2d : S2 (68 + 13 * b + 1) = S (68 + 13 * b + 1) - S (276 + 12 * f + 1) := by rw [← hS2, upd_s]
  have t14 : S2 14 = nI ((pl S 1 L).length + 1) := by rw [← hS2, upd_n _ _ (by omega), s14]
  obtain ⟨d3, d3', hC3, hM3, R3⟩ := nsim_0 R2 (S 0 - S (276 + 12 * f + 3))
  obtain ⟨d4, d4', hC4, hM4, R4⟩ := nsim_2 R3 (S (68 + 13 * b + 1) - S (276 + 12 * f + 1)) (by omega) (by omega)
  generalize hS4 : wup (wup S2 d3') d4' = S4 at R4 hM4
  have t4 : ∀ k, k < 50 ∨ 68 ≤ k → S4 k = S2 k := fun k hk => by rw [← hS4, wup_n _ _ hk, wup_n _ _ hk]
  obtain ⟨q, hq1, hq2, hq3, hq4⟩ := quo (h := va_up (va_up (hp h1 (w + 16 + 1 + b) 5 (S (68 + 13 * b + 1) - S (276 + 12 * f + 1))) (w + 40 + 3) d3) (w + 40 + 3) d4) hby2 hby1 hra2
  have hpl4 : (pl S4 1 (L ++ [f])).length = (pl S 1 L).length + 1 := by
    have e1 := R4.ep.1
    rw [t4 14 (by omega), t14] at e1
    have e3 := List.length_filter_le (fun f => decide (S4 (276 + 12 * f + 6) = nI 1)) (L ++ [f])
    rw [List.length_append] at e3
    have e4 : (pl S4 1 (L ++ [f])).length ≤ L.length + 1 := e3
    exact (nI_inj (by omega) (by omega) e1).symm
  have hNb := R.ep.2.2.2.2.2.2.2.2.1
  have R5 := R4.time (N' := N + q) (Bd' := Bd) (Nat.le_refl _) (by omega) (by rw [hpl4]; omega) R.ep.2.2.2.2.2.2.2.2.2
  refine ⟨_, _, N + q, ?_, fun h0 t l => ?_, R5, ?_, ?_, ?_, ?_, fun b' g hg u => ?_, ?_⟩
  · have c1 : ib (nI f) 200 := ib_n (by omega) (by omega)
    have e1 : (nI f).toNatClampNeg = f := nI_clamp (by omega)
    have e2 : h1 (w + 16 + 1 + b) 5 = S (68 + 13 * b + 1) := by rw [R1.b5 hb, sH _ (by omega)]
    have e3 : h1 (w + 2 + 2) f = S (276 + 12 * f + 1) := by rw [R1.f2 hf, sH _ (by omega)]
    have e4 : p_X1_waitOf (hp h1 (w + 16 + 1 + b) 5 (S (68 + 13 * b + 1) - S (276 + 12 * f + 1))) (w + 2) (nI f) = some (S 0 - S (276 + 12 * f + 3), hp h1 (w + 16 + 1 + b) 5 (S (68 + 13 * b + 1) - S (276 + 12 * f + 1))) := by
      unfold p_X1_waitOf
      rw [if_pos c1, if_pos c1, e1, R2.f10 hf (by omega), R2.f4 hf, t2 _ (by omega) (by omega), t2 _ (by omega) (by omega), hwf, R.i0]
    have e5 : va_up (hp h1 (w + 16 + 1 + b) 5 (S (68 + 13 * b + 1) - S (276 + 12 * f + 1))) (w + 40 + 3) d3 (w + 16 + 1 + b) 5 = S (68 + 13 * b + 1) - S (276 + 12 * f + 1) := by rw [vu_o _ _ (by omega), hp_s]
    have e6 := (R4.f2 hf).trans ((t4 _ (by omega)).trans ((t2 _ (by omega) (by omega)).trans hby))
    have e7 := R4.rat.trans ((t4 _ (by omega)).trans ((t2 _ (by omega) (by omega)).trans hra))
    have e8 := R4.now.trans ((t4 _ (by omega)).trans ((t2 _ (by omega) (by omega)).trans R.i0))
    unfold p_X8_send
    rw [hE, Option.bind_some]
    simp only [if_pos c1, e1, e2, e3, nv_eq, e4, Option.bind_some, hC3, e5, hC4, e6, e7, hq2, e8, nI_add]
  · have e1 : sHap (upd S (68 + 13 * b + 1) (S (68 + 13 * b + 1) - S (276 + 12 * f + 1))) 0 (pl S 1 L).length f = S2 := by
      rw [← hS2]
      unfold sHap
      rw [upd_cm S (i := 68 + 13 * b + 1) (j := 2676 + 200 * 0 + (pl S 1 L).length) (by omega), upd_cm _ (i := 68 + 13 * b + 1) (j := 14 + 0) (by omega)]
    have e2 : p_X10_happens (mt h0 (upd S (68 + 13 * b + 1) (S (68 + 13 * b + 1) - S (276 + 12 * f + 1))) t l) 110 0 (nI f) = some (mt h0 S2 t l) := by
      rw [← e1]
      exact m_happens h0 _ t l (k := 0) (by omega) hc1 (by rw [upd_n _ _ (by omega)]; exact R.ep.1)
    have g0 : mt h0 S2 t l (110 + 6) 0 = S 0 := by rw [mt_r _ _ _ _ (by omega) (by omega), t2 _ (by omega) (by omega)]
    have g3 : S2 (276 + 12 * f + 3) = S (276 + 12 * f + 3) := t2 _ (by omega) (by omega)
    have g1 : wup S2 d3' (68 + 13 * b + 1) = S (68 + 13 * b + 1) - S (276 + 12 * f + 1) := by rw [wup_n _ _ (by omega), t2d]
    have g9 : mt h0 S4 t l (110 + 6) 9 = nI ra := by rw [mt_r _ _ _ _ (by omega) (by omega), t4 _ (by omega), t2 _ (by omega) (by omega), hra]
    have g0' : mt h0 S4 t l (110 + 6) 0 = nI N := by rw [mt_r _ _ _ _ (by omega) (by omega), t4 _ (by omega), t2 _ (by omega) (by omega), R.i0]
    have g2 : S4 (276 + 12 * f + 1) = nI by1 := by rw [t4 _ (by omega), t2 _ (by omega) (by omega), hby]
    unfold p_X10_sends
    rw [m_of_1 h0 S t l hb, Option.bind_some]
    dsimp only
    rw [m_frameOf_1 h0 S t l hf2, Option.bind_some]
    dsimp only
    rw [m_puts_1 h0 S t l _ hb, Option.bind_some, e2, Option.bind_some, m_frameOf_3 h0 S2 t l hf2, Option.bind_some]
    dsimp only
    rw [g0, g3, hM3, Option.bind_some, m_of_1 h0 _ t l hb, Option.bind_some]
    dsimp only
    rw [g1, hM4, Option.bind_some, g9, nv_eq]
    rcases Nat.eq_zero_or_pos ra with e | e
    · have hq0 := hq3 e
      subst e
      subst hq0
      rw [if_pos (by decide)]
      rw [fa_upd_same (f := S4) (i := 0) (x := nI (N + 0))]
      rw [t4 _ (by omega), t2 _ (by omega) (by omega), R.i0]
      rfl
    · have c1 : ¬ nI ra ≤ (0 : Int32) := nI_nle e (by omega)
      have c2 : ¬ nI ra = 0 := nI_ne0 e (by omega)
      rw [if_neg c1, m_frameOf_1 h0 S4 t l hf2, Option.bind_some]
      dsimp only
      rw [if_pos c2, g0', g2, hq4 e, nv_eq, nI_add, mt_hp _ _ _ _ _ (by omega) (by omega)]
  · exact (((hFr1.trans (Fr.hp _ _ _ (by omega) (by omega) (by omega))).trans (Fr.vu _ _ (by omega) (by omega) (by omega))).trans (Fr.vu _ _ (by omega) (by omega) (by omega))).trans (Fr.hp _ _ _ (by omega) (by omega) (by omega))
  · simp (disch := omega) only [vu_o, hp_o', hp_k, hw1]
  · simp (disch := omega) only [vu_o, hp_o', hp_k, hw1]
  · refine fa_cnt_cong fun k hk => ?_
    unfold sd
    rw [upd_n _ _ (by omega), t4 _ (by omega), t2 _ (by omega) (by omega)]
  · rw [sb_cong (S := S) (by rw [upd_n _ _ (by omega), t4 _ (by omega), t2 _ (by omega) (by omega)]) (by rw [upd_n _ _ (by omega), t4 _ (by omega), t2 _ (by omega) (by omega)])] at u
    exact u
  · rw [upd_n _ _ (by omega), t4 _ (by omega), ← hS2, upd_n _ _ (by omega)]
    exact sHap_n _ (by omega) (by omega)
end Dr

