/-! the reference: a frame comes -/
theorem m_q53 (h0 : Hp) (S : Nat → Int32) (t l : Int32) {b n : Nat} (key x may sh ow : Int32) (hn : n < 200) (hb : b < 16) (how : h0 110 22 = ow) : q_X10_comesIn_53 (mt h0 S t l) 110 key x may (nI b) (nI n) 110 (nI n) 9 sh = if mt h0 (sAdd S n b sh ow key x may) t l (110 + 6) 2 ≤ mt h0 (sAdd S n b sh ow key x may) t l (110 + 6) 3476 then q_X10_comesIn_228 (mt h0 (sAdd S n b sh ow key x may) t l) 110 (nI n) (110 + 6) 3476 (mt h0 (sAdd S n b sh ow key x may) t l (110 + 6) 3476) else q_X10_comesIn_228 (mt h0 (sAdd S n b sh ow key x may) t l) 110 (nI n) (110 + 6) 3476 (mt h0 (sAdd S n b sh ow key x may) t l (110 + 6) 2) := by
  have eo : ∀ T : Nat → Int32, mt h0 T t l 110 22 = ow := fun T => by rw [mt_n _ _ _ _ (by decide)]; exact how
  have e3 : mt h0 (upd (upd (upd (upd (upd (upd S (276 + 12 * n + 9) (sh)) (276 + 12 * n + 10) (ow)) (276 + 12 * n + 11) (0)) (276 + 12 * n + 0) (key)) (276 + 12 * n + 1) (x)) (276 + 12 * n + 2) (may)) t l (110 + 6) 0 = S 0 := by simp (disch := omega) only [mt_r, upd_n]
  have e8 : (upd (upd (upd (upd (upd (upd (upd (upd (upd S (276 + 12 * n + 9) (sh)) (276 + 12 * n + 10) (ow)) (276 + 12 * n + 11) (0)) (276 + 12 * n + 0) (key)) (276 + 12 * n + 1) (x)) (276 + 12 * n + 2) (may)) (276 + 12 * n + 3) (S 0)) (276 + 12 * n + 4) (nI b)) (276 + 12 * n + 7) (-2)) (68 + 13 * b + 9) = S (68 + 13 * b + 9) := by simp (disch := omega) only [upd_n]
  have e1 : mt h0 (upd (upd (upd (upd (upd (upd (upd (upd (upd (upd S (276 + 12 * n + 9) (sh)) (276 + 12 * n + 10) (ow)) (276 + 12 * n + 11) (0)) (276 + 12 * n + 0) (key)) (276 + 12 * n + 1) (x)) (276 + 12 * n + 2) (may)) (276 + 12 * n + 3) (S 0)) (276 + 12 * n + 4) (nI b)) (276 + 12 * n + 7) (-2)) (276 + 12 * n + 8) (S (68 + 13 * b + 9))) t l (110 + 6) 1 = S 1 := by simp (disch := omega) only [mt_r, upd_n]
  have e2 : mt h0 (upd (upd (upd (upd (upd (upd (upd (upd (upd (upd (upd S (276 + 12 * n + 9) (sh)) (276 + 12 * n + 10) (ow)) (276 + 12 * n + 11) (0)) (276 + 12 * n + 0) (key)) (276 + 12 * n + 1) (x)) (276 + 12 * n + 2) (may)) (276 + 12 * n + 3) (S 0)) (276 + 12 * n + 4) (nI b)) (276 + 12 * n + 7) (-2)) (276 + 12 * n + 8) (S (68 + 13 * b + 9))) (1) (S 1 + 1)) t l (110 + 6) 2 = S 2 := by simp (disch := omega) only [mt_r, upd_n]
  have e12 : (upd (upd (upd (upd (upd (upd (upd (upd (upd (upd (upd (upd S (276 + 12 * n + 9) (sh)) (276 + 12 * n + 10) (ow)) (276 + 12 * n + 11) (0)) (276 + 12 * n + 0) (key)) (276 + 12 * n + 1) (x)) (276 + 12 * n + 2) (may)) (276 + 12 * n + 3) (S 0)) (276 + 12 * n + 4) (nI b)) (276 + 12 * n + 7) (-2)) (276 + 12 * n + 8) (S (68 + 13 * b + 9))) (1) (S 1 + 1)) (2) (S 2 + 1)) (68 + 13 * b + 12) = S (68 + 13 * b + 12) := by simp (disch := omega) only [upd_n]
  unfold q_X10_comesIn_53 sAdd
  rw [m_frames_9 h0 S t l sh hn, Option.bind_some, eo, m_frames_10 h0 _ t l ow hn, Option.bind_some, m_frames_11 h0 _ t l 0 hn, Option.bind_some, m_frames_0 h0 _ t l key hn, Option.bind_some, m_frames_1 h0 _ t l x hn, Option.bind_some, m_frames_2 h0 _ t l may hn, Option.bind_some, e3, m_frames_3 h0 _ t l (S 0) hn, Option.bind_some, m_frames_4 h0 _ t l (nI b) hn, Option.bind_some, m_frames_7 h0 _ t l (-2) hn, Option.bind_some, m_of_9 h0 _ t l hb, Option.bind_some]
  dsimp only
  rw [e8, m_frames_8 h0 _ t l _ hn, Option.bind_some, e1, mt_hp _ _ _ _ _ (by omega) (by omega), nv_eq, e2, mt_hp _ _ _ _ _ (by omega) (by omega), nv_eq, m_of_12 h0 _ t l hb, Option.bind_some]
  dsimp only
  rw [e12, m_puts_12 h0 _ t l _ hb, Option.bind_some]
theorem m_q228 (h0 : Hp) (S : Nat → Int32) (t l v : Int32) (n : Int32) : q_X10_comesIn_228 (mt h0 S t l) 110 n (110 + 6) 3476 v = if mt h0 (upd S 3476 v) t l (110 + 6) 2 ≤ mt h0 (upd S 3476 v) t l (110 + 6) 7 then some (n, mt h0 (upd S 3476 v) t l) else Option.bind (p_X10_pushes (mt h0 (upd S 3476 v) t l) 110) fun r3 => some (n, r3) := by
  obtain ⟨e1, e2⟩ := ixL (x := 3476) (k := 3476) rfl (by omega)
  unfold q_X10_comesIn_228
  rw [if_pos e1, e2, mt_hp _ _ _ _ _ (by omega) (by omega), nv_eq]

section Cm
variable {bg rl : Bool} {tb : Nat → Int32} {m y sn Bd n N tk : Nat} {nw ol L : List Nat} {h : Hp} {w : Nat} {S : Nat → Int32}
theorem arr2 (R : Rel bg rl tb m y sn Bd n N 200 nw ol L h w S) (hLS : LSt n nw ol S) {b key x may : Nat} {ow : Int32} (hn1 : n < 200) (hbl : b ∈ nw ∨ b ∈ ol) (hk : key ≤ 9999) (hx1 : 1 ≤ x) (hx2 : x ≤ 1500) (hmay : may ≤ 1) (how : ow = -2 ∨ rg ow 0 3) : ∃ h' S' L', q_X8_arrive_83 h w (nI key) (nI x) (nI may) ow (nI b) (w + 16 + 1 + b) = some (nI n, h') ∧ (∀ hm t l, hm 110 22 = ow → Lk (h (w + 1) 5) l (h' w 10) → q_X10_comesIn_24 (mt hm S t l) 110 (nI key) (nI x) (nI may) (nI b) = some (nI n, mt hm S' t l)) ∧ Rel false rl tb m y sn Bd (n + 1) N 200 nw ol L' h' w S' ∧ LSt (n + 1) nw ol S' ∧ Fr w h h' ∧ h' w 12 = h w 12 ∧ h w 10 ≤ h' w 10 ∧ S 2 + 1 ≤ h' w 10 ∧ (h' w 10 = h w 10 ∨ h' w 10 = S 2 + 1) ∧ ((S 2 + 1 ≤ h (w + 1) 5 ∧ S' 17 = S 17) ∨ (¬ S 2 + 1 ≤ h (w + 1) 5 ∧ S' 17 = S 17 + 1)) ∧ (∀ f c, f < n → c = 4 ∨ c = 8 → S' (276 + 12 * f + c) = S (276 + 12 * f + c)) ∧ S' (276 + 12 * n + 4) = nI b ∧ S' (276 + 12 * n + 8) = S (68 + 13 * b + 9) ∧ (∀ b', b' < 16 → S' (68 + 13 * b' + 9) = S (68 + 13 * b' + 9)) ∧ (∀ b', b' < 16 → h' (w + 16 + 1 + b') 13 = h (w + 16 + 1 + b') 13) := by
  have hmy := R.my
  obtain ⟨hbm, hb⟩ := R.bmy hbl
  obtain ⟨sh, hsh⟩ : ∃ sh : Int32, sh = if S (68 + 13 * b + 0) = nI key then 0 else 1 := ⟨_, rfl⟩
  have hshr : rg sh 0 1 := by
    rw [hsh]
    split
    · exact rg_0 1
    · exact rg_1 (by omega)
  obtain ⟨h1, lC, R1, F1, x10, x12, xsc⟩ := adh_R R hn1 hb hbm hk hx1 hx2 hmay how hshr
  have s2 : sAdd S n b sh ow (nI key) (nI x) (nI may) 2 = S 2 + 1 := sAdd_2 _ _ _ _ _ _
  have s17 : sAdd S n b sh ow (nI key) (nI x) (nI may) 17 = S 17 := sAdd_n _ _ _ _ _ _ (by omega) (by omega) (by omega) (by omega)
  have sf : ∀ f c, f < n → c < 12 → sAdd S n b sh ow (nI key) (nI x) (nI may) (276 + 12 * f + c) = S (276 + 12 * f + c) := fun f c hf hc => sAdd_n _ _ _ _ _ _ (by omega) (by omega) (by omega) (by omega)
  have sn4 : sAdd S n b sh ow (nI key) (nI x) (nI may) (276 + 12 * n + 4) = nI b := sAdd_f4 _ _ _ _ _ _ hb
  have sn6 : sAdd S n b sh ow (nI key) (nI x) (nI may) (276 + 12 * n + 6) = 0 := by rw [sAdd_f6 _ _ _ _ _ _ hb]; exact (R.fi.2 n (Nat.le_refl n) hn1).2
  have sn8 : sAdd S n b sh ow (nI key) (nI x) (nI may) (276 + 12 * n + 8) = S (68 + 13 * b + 9) := sAdd_f8 _ _ _ _ _ _ hb
  have sb9 : ∀ b', b' < 16 → sAdd S n b sh ow (nI key) (nI x) (nI may) (68 + 13 * b' + 9) = S (68 + 13 * b' + 9) := fun b' hb' => sAdd_n _ _ _ _ _ _ (by omega) (by omega) (by omega) (by omega)
  have hQ := fun h0 t l (hw : h0 110 22 = ow) => m_q53 h0 S t l (nI key) (nI x) (nI may) sh ow hn1 hb hw
  generalize hS1 : sAdd S n b sh ow (nI key) (nI x) (nI may) = S1 at R1 s2 s17 sf sn4 sn6 sn8 sb9 hQ
  have e8 : h1 w 8 = S1 2 := R1.stg
  have ec : S1 2 = nI (fa_cnt (sd S1) (n + 1)) := R1.cf.2.1
  have hcl := fa_cnt_le (sd S1) (n + 1)
  obtain ⟨ms, _, hms, ems⟩ := R1.pk.1
  obtain ⟨v, hv⟩ : ∃ v : Int32, v = if h1 w 10 < h1 w 8 then h1 w 8 else h1 w 10 := ⟨_, rfl⟩
  obtain ⟨v', hv'⟩ : ∃ v' : Int32, v' = if S1 2 ≤ S1 3476 then S1 3476 else S1 2 := ⟨_, rfl⟩
  have hvr : rg v 0 200 := by
    rw [hv]
    split
    · rw [e8, ec]
      exact ⟨_, by omega, by omega, rfl⟩
    · exact ⟨ms, by omega, hms, ems⟩
  have hvv : rl = true ∨ tb 8 = 1 → v = v' := fun hr => by
    have := R1.pk.2 hr
    rw [hv, hv', this, e8]
    by_cases e : S1 2 ≤ S1 3476
    · rw [if_pos e, if_neg (fun u => (fa_of_lt u).2.1 e)]
    · rw [if_neg e, if_pos (fa_of_nle e)]
  have hv10 : h1 w 10 ≤ v := by
    rw [hv]
    split
    · rename_i u
      exact (fa_of_lt u).1
    · exact Int32.le_refl _
  have hv8 : S1 2 ≤ v := by
    rw [hv, ← e8]
    split
    · exact Int32.le_refl _
    · rename_i u
      exact fa_of_nlt u
  have hvor : v = h1 w 10 ∨ v = S1 2 := by
    rw [hv]
    split
    · exact Or.inr e8
    · exact Or.inl rfl
  have R2 := R1.peak v v' hvr hvv
  have F2 : Fr w h (hp h1 w 10 v) := F1.trans (Fr.hp _ _ _ (Nat.le_refl w) (by omega) (by omega))
  have hC5 : hp h1 w 10 v (w + 1) 5 = h (w + 1) 5 := F2.2 5
  have pC : q_X8_arrive_83 h w (nI key) (nI x) (nI may) ow (nI b) (w + 16 + 1 + b) = if hp h1 w 10 v w 8 ≤ hp h1 w 10 v (w + 1) 5 then some (nI n, hp h1 w 10 v) else Option.bind (p_X8_pushOut (hp h1 w 10 v) w) fun r4 => some (nI n, r4) := by
    unfold q_X8_arrive_83
    rw [add_c R hn1, Option.bind_some, R.b0 hb, ← hsh]
    dsimp only
    rw [lC, Option.bind_some, ← hv, nv_eq]
  have pM : ∀ h0 t l, h0 110 22 = ow → q_X10_comesIn_24 (mt h0 S t l) 110 (nI key) (nI x) (nI may) (nI b) = if mt h0 (upd S1 3476 v') t l (110 + 6) 2 ≤ mt h0 (upd S1 3476 v') t l (110 + 6) 7 then some (nI n, mt h0 (upd S1 3476 v') t l) else Option.bind (p_X10_pushes (mt h0 (upd S1 3476 v') t l) 110) fun r3 => some (nI n, r3) := fun h0 t l hw => by
    have q2 : q_X10_comesIn_53 (mt h0 S t l) 110 (nI key) (nI x) (nI may) (nI b) (nI n) 110 (nI n) 9 sh = if mt h0 (upd S1 3476 v') t l (110 + 6) 2 ≤ mt h0 (upd S1 3476 v') t l (110 + 6) 7 then some (nI n, mt h0 (upd S1 3476 v') t l) else Option.bind (p_X10_pushes (mt h0 (upd S1 3476 v') t l) 110) fun r3 => some (nI n, r3) := by
      rw [hQ h0 t l hw]
      have r2 : mt h0 S1 t l (110 + 6) 2 = S1 2 := mt_r _ _ _ _ (by omega) (by omega)
      have r3 : mt h0 S1 t l (110 + 6) 3476 = S1 3476 := mt_r _ _ _ _ (by omega) (by omega)
      by_cases e : S1 2 ≤ S1 3476
      · rw [if_pos (by rw [r2, r3]; exact e), r3, hv', if_pos e]
        exact m_q228 h0 S1 t l _ _
      · rw [if_neg (by rw [r2, r3]; exact e), r2, hv', if_neg e]
        exact m_q228 h0 S1 t l _ _
    rw [← q2]
    unfold q_X10_comesIn_24
    rw [mt_r _ _ _ _ (by omega) (by omega), R.i1, nv_eq, m_of_0 h0 S t l hb, Option.bind_some]
    dsimp only
    by_cases e : S (68 + 13 * b + 0) = nI key
    · rw [if_pos e, hsh, if_pos e]
    · rw [if_neg e, hsh, if_neg e]
  have g8 : hp h1 w 10 v w 8 = S 2 + 1 := by rw [hp_k _ _ (by decide), e8, s2]
  have g2 : ∀ h0 t l, mt h0 (upd S1 3476 v') t l (110 + 6) 2 = S 2 + 1 := fun h0 t l => by rw [mt_r _ _ _ _ (by omega) (by omega), upd_n _ _ (by omega), s2]
  rw [s2] at hv8 hvor
  rw [x10] at hv10 hvor
  have hLS1 : LSt (n + 1) nw ol S1 := fun b' f hb' hf u => by
    by_cases e : f = n
    · subst e
      have := (sb_t.mp u).1
      rw [sn4] at this
      rw [← nI_inj (by omega) (by omega) this]
      exact hbl
    · rw [sb_cong (S := S) (sf f 4 (by omega) (by omega)) (sf f 6 (by omega) (by omega))] at u
      exact hLS b' f hb' (by omega) u
  by_cases hst : S 2 + 1 ≤ h (w + 1) 5
  · refine ⟨hp h1 w 10 v, upd S1 3476 v', L, ?_, fun h0 t l hw hL => ?_, R2, fun b' f hb' hf u => ?_, F2, ?_, ?_, ?_, ?_, Or.inl ⟨hst, ?_⟩, fun f c hf hc => ?_, ?_, ?_, fun b' hb' => ?_, fun b' hb' => ?_⟩
    · rw [pC, if_pos (by rw [g8, hC5]; exact hst)]
    · rw [pM h0 t l hw, if_pos (by
        rw [g2, mt_7]
        rw [hp_s] at hL
        rcases hL with hL | hL
        · rw [hL]
          exact hst
        · exact Int32.le_trans hv8 hL.1)]
    · rw [sb_cong (S := S1) (upd_n _ _ (by omega)) (upd_n _ _ (by omega))] at u
      exact hLS1 b' f hb' hf u
    · rw [hp_k _ _ (by decide), x12]
    · rw [hp_s]
      exact hv10
    · rw [hp_s]
      exact hv8
    · rw [hp_s]
      exact hvor
    · rw [upd_n _ _ (by omega), s17]
    · rw [upd_n _ _ (by omega), sf f c hf (by omega)]
    · rw [upd_n _ _ (by omega), sn4]
    · rw [upd_n _ _ (by omega), sn8]
    · rw [upd_n _ _ (by omega), sb9 b' hb']
    · rw [hp_o' _ _ (by omega), xsc b' hb']
  · have hcp : 0 < fa_cnt (sd (upd S1 3476 v')) (n + 1) := by
      rw [fa_cnt_yes (decide_eq_true_iff.mpr (by rw [upd_n _ _ (by omega), sn6]))]
      omega
    obtain ⟨h3, S3, L3, uC, uM, R3, F3, y10, y12, ymo, y17, ybk, yfr, ysc⟩ := push_sim R2 hcp
    refine ⟨h3, S3, L3, ?_, fun h0 t l hw hL => ?_, R3, fun b' f hb' hf u => ?_, F2.trans F3, ?_, ?_, ?_, ?_, Or.inr ⟨hst, ?_⟩, fun f c hf hc => ?_, ?_, ?_, fun b' hb' => ?_, fun b' hb' => ?_⟩
    · rw [pC, if_neg (by rw [g8, hC5]; exact hst), uC, Option.bind_some]
    · rw [pM h0 t l hw, if_neg (by
        rw [g2, mt_7]
        rw [y10, hp_s] at hL
        rcases hL with hL | hL
        · rw [hL]
          exact hst
        · exact absurd (Int32.le_trans hv8 hL.2) hst), uM, Option.bind_some]
    · have := ymo b' f hf u
      rw [sb_cong (S := S1) (upd_n _ _ (by omega)) (upd_n _ _ (by omega))] at this
      exact hLS1 b' f hb' hf this
    · rw [y12, hp_k _ _ (by decide), x12]
    · rw [y10, hp_s]
      exact hv10
    · rw [y10, hp_s]
      exact hv8
    · rw [y10, hp_s]
      exact hvor
    · rw [y17, upd_n _ _ (by omega), s17]
    · rw [yfr f c (by omega) hc, upd_n _ _ (by omega), sf f c hf (by omega)]
    · rw [yfr n 4 (by omega) (by omega), upd_n _ _ (by omega), sn4]
    · rw [yfr n 8 (by omega) (by omega), upd_n _ _ (by omega), sn8]
    · rw [ybk _ (by omega) (by omega) (by omega), upd_n _ _ (by omega), sb9 b' hb']
    · rw [ysc b' hb', hp_o' _ _ (by omega), xsc b' hb']
end Cm

