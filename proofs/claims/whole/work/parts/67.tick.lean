/-! sending; a tick -/
def PO (C : Int32) (w : Nat) (h : Hp) (S : Nat → Int32) (h' : Hp) (S' : Nat → Int32) : Prop := h w 10 ≤ h' w 10 ∧ (S 17).toInt ≤ (S' 17).toInt ∧ ((S' 17).toInt = (S 17).toInt → h' w 10 = h w 10 ∨ h' w 10 ≤ C) ∧ (h' w 10 ≤ C → S' 17 = S 17)
theorem PO.refl (C : Int32) (w : Nat) (h : Hp) (S : Nat → Int32) : PO C w h S h S := ⟨Int32.le_refl _, Int.le_refl _, fun _ => Or.inl rfl, fun _ => rfl⟩
theorem PO.same {C : Int32} {w : Nat} {h h' : Hp} {S S' : Nat → Int32} (a : h' w 10 = h w 10) (b : S' 17 = S 17) : PO C w h S h' S' := ⟨by rw [a]; exact Int32.le_refl _, by rw [b]; exact Int.le_refl _, fun _ => Or.inl a, fun _ => b⟩
theorem PO.trans {C : Int32} {w : Nat} {h h1 h2 : Hp} {S S1 S2 : Nat → Int32} (a : PO C w h S h1 S1) (b : PO C w h1 S1 h2 S2) : PO C w h S h2 S2 := by
  obtain ⟨a1, a2, a3, a4⟩ := a
  obtain ⟨b1, b2, b3, b4⟩ := b
  refine ⟨Int32.le_trans a1 b1, by omega, fun e => ?_, fun u => by rw [b4 u, a4 (Int32.le_trans b1 u)]⟩
  rcases b3 (by omega) with u | u
  · rcases a3 (by omega) with v | v
    · exact Or.inl (u.trans v)
    · exact Or.inr (by rw [u]; exact v)
  · exact Or.inr u
theorem hp_back (h : Hp) (o k : Nat) (v v' : Int32) : hp (hp h o k v) o k v' = hp h o k v' := by
  funext o' j
  rw [hp_at, hp_at, hp_at]
  by_cases e : o' = o ∧ j = k
  · rw [if_pos e, if_pos e]
  · rw [if_neg e, if_neg e, if_neg e]
theorem hp_same {h : Hp} {o k : Nat} {v : Int32} (e : h o k = v) : hp h o k v = h := by
  funext o' j
  rw [hp_at]
  by_cases e2 : o' = o ∧ j = k
  · rw [if_pos e2, e2.1, e2.2, e]
  · rw [if_neg e2]
section Tc
variable {bg rl : Bool} {tb : Nat → Int32} {m y sn Bd n N tk : Nat} {nw ol L : List Nat} {h : Hp} {w : Nat} {S : Nat → Int32}
theorem arrive_full (R : Rel bg rl tb m y sn Bd n N 200 nw ol L h w S) (hn : n = 200) {key : Nat} (hk : key ≤ 9999) (x may ow : Int32) : p_X8_arrive h w (nI key) x may ow = some (-2, h) := by
  obtain ⟨b, hbm, plC, _⟩ := place_sim R hk
  unfold p_X8_arrive
  rw [plC, Option.bind_some]
  dsimp only
  rw [if_pos (by rw [R.many, R.i1, hn]; exact nI_le (a := 200) (b := 200) (Nat.le_refl _) (by omega))]
theorem ls_sim {k : Nat} (d : Nat) : ∀ {h : Hp} {S : Nat → Int32} {n : Nat} {nw ol L : List Nat} {turn : Nat}, Rel true rl tb m y sn Bd n N 200 nw ol L h w S → LSt n nw ol S → k < sn → tb (4 + k) = 0 → n + d = 200 → turn ≤ n → ∃ h' S' n' L' nw' ol', (∀ m, d + 1 < m → lp (b_X8_letSend_9 w (nI k) (w + 35 + 1 + k)) m (h, nI turn) = some h') ∧ (∀ hm t l m k27, d + 1 < m → hm 110 22 = -2 → Lk (h (w + 1) 5) l (h' w 10) → lp (b_X10_ticks_39 k27 110 (nI k)) m (mt hm S t l) = k27 (mt hm S' t l, nI (k + 1))) ∧ Rel true rl tb m y sn Bd n' N 200 nw' ol' L' h' w S' ∧ LSt n' nw' ol' S' ∧ Fr w h h' ∧ h' w 12 = h w 12 ∧ PO (h (w + 1) 5) w h S h' S' := by
  induction d with
  | zero =>
    intro h S n nw ol L turn R hLS hk tb0 hd ht
    have hs4 := R.sn4
    have hk4 : k < 4 := by omega
    have c5 : S (3478 + 9 * k + 5) = h (w + 35 + 1 + k) 5 := by
      have := R.ksn.2 k hk
      rw [tb0, Int32.add_zero] at this
      exact this
    have c2 : h (w + 35 + 1 + k) 2 = S (3478 + 9 * k + 2) := R.ksn.1 k hk 2 (by omega) (by omega)
    have c0 : h (w + 35 + 1 + k) 0 = S (3478 + 9 * k + 0) := R.ksn.1 k hk 0 (by omega) (by omega)
    obtain ⟨key, _, hkey, ekey⟩ := (R.si k hk).1
    have hroom : (h (w + 35 + 1 + k) 2 - 99 ≤ h (w + 35 + 1 + k) 5 * 100) ↔ (S (3478 + 9 * k + 2) - 99 ≤ 100 * S (3478 + 9 * k + 5)) := by rw [c2, c5, Int32.mul_comm]
    refine ⟨h, S, n, L, nw, ol, fun m hm => ?_, fun h0 t l m k27 hm hw hL => ?_, R, hLS, Fr.refl w h, rfl, PO.refl _ _ _ _⟩
    · obtain ⟨m', rfl⟩ : ∃ m', m = m' + 1 := ⟨m - 1, by omega⟩
      rw [lp_s]
      unfold b_X8_letSend_9 p_X5_hasRoom
      dsimp only
      by_cases e : 200 ≤ turn
      · rw [if_pos (show (200 : Int32) ≤ nI turn from nI_le (a := 200) e (by omega))]
      · rw [if_neg (show ¬ (200 : Int32) ≤ nI turn from nI_ge (b := 200) (by omega) (by omega))]
        by_cases a : h (w + 35 + 1 + k) 2 - 99 ≤ h (w + 35 + 1 + k) 5 * 100
        · rw [if_pos a, Option.bind_some]
          dsimp only
          rw [if_pos rfl]
        · rw [if_neg a, Option.bind_some]
          dsimp only
          rw [if_neg one_nz, c0, ekey, arrive_full R (by omega) hkey, Option.bind_some]
          dsimp only
          rw [if_neg (by decide)]
    · obtain ⟨m', rfl⟩ : ∃ m', m = m' + 1 := ⟨m - 1, by omega⟩
      rw [lp_s]
      unfold b_X10_ticks_39
      rw [m_senderOf_5 h0 S t l hk4, Option.bind_some]
      dsimp only
      rw [m_senderOf_2 h0 S t l hk4, Option.bind_some]
      dsimp only
      by_cases a : S (3478 + 9 * k + 2) - 99 ≤ 100 * S (3478 + 9 * k + 5)
      · rw [if_pos a, nI_1]
      · rw [if_neg a, if_pos (by rw [mt_r _ _ _ _ (by omega) (by omega), R.i1]; exact nI_le (a := 200) (by omega) (by omega)), nI_1]
  | succ d ih =>
    intro h S n nw ol L turn R hLS hk tb0 hd ht
    have hs4 := R.sn4
    have hk4 : k < 4 := by omega
    have hn1 : n < 200 := by omega
    have ct : ¬ (200 : Int32) ≤ nI turn := nI_ge (b := 200) (by omega) (by omega)
    have c5 : S (3478 + 9 * k + 5) = h (w + 35 + 1 + k) 5 := by
      have := R.ksn.2 k hk
      rw [tb0, Int32.add_zero] at this
      exact this
    have c2 : h (w + 35 + 1 + k) 2 = S (3478 + 9 * k + 2) := R.ksn.1 k hk 2 (by omega) (by omega)
    have c0 : h (w + 35 + 1 + k) 0 = S (3478 + 9 * k + 0) := R.ksn.1 k hk 0 (by omega) (by omega)
    have c1 : h (w + 35 + 1 + k) 1 = S (3478 + 9 * k + 1) := R.ksn.1 k hk 1 (by omega) (by omega)
    have c4 : h (w + 35 + 1 + k) 4 = S (3478 + 9 * k + 4) := R.ksn.1 k hk 4 (by omega) (by omega)
    obtain ⟨⟨key, _, hkey, ekey⟩, ⟨x, hx1, hx2, ex⟩, _, _, ⟨may, _, hmay, emay⟩⟩ := R.si k hk
    by_cases a : S (3478 + 9 * k + 2) - 99 ≤ 100 * S (3478 + 9 * k + 5)
    · refine ⟨h, S, n, L, nw, ol, fun m hm => ?_, fun h0 t l m k27 hm hw hL => ?_, R, hLS, Fr.refl w h, rfl, PO.refl _ _ _ _⟩
      · obtain ⟨m', rfl⟩ : ∃ m', m = m' + 1 := ⟨m - 1, by omega⟩
        rw [lp_s]
        unfold b_X8_letSend_9 p_X5_hasRoom
        dsimp only
        rw [if_neg ct, if_pos (by rw [c2, ← c5, Int32.mul_comm]; exact a), Option.bind_some]
        dsimp only
        rw [if_pos rfl]
      · obtain ⟨m', rfl⟩ : ∃ m', m = m' + 1 := ⟨m - 1, by omega⟩
        rw [lp_s]
        unfold b_X10_ticks_39
        rw [m_senderOf_5 h0 S t l hk4, Option.bind_some]
        dsimp only
        rw [m_senderOf_2 h0 S t l hk4, Option.bind_some]
        dsimp only
        rw [if_pos a, nI_1]
    · have R1 := R.mout hk tb0
      have u1 : ∀ q, q ≠ 3478 + 9 * k + 5 → upd S (3478 + 9 * k + 5) (S (3478 + 9 * k + 5) + 1) q = S q := fun q hq => upd_n _ _ hq
      have hP5 := fun h0 t l => m_sends0_5 h0 S t l (S (3478 + 9 * k + 5) + 1) hk4
      generalize hS1 : upd S (3478 + 9 * k + 5) (S (3478 + 9 * k + 5) + 1) = S1 at R1 u1 hP5
      have hLS1 : LSt n nw ol S1 := fun b f hb hf u => hLS b f hb hf (by rw [sb_cong (S := S) (u1 _ (by omega)) (u1 _ (by omega))] at u; exact u)
      obtain ⟨h2, S2, L2, nw2, ol2, aC, aM, R2, hLS2, F2, z12, z10, z2, zor, z17⟩ := arrive_sim (ow := nI k) R1 hLS1 hn1 hkey hx1 hx2 hmay (Or.inr ⟨k, by omega, by omega, rfl⟩)
      have R3 := R2.cout hk tb0
      have F3 : Fr w h2 (hp h2 (w + 35 + 1 + k) 5 (h2 (w + 35 + 1 + k) 5 + 1)) := Fr.hp _ _ _ (by omega) (by omega) (by omega)
      have w3 : ∀ j, hp h2 (w + 35 + 1 + k) 5 (h2 (w + 35 + 1 + k) 5 + 1) w j = h2 w j := fun j => hp_o' _ _ (by omega)
      have e17 : S1 17 = S 17 := u1 17 (by omega)
      have e2' : S1 2 = S 2 := u1 2 (by omega)
      have P3 : PO (h (w + 1) 5) w h S (hp h2 (w + 35 + 1 + k) 5 (h2 (w + 35 + 1 + k) 5 + 1)) S2 := by
        have hp17 : S 17 = nI (pl S 3 L).length := R.ep.2.2.2.2.2.2.1
        have hpl : (pl S 3 L).length ≤ 200 := Nat.le_trans (List.length_filter_le _ _) (Nat.le_trans (nd_len n L R.el.2.2.2.2.1 R.hL2) R.n200)
        unfold PO
        rw [w3]
        rw [e2', e17] at z17
        rw [e2'] at zor
        refine ⟨z10, ?_, fun e => ?_, fun u => ?_⟩
        · rcases z17 with z | z
          · rw [z.2]
            exact Int.le_refl _
          · rw [z.2, hp17, nI_1, nI_toInt (by omega), nI_toInt (by omega)]
            omega
        · rcases z17 with z | z
          · rcases zor with u | u
            · exact Or.inl u
            · exact Or.inr (by rw [u]; exact z.1)
          · rw [z.2, hp17, nI_1, nI_toInt (by omega), nI_toInt (by omega)] at e
            omega
        · rcases z17 with z | z
          · exact z.2
          · rw [e2'] at z2
            exact absurd (Int32.le_trans z2 u) z.1
      obtain ⟨h', S', n', L', nw', ol', iC, iM, iR, iL, iF, i12, iP⟩ := ih (turn := turn + 1) R3 hLS2 hk tb0 (by omega) (by omega)
      have hC3 : hp h2 (w + 35 + 1 + k) 5 (h2 (w + 35 + 1 + k) 5 + 1) (w + 1) 5 = h (w + 1) 5 := (F2.trans F3).2 5
      rw [hC3] at iP
      refine ⟨h', S', n', L', nw', ol', fun m hm => ?_, fun h0 t l m k27 hm hw hL => ?_, iR, iL, (F2.trans F3).trans iF, by rw [i12, w3, z12], P3.trans iP⟩
      · obtain ⟨m', rfl⟩ : ∃ m', m = m' + 1 := ⟨m - 1, by omega⟩
        rw [lp_s]
        unfold b_X8_letSend_9 p_X5_hasRoom
        dsimp only
        rw [if_neg ct, if_neg (by rw [c2, ← c5, Int32.mul_comm]; exact a), Option.bind_some]
        dsimp only
        rw [if_neg one_nz, c0, c1, c4, ekey, ex, emay, aC, Option.bind_some]
        dsimp only
        rw [if_pos (nI_pos' (by omega)), nv_eq, nI_1]
        exact iC m' (by omega)
      · obtain ⟨m', rfl⟩ : ∃ m', m = m' + 1 := ⟨m - 1, by omega⟩
        have hLk : Lk (h (w + 1) 5) l (h2 w 10) := hL.mono (by have := iP.1; rw [w3] at this; exact this)
        have hcm : p_X10_comesIn (mt (hp h0 110 22 (nI k)) S1 t l) 110 (nI key) (nI x) (nI may) = some (nI n, mt (hp h0 110 22 (nI k)) S2 t l) := aM _ t l (hp_s _ _ _ _) hLk
        rw [lp_s]
        unfold b_X10_ticks_39
        rw [m_senderOf_5 h0 S t l hk4, Option.bind_some]
        dsimp only
        rw [m_senderOf_2 h0 S t l hk4, Option.bind_some]
        dsimp only
        rw [if_neg a, if_neg (by rw [mt_r _ _ _ _ (by omega) (by omega), R.i1]; exact nI_ge (b := 200) (by omega) (by omega)), m_senderOf_5 h0 S t l hk4, Option.bind_some]
        dsimp only
        rw [hP5, Option.bind_some, mt_ho _ _ _ _ (by decide), nv_eq, m_senderOf_0 _ S1 t l hk4, Option.bind_some]
        dsimp only
        rw [m_senderOf_1 _ S1 t l hk4, Option.bind_some]
        dsimp only
        rw [m_senderOf_4 _ S1 t l hk4, Option.bind_some]
        dsimp only
        rw [u1 _ (by omega), u1 _ (by omega), u1 _ (by omega), ekey, ex, emay, hcm, Option.bind_some]
        dsimp only
        rw [mt_ho _ _ _ _ (by decide), hp_back, hp_same hw, nv_eq]
        exact iM h0 t l m' k27 (by omega) hw (by rw [hC3]; exact hL)
theorem letSend_sim {k : Nat} (R : Rel true rl tb m y sn Bd n N 200 nw ol L h w S) (hLS : LSt n nw ol S) (hk : k < sn) (tb0 : tb (4 + k) = 0) : ∃ h' S' n' L' nw' ol', p_X8_letSend h w (nI k) = some h' ∧ (∀ hm t l k27, hm 110 22 = -2 → Lk (h (w + 1) 5) l (h' w 10) → lp (b_X10_ticks_39 k27 110 (nI k)) FU (mt hm S t l) = k27 (mt hm S' t l, nI (k + 1))) ∧ Rel true rl tb m y sn Bd n' N 200 nw' ol' L' h' w S' ∧ LSt n' nw' ol' S' ∧ Fr w h h' ∧ h' w 12 = h w 12 ∧ PO (h (w + 1) 5) w h S h' S' := by
  have hs4 := R.sn4
  have hnn := R.n200
  obtain ⟨h', S', n', L', nw', ol', iC, iM, rest⟩ := ls_sim (k := k) (200 - n) (turn := 0) R hLS hk tb0 (by omega) (by omega)
  refine ⟨h', S', n', L', nw', ol', ?_, fun h0 t l k27 hw hL => iM h0 t l FU k27 (FU_gt (by omega)) hw hL, rest⟩
  have := iC FU (FU_gt (by omega))
  rw [nI_0] at this
  unfold p_X8_letSend
  rw [if_pos (ib_n (by omega) (by omega)), nI_clamp (by omega)]
  exact this
/-- all hear -/
theorem th_sim (d : Nat) : ∀ {h : Hp} {S : Nat → Int32} {k : Nat}, Rel bg rl tb m y sn Bd n N 200 nw ol L h w S → (∀ k, k < 4 → tb (4 + k) = 0) → k + d = sn → ∃ h' S', (∀ m, d < m → lp (b_X8_tick_2 w) m (h, nI k) = lp (b_X8_tick_23 w) FU (h', 0)) ∧ (∀ hm t l m, d < m → lp (b_X10_ticks_2 110) m (mt hm S t l, nI k) = lp (b_X10_ticks_27 110) FU (mt hm S' t l, 0)) ∧ Rel bg rl tb m y sn Bd n N 200 nw ol L h' w S' ∧ (∀ q, q < 276 ∨ (2676 ≤ q ∧ q < 3478) ∨ 3514 ≤ q → S' q = S q) ∧ (∀ f' c, f' < 200 → c < 11 → S' (276 + 12 * f' + c) = S (276 + 12 * f' + c)) ∧ Fr w h h' ∧ (∀ j, h' w j = h w j) := by
  induction d with
  | zero =>
    intro h S k R tb0 hd
    have hs4 := R.sn4
    refine ⟨h, S, fun m hm => ?_, fun h0 t l m hm => ?_, R, fun _ _ => rfl, fun _ _ _ _ => rfl, Fr.refl w h, fun _ => rfl⟩
    · obtain ⟨m', rfl⟩ : ∃ m', m = m' + 1 := ⟨m - 1, by omega⟩
      rw [lp_s]
      generalize lp (b_X8_tick_2 w) m' = K
      unfold b_X8_tick_2
      dsimp only
      rw [if_pos (by rw [R.snd, R.isn]; exact nI_le (by omega) (by omega))]
    · obtain ⟨m', rfl⟩ : ∃ m', m = m' + 1 := ⟨m - 1, by omega⟩
      rw [lp_s]
      generalize lp (b_X10_ticks_2 110) m' = K
      unfold b_X10_ticks_2
      dsimp only
      rw [if_pos (by rw [mt_r _ _ _ _ (by omega) (by omega), R.isn]; exact nI_le (by omega) (by omega))]
  | succ d ih =>
    intro h S k R tb0 hd
    have hs4 := R.sn4
    obtain ⟨h1, S1, aC, aM, R1, af, afr, aF, aw⟩ := letHear_sim R (k := k) (by omega) (tb0 k (by omega))
    obtain ⟨h', S', iC, iM, iR, jf, jfr, jF, jw⟩ := ih (k := k + 1) R1 tb0 (by omega)
    refine ⟨h', S', fun m hm => ?_, fun h0 t l m hm => ?_, iR, fun q hq => (jf q hq).trans (af q hq), fun f' c a b => (jfr f' c a b).trans (afr f' c a b), aF.trans jF, fun j => (jw j).trans (aw j)⟩
    · obtain ⟨m', rfl⟩ : ∃ m', m = m' + 1 := ⟨m - 1, by omega⟩
      have ih2 := iC m' (by omega)
      rw [lp_s]
      generalize lp (b_X8_tick_2 w) m' = K at ih2 ⊢
      unfold b_X8_tick_2
      dsimp only
      rw [if_neg (by rw [R.snd, R.isn]; exact nI_ge (by omega) (by omega)), aC, Option.bind_some, nI_1]
      exact ih2
    · obtain ⟨m', rfl⟩ : ∃ m', m = m' + 1 := ⟨m - 1, by omega⟩
      have ih2 := iM h0 t l m' (by omega)
      rw [lp_s]
      generalize lp (b_X10_ticks_2 110) m' = K at ih2 ⊢
      unfold b_X10_ticks_2
      dsimp only
      rw [if_neg (by rw [mt_r _ _ _ _ (by omega) (by omega), R.isn]; exact nI_ge (by omega) (by omega)), aM, Option.bind_some, nI_1]
      exact ih2
/-- all send -/
theorem ts_sim (d : Nat) : ∀ {h : Hp} {S : Nat → Int32} {n : Nat} {nw ol L : List Nat} {k : Nat}, Rel true rl tb m y sn Bd n N 200 nw ol L h w S → LSt n nw ol S → (∀ k, k < 4 → tb (4 + k) = 0) → k + d = sn → ∃ h' S' n' L' nw' ol', (∀ m, d < m → lp (b_X8_tick_23 w) m (h, nI k) = Option.bind (p_X8_serve h' w) fun r1 => nv (hp r1.2 w 7 ((r1.2 w 7) + 1)) fun h2 => some h2) ∧ (∀ hm t l m, d < m → hm 110 22 = -2 → Lk (h (w + 1) 5) l (h' w 10) → lp (b_X10_ticks_27 110) m (mt hm S t l, nI k) = Option.bind (p_X10_serves (mt hm S' t l) 110) fun r11 => nv (hp r11.2 (110 + 6) 0 ((r11.2 (110 + 6) 0) + 1)) fun h12 => some h12) ∧ Rel true rl tb m y sn Bd n' N 200 nw' ol' L' h' w S' ∧ LSt n' nw' ol' S' ∧ Fr w h h' ∧ h' w 12 = h w 12 ∧ PO (h (w + 1) 5) w h S h' S' := by
  induction d with
  | zero =>
    intro h S n nw ol L k R hLS tb0 hd
    have hs4 := R.sn4
    refine ⟨h, S, n, L, nw, ol, fun m hm => ?_, fun h0 t l m hm _ _ => ?_, R, hLS, Fr.refl w h, rfl, PO.refl _ _ _ _⟩
    · obtain ⟨m', rfl⟩ : ∃ m', m = m' + 1 := ⟨m - 1, by omega⟩
      rw [lp_s]
      generalize lp (b_X8_tick_23 w) m' = K
      unfold b_X8_tick_23
      dsimp only
      rw [if_pos (by rw [R.snd, R.isn]; exact nI_le (by omega) (by omega))]
    · obtain ⟨m', rfl⟩ : ∃ m', m = m' + 1 := ⟨m - 1, by omega⟩
      rw [lp_s]
      generalize lp (b_X10_ticks_27 110) m' = K
      unfold b_X10_ticks_27
      dsimp only
      rw [if_pos (by rw [mt_r _ _ _ _ (by omega) (by omega), R.isn]; exact nI_le (by omega) (by omega))]
  | succ d ih =>
    intro h S n nw ol L k R hLS tb0 hd
    have hs4 := R.sn4
    obtain ⟨h1, S1, n1, L1, nw1, ol1, aC, aM, R1, hLS1, aF, a12, aP⟩ := letSend_sim R hLS (k := k) (by omega) (tb0 k (by omega))
    obtain ⟨h', S', n', L', nw', ol', iC, iM, iR, iL, iF, i12, iP⟩ := ih (k := k + 1) R1 hLS1 tb0 (by omega)
    have hC1 : h1 (w + 1) 5 = h (w + 1) 5 := aF.2 5
    rw [hC1] at iP
    refine ⟨h', S', n', L', nw', ol', fun m hm => ?_, fun h0 t l m hm hw hL => ?_, iR, iL, aF.trans iF, i12.trans a12, aP.trans iP⟩
    · obtain ⟨m', rfl⟩ : ∃ m', m = m' + 1 := ⟨m - 1, by omega⟩
      have ih2 := iC m' (by omega)
      rw [lp_s]
      generalize lp (b_X8_tick_23 w) m' = K at ih2 ⊢
      unfold b_X8_tick_23
      dsimp only
      rw [if_neg (by rw [R.snd, R.isn]; exact nI_ge (by omega) (by omega)), aC, Option.bind_some, nI_1]
      exact ih2
    · obtain ⟨m', rfl⟩ : ∃ m', m = m' + 1 := ⟨m - 1, by omega⟩
      have ih2 := iM h0 t l m' (by omega) hw (by rw [hC1]; exact hL)
      have aM2 := aM h0 t l (lp (b_X10_ticks_27 110) m') hw (hL.mono iP.1)
      rw [lp_s]
      generalize lp (b_X10_ticks_27 110) m' = K at ih2 aM2 ⊢
      unfold b_X10_ticks_27
      dsimp only
      rw [if_neg (by rw [mt_r _ _ _ _ (by omega) (by omega), R.isn]; exact nI_ge (by omega) (by omega)), aM2]
      exact ih2
theorem tick_sim (R : Rel true rl tb m y sn Bd n N 200 nw ol L h w S) (hLS : LSt n nw ol S) (tb0 : ∀ k, k < 4 → tb (4 + k) = 0) (hBd : Bd + 1 ≤ 5000000) : ∃ h' S' n' L' nw' ol' N', p_X8_tick h w = some h' ∧ (∀ hm t l, hm 110 22 = -2 → Tk (h (w + 1) 0) t (h' w 12) → Lk (h (w + 1) 5) l (h' w 10) → p_X10_ticks (mt hm S t l) 110 = some (mt hm S' t l)) ∧ Rel true rl tb m y sn (Bd + 1) n' N' 200 nw' ol' L' h' w S' ∧ LSt n' nw' ol' S' ∧ Fr w h h' ∧ h' w 12 ≤ h w 12 ∧ PO (h (w + 1) 5) w h S h' S' := by
  have hs4 := R.sn4
  obtain ⟨h1, S1, aC, aM, R1, af, afr, aF, aw⟩ := th_sim sn (k := 0) R tb0 (by omega)
  have hLS1 : LSt n nw ol S1 := fun b f hb hf u => by
    have hnn := R.n200
    exact hLS b f hb hf (by rw [sb_cong (S := S) (afr f 4 (by omega) (by omega)) (afr f 6 (by omega) (by omega))] at u; exact u)
  have P1 : PO (h (w + 1) 5) w h S h1 S1 := PO.same (aw 10) (af 17 (by omega))
  obtain ⟨h2, S2, n2, L2, nw2, ol2, bC, bM, R2, hLS2, bF, b12, bP⟩ := ts_sim sn (k := 0) R1 hLS1 tb0 (by omega)
  obtain ⟨h3, S3, L3, nw3, ol3, N3, r, cC, cM, R3, hLS3, cF, c10, c12, c17, _⟩ := serve_sim R2 hLS2
  have hN3 := R3.ep.2.2.2.2.2.2.2.2.1
  have R4 := R3.time (N' := N3 + 1) (Bd' := Bd + 1) (Nat.le_refl _) (by omega) (by omega) hBd
  have hT1 : h1 (w + 1) 5 = h (w + 1) 5 := aF.2 5
  have hT2 : h2 (w + 1) 0 = h (w + 1) 0 := (aF.trans bF).2 0
  rw [hT1] at bP
  have e7 : h3 w 7 = nI N3 := by rw [R3.now, R3.i0]
  refine ⟨hp h3 w 7 (nI (N3 + 1)), upd S3 0 (nI (N3 + 1)), n2, L3, nw3, ol3, N3 + 1, ?_, fun h0 t l hw hTk hLk => ?_, R4, fun b f hb hf u => ?_, ((aF.trans bF).trans cF).trans (Fr.hp _ _ _ (Nat.le_refl w) (by omega) (by omega)), ?_, (P1.trans bP).trans (PO.same ?_ ?_)⟩
  · have h5 := aC FU (FU_gt (by omega))
    have h6 := bC FU (FU_gt (by omega))
    rw [nI_0] at h5 h6
    unfold p_X8_tick
    rw [h5, h6, cC, Option.bind_some]
    dsimp only
    rw [e7, nI_1, nv_eq]
  · have h5 := aM h0 t l FU (FU_gt (by omega))
    have h6 := bM h0 t l FU (FU_gt (by omega)) hw (by rw [hT1]; rw [hp_k _ _ (by decide), c10] at hLk; exact hLk)
    rw [nI_0] at h5 h6
    unfold p_X10_ticks
    rw [h5, h6, cM h0 t l (by rw [hT2]; rw [hp_k _ _ (by decide)] at hTk; exact hTk), Option.bind_some]
    dsimp only
    rw [mt_r _ _ _ _ (by omega) (by omega), R3.i0, nI_1, mt_hp _ _ _ _ _ (by omega) (by omega), nv_eq]
  · exact hLS3 b f hb hf (by rw [sb_cong (S := S3) (upd_n _ _ (by omega)) (upd_n _ _ (by omega))] at u; exact u)
  · rw [hp_k _ _ (by decide)]
    exact Int32.le_trans c12 (by rw [b12, aw]; exact Int32.le_refl _)
  · rw [hp_k _ _ (by decide), c10]
  · rw [upd_n _ _ (by omega), c17]
end Tc

