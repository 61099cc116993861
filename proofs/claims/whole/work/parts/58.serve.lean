/-! serving -/
def phi (S : Nat → Int32) (b : Nat) : Nat := (1 - (S (68 + 13 * b + 1)).toInt).toNat
def LSt (n : Nat) (nw ol : List Nat) (S : Nat → Int32) : Prop := ∀ b f, b < 16 → f < n → sb S b f = true → b ∈ nw ∨ b ∈ ol
theorem sb_far {S S' : Nat → Int32} (e : ∀ k, 276 ≤ k → S' k = S k) (b f : Nat) : sb S' b f = sb S b f := sb_cong (e _ (by omega)) (e _ (by omega))
theorem cnt_far {S S' : Nat → Int32} {n : Nat} (e : ∀ k, 276 ≤ k → S' k = S k) : fa_cnt (sd S') n = fa_cnt (sd S) n := fa_cnt_cong fun k _ => by
  unfold sd
  rw [e _ (by omega)]
section Sv
variable {bg rl : Bool} {tb : Nat → Int32} {m y sn Bd n N tk : Nat} {nw ol L : List Nat} {h : Hp} {w : Nat} {S : Nat → Int32}
theorem rl_new {b : Nat} (R : Rel bg rl tb m y sn Bd n N 200 (b :: nw) ol L h w S) : ∃ h' S', p_X8_release h w (w + 16 + 1 + b) = some h' ∧ (∀ hm t l, p_X10_watches (mt hm (sLv S b 0 nw.length) t l) 110 5 ((sLv S b 0 nw.length) (68 + 13 * b + 0)) 0 = some (mt hm S' t l)) ∧ Rel bg rl tb m y sn Bd n N 200 nw ol L h' w S' ∧ Fr w h h' ∧ (∀ j, h' w j = h w j) ∧ (∀ k, (14 ≤ k ∧ k < 18) ∨ 68 ≤ k → k ≠ 68 + 13 * b + 2 → S' k = S k) := by
  have hmy := R.my
  obtain ⟨hbm, hb⟩ := R.bmy (b := b) (by simp)
  have hlen := R.li.len hmy
  obtain ⟨c1, c2, c3⟩ := R.lc
  have hl : (nw ++ ol).length < 16 := by
    simp only [List.length_append, List.length_cons, List.length_nil] at hlen ⊢
    omega
  have hln : nw.length < 16 := by
    simp only [List.length_append, List.length_cons, List.length_nil] at hlen
    omega
  have e1 := rh_c (hp h (w + 16 + 1 + b) 6 0) (o := w + 33) (l := nw ++ ol) hl (by rw [hp_o' _ _ (by omega), c2]; rfl)
  have r1 : hp h (w + 16 + 1 + b) 6 0 (w + 33) 1 = nI (b :: nw).length := by rw [hp_o' _ _ (by omega), c1]
  have r2 : hp h (w + 16 + 1 + b) 6 0 (w + 33 + 1) = h (w + 33 + 1) := hp_n (by omega)
  rw [r1, r2, frp _ (by simp only [List.length_cons, List.length_nil]; omega)] at e1
  have hLI := R.li.lv0 hmy
  have R1 : Rel bg rl tb m y sn Bd n N 200 nw ol L (hp (hp (va_up (hp h (w + 16 + 1 + b) 6 0) (w + 33 + 1) (shf (h (w + 33 + 1)) 0 (nw ++ ol).length)) (w + 33) 2 (nI (nw ++ ol).length)) (w + 33) 1 (nI ((b :: nw).length - 1))) w (sLv S b 0 nw.length) := by
    refine R.lists hb 0 ?_ ?_ ?_ ?_ hLI ⟨?_, ?_, ?_⟩
    · intro o' j n1 n2 n3
      rw [hp_o' _ _ n1, hp_o' _ _ n1, vu_o _ _ n2]
      rcases n3 with n3 | n3
      · exact hp_o' _ _ n3
      · exact hp_k _ _ n3
    · rw [hp_o' _ _ (by omega), hp_o' _ _ (by omega), vu_o _ _ (by omega), hp_s]
    · intro k hk hk2
      exact sLv_n _ (by omega) hln hk hk2
    · unfold sLv
      rw [upd_s]
    · exact (hp_s _ _ _ _).trans rfl
    · exact (hp_k _ _ (by decide)).trans ((hp_s _ _ _ _).trans rfl)
    · rw [hp_n (by omega), hp_n (by omega), vu_s]
      exact sh_AL c3
  generalize hh1 : hp (hp (va_up (hp h (w + 16 + 1 + b) 6 0) (w + 33 + 1) (shf (h (w + 33 + 1)) 0 (nw ++ ol).length)) (w + 33) 2 (nI (nw ++ ol).length)) (w + 33) 1 (nI ((b :: nw).length - 1)) = h1 at R1 e1
  have hw1 : ∀ j, h1 w j = h w j := fun j => by
    rw [← hh1]
    simp (disch := omega) only [hp_o', vu_o]
  have hF : Fr w h h1 := by
    rw [← hh1]
    exact (((Fr.hp _ _ _ (by omega) (by omega) (by omega)).trans (Fr.vu _ _ (by omega) (by omega) (by omega))).trans (Fr.hp _ _ _ (by omega) (by omega) (by omega))).trans (Fr.hp _ _ _ (by omega) (by omega) (by omega))
  obtain ⟨d, d', nC, nM, R2⟩ := nsim_5 R1 ((sLv S b 0 nw.length) (68 + 13 * b + 0))
  refine ⟨_, _, ?_, nM, R2, hF.trans (Fr.vu _ _ (by omega) (by omega) (by omega)), fun j => ?_, fun k hk hk2 => ?_⟩
  · unfold p_X8_release
    rw [nv_eq, e1, Option.bind_some, R1.b0 hb, nC, Option.bind_some]
  · rw [vu_o _ _ (by omega), hw1]
  · rw [wup_n _ _ (by omega), sLv_n _ (by omega) hln (by omega) hk2]
theorem rl_old {b : Nat} (R : Rel bg rl tb m y sn Bd n N 200 ([]) (b :: ol) L h w S) : ∃ h' S', p_X8_release h w (w + 16 + 1 + b) = some h' ∧ (∀ hm t l, p_X10_watches (mt hm (sLv S b 1 ol.length) t l) 110 5 ((sLv S b 1 ol.length) (68 + 13 * b + 0)) 0 = some (mt hm S' t l)) ∧ Rel bg rl tb m y sn Bd n N 200 ([]) ol L h' w S' ∧ Fr w h h' ∧ (∀ j, h' w j = h w j) ∧ (∀ k, (14 ≤ k ∧ k < 18) ∨ 68 ≤ k → k ≠ 68 + 13 * b + 2 → S' k = S k) := by
  have hmy := R.my
  obtain ⟨hbm, hb⟩ := R.bmy (b := b) (by simp)
  have hlen := R.li.len hmy
  obtain ⟨c1, c2, c3⟩ := R.lc
  have hl : (ol).length < 16 := by
    simp only [List.length_append, List.length_cons, List.length_nil] at hlen ⊢
    omega
  have hln : ol.length < 16 := by
    simp only [List.length_append, List.length_cons, List.length_nil] at hlen
    omega
  have e1 := rh_c (hp h (w + 16 + 1 + b) 6 0) (o := w + 33) (l := ol) hl (by rw [hp_o' _ _ (by omega), c2]; rfl)
  have r1 : hp h (w + 16 + 1 + b) 6 0 (w + 33) 1 = nI (([] : List Nat)).length := by rw [hp_o' _ _ (by omega), c1]
  have r2 : hp h (w + 16 + 1 + b) 6 0 (w + 33 + 1) = h (w + 33 + 1) := hp_n (by omega)
  rw [r1, r2, frp _ (by simp only [List.length_cons, List.length_nil]; omega)] at e1
  have hLI := R.li.lv1 hmy
  have R1 : Rel bg rl tb m y sn Bd n N 200 ([]) ol L (hp (hp (va_up (hp h (w + 16 + 1 + b) 6 0) (w + 33 + 1) (shf (h (w + 33 + 1)) 0 (ol).length)) (w + 33) 2 (nI (ol).length)) (w + 33) 1 (nI ((([] : List Nat)).length - 1))) w (sLv S b 1 ol.length) := by
    refine R.lists hb 0 ?_ ?_ ?_ ?_ hLI ⟨?_, ?_, ?_⟩
    · intro o' j n1 n2 n3
      rw [hp_o' _ _ n1, hp_o' _ _ n1, vu_o _ _ n2]
      rcases n3 with n3 | n3
      · exact hp_o' _ _ n3
      · exact hp_k _ _ n3
    · rw [hp_o' _ _ (by omega), hp_o' _ _ (by omega), vu_o _ _ (by omega), hp_s]
    · intro k hk hk2
      exact sLv_n _ (by omega) hln hk hk2
    · unfold sLv
      rw [upd_s]
    · exact (hp_s _ _ _ _).trans rfl
    · exact (hp_k _ _ (by decide)).trans ((hp_s _ _ _ _).trans rfl)
    · rw [hp_n (by omega), hp_n (by omega), vu_s]
      exact sh_AL c3
  generalize hh1 : hp (hp (va_up (hp h (w + 16 + 1 + b) 6 0) (w + 33 + 1) (shf (h (w + 33 + 1)) 0 (ol).length)) (w + 33) 2 (nI (ol).length)) (w + 33) 1 (nI ((([] : List Nat)).length - 1)) = h1 at R1 e1
  have hw1 : ∀ j, h1 w j = h w j := fun j => by
    rw [← hh1]
    simp (disch := omega) only [hp_o', vu_o]
  have hF : Fr w h h1 := by
    rw [← hh1]
    exact (((Fr.hp _ _ _ (by omega) (by omega) (by omega)).trans (Fr.vu _ _ (by omega) (by omega) (by omega))).trans (Fr.hp _ _ _ (by omega) (by omega) (by omega))).trans (Fr.hp _ _ _ (by omega) (by omega) (by omega))
  obtain ⟨d, d', nC, nM, R2⟩ := nsim_5 R1 ((sLv S b 1 ol.length) (68 + 13 * b + 0))
  refine ⟨_, _, ?_, nM, R2, hF.trans (Fr.vu _ _ (by omega) (by omega) (by omega)), fun j => ?_, fun k hk hk2 => ?_⟩
  · unfold p_X8_release
    rw [nv_eq, e1, Option.bind_some, R1.b0 hb, nC, Option.bind_some]
  · rw [vu_o _ _ (by omega), hw1]
  · rw [wup_n _ _ (by omega), sLv_n _ (by omega) hln (by omega) hk2]
theorem serve_lp (k : Nat) : ∀ {h : Hp} {S : Nat → Int32} {nw ol L : List Nat} {turn : Nat}, Rel bg rl tb m y sn Bd n N 200 nw ol L h w S → LSt n nw ol S → sm (phi S) 16 + 2 * nw.length + ol.length ≤ k → turn + k < 900000 → ∃ h' S' L' nw' ol' N' r, (∀ m, k + 1 < m → lp (b_X8_serve_2 w) m (h, nI turn) = some (r, h')) ∧ (∀ hm t l m, k + 1 < m → Tk (h (w + 1) 0) t (h' w 12) → lp (b_X10_serves_0 110) m (mt hm S t l) = some (r, mt hm S' t l)) ∧ Rel bg rl tb m y sn Bd n N' 200 nw' ol' L' h' w S' ∧ LSt n nw' ol' S' ∧ Fr w h h' ∧ h' w 10 = h w 10 ∧ h' w 12 ≤ h w 12 ∧ S' 17 = S 17 ∧ ((∃ f, f < n ∧ r = nI f ∧ fa_cnt (sd S') n + 1 ≤ fa_cnt (sd S) n) ∨ (r = -2 ∧ fa_cnt (sd S') n = 0)) := by
  induction k using Nat.strongRecOn with
  | ind k ih =>
  intro h S nw ol L turn R hLS hk ht
  have hmy := R.my
  have ct : ¬ (1000000 : Int32) ≤ nI turn := nI_ge (b := 1000000) (by omega) (by omega)
  cases nw with
  | nil =>
    cases ol with
    | nil =>
      refine ⟨h, S, L, [], [], N, -2, fun m hm => ?_, fun h0 t l m hm _ => ?_, R, hLS, Fr.refl w h, rfl, Int32.le_refl _, rfl, Or.inr ⟨rfl, ?_⟩⟩
      · obtain ⟨m', rfl⟩ : ∃ m', m = m' + 1 := ⟨m - 1, by omega⟩
        have hat : p_X2_at h (w + 33) 0 = some (-2, h) := at_out h (i := 0) (l := []) (by simp) R.lc.2.1 (by simp) (by omega)
        rw [lp_s]
        unfold b_X8_serve_2
        dsimp only
        rw [if_neg ct, hat, Option.bind_some]
        dsimp only
        rw [hasB_n, Option.bind_some]
        dsimp only
        rw [if_pos rfl]
      · obtain ⟨m', rfl⟩ : ∃ m', m = m' + 1 := ⟨m - 1, by omega⟩
        rw [lp_s]
        unfold b_X10_serves_0
        rw [if_pos (by rw [mt_r _ _ _ _ (by omega) (by omega), mt_r _ _ _ _ (by omega) (by omega), R.li.1, R.li.2.1]; decide)]
      · rcases Nat.eq_zero_or_pos (fa_cnt (sd S) n) with e | e
        · exact e
        · obtain ⟨j, h1, h2⟩ := cnt_pos e
          obtain ⟨b, hb1, hb2⟩ := (R.fi.1 j h1).2.2.2.2.1
          have := hLS b j (by omega) h1 (sb_t.mpr ⟨hb2, decide_eq_true_iff.mp h2⟩)
          simp at this
    | cons b ol =>
      obtain ⟨hbm, hb⟩ := R.bmy (b := b) (by simp)
      have hlen := R.li.len hmy
      simp only [List.length_cons, List.length_nil] at hlen
      have hat : p_X2_at h (w + 33) 0 = some (nI b, h) := at_in h (i := 0) (l := [] ++ (b :: ol)) (by simp only [List.length_append, List.length_cons, List.length_nil]; omega) R.lc.2.1 R.lc.2.2 rfl
      have cib : ib (nI b) 16 := ib_n (by omega) (by omega)
      have ecl : (nI b).toNatClampNeg = b := nI_clamp (by omega)
      have hS12 : S 12 = nI ([] : List Nat).length := R.li.1
      have hS13 : S 13 = nI (b :: ol).length := R.li.2.1
      have hin : ∀ {S1 : Nat → Int32} h0 t l, S1 (18 + 16 * 1) = nI b → p_X10_inList (mt h0 S1 t l) 110 2 0 = some (nI b, mt h0 S1 t l) := fun {S1} h0 t l e => by
        have := m_inList h0 S1 t l (l := 1) (i := 0) (by omega) (by omega)
        rw [Nat.add_zero, e] at this
        exact this
      have tC : ∀ K : Hp × Int32 → Option (Int32 × Hp), b_X8_serve_2 w K (h, nI turn) = if 0 < h (w + 16 + 1 + b) 5 then (Option.bind (p_X8_keep h w (w + 16 + 1 + b)) fun r4 => Option.bind (p_X1_has r4.2 (w + 2) r4.1) fun r5 => if r5.1 = 0 then (if (r5.2 (w + 16 + 1 + b) 6) = 1 then (Option.bind (p_X2_hasOld r5.2 (w + 33)) fun r6 => if r6.1 = 0 then (Option.bind (p_X8_release r6.2 w (w + 16 + 1 + b)) fun r7 => K (r7, nI turn + 1)) else (Option.bind (p_X8_putBack r6.2 w (w + 16 + 1 + b)) fun r8 => K (r8, nI turn + 1))) else (Option.bind (p_X8_release r5.2 w (w + 16 + 1 + b)) fun r9 => K (r9, nI turn + 1))) else (Option.bind (p_X8_send r5.2 w (w + 16 + 1 + b) r4.1) fun r10 => some (r4.1, r10))) else (nv (hp h (w + 16 + 1 + b) 5 (h (w + 16 + 1 + b) 5 + h (w + 1) 2)) fun h11 => Option.bind (p_X8_putBack h11 w (w + 16 + 1 + b)) fun r12 => K (r12, nI turn + 1)) := fun K => by
        unfold b_X8_serve_2
        dsimp only
        rw [if_neg ct, hat, Option.bind_some]
        dsimp only
        rw [hasB_y R hbm, Option.bind_some]
        dsimp only
        rw [if_neg one_nz, if_pos cib, ecl]
      have tM : ∀ h0 t l (K : Hp → Option (Int32 × Hp)), b_X10_serves_0 110 K (mt h0 S t l) = if 0 < S (68 + 13 * b + 1) then (Option.bind (p_X10_keeps (mt h0 S t l) 110 (nI b)) fun r7 => if r7.1 = (-1) then (if (2 : Int32) = 1 then (if (r7.2 (110 + 6) 13) ≤ 0 then (q_X10_serves_120 K r7.2 110 2 (nI b) 0) else (q_X10_serves_120 K r7.2 110 2 (nI b) 1)) else (q_X10_serves_120 K r7.2 110 2 (nI b) 0)) else (Option.bind (p_X10_sends r7.2 110 (nI b) r7.1) fun r8 => some (r7.1, r8))) else (Option.bind (p_X10_of (mt h0 S t l) 110 (nI b) 1) fun r9 => Option.bind (p_X10_quantum r9.2 110) fun r10 => Option.bind (p_X10_puts r10.2 110 (nI b) 1 (r9.1 + r10.1)) fun r11 => Option.bind (p_X10_leaves r11 110 2) fun r12 => Option.bind (p_X10_enters r12 110 (nI b) 2) fun r13 => K r13) := fun h0 t l K => by
        have hq : q_X10_serves_33 K (mt h0 S t l) 110 2 = if 0 < S (68 + 13 * b + 1) then (Option.bind (p_X10_keeps (mt h0 S t l) 110 (nI b)) fun r7 => if r7.1 = (-1) then (if (2 : Int32) = 1 then (if (r7.2 (110 + 6) 13) ≤ 0 then (q_X10_serves_120 K r7.2 110 2 (nI b) 0) else (q_X10_serves_120 K r7.2 110 2 (nI b) 1)) else (q_X10_serves_120 K r7.2 110 2 (nI b) 0)) else (Option.bind (p_X10_sends r7.2 110 (nI b) r7.1) fun r8 => some (r7.1, r8))) else (Option.bind (p_X10_of (mt h0 S t l) 110 (nI b) 1) fun r9 => Option.bind (p_X10_quantum r9.2 110) fun r10 => Option.bind (p_X10_puts r10.2 110 (nI b) 1 (r9.1 + r10.1)) fun r11 => Option.bind (p_X10_leaves r11 110 2) fun r12 => Option.bind (p_X10_enters r12 110 (nI b) 2) fun r13 => K r13) := by
          unfold q_X10_serves_33
          rw [hin h0 t l (by exact R.li.2.2.2.1.head), Option.bind_some]
          dsimp only
          rw [m_of_1 h0 S t l hb, Option.bind_some]
          dsimp only
          rw [m_of_1 h0 S t l hb]
        rw [← hq]
        unfold b_X10_serves_0
        rw [if_neg (by rw [mt_r _ _ _ _ (by omega) (by omega), mt_r _ _ _ _ (by omega) (by omega), hS12, hS13, nI_add]; exact nI_nle (by simp only [List.length_cons, List.length_nil]; omega) (by simp only [List.length_cons, List.length_nil]; omega))]
        rw [if_pos (by rw [mt_r _ _ _ _ (by omega) (by omega), hS12]; decide)]
      have hlv : ∀ {S1 : Nat → Int32} h0 t l, kLI m y [] (b :: ol) S1 → p_X10_leaves (mt h0 S1 t l) 110 2 = some (mt h0 (sLv S1 b 1 ol.length) t l) := fun {S1} h0 t l H => m_leaves h0 S1 t l (b := b) (l := 1) (n := ol.length) hb (by omega) (by omega) (by exact H.2.1) (by exact H.2.2.2.1.head)
      have hen : ∀ {S1 : Nat → Int32} h0 t l, kLI m y [] ol S1 → p_X10_enters (mt h0 S1 t l) 110 (nI b) 2 = some (mt h0 (sEn S1 b 1 ol.length) t l) := fun {S1} h0 t l H => m_enters h0 S1 t l (b := b) (l := 1) (n := ol.length) hb (by omega) (by omega) H.2.1
      by_cases hdf : 0 < S (68 + 13 * b + 1)
      · have hdi : 0 < (S (68 + 13 * b + 1)).toInt := by
          rw [Int32.lt_iff_toInt_lt] at hdf
          exact hdf
        obtain ⟨h1, S1, L1, r, r', kC, kM, kO, kK⟩ := keep_sim R hb
        have hT1 : h1 (w + 1) 0 = h (w + 1) 0 := kK.1.2 0
        rcases kO with ⟨f, hf, rfl, rfl, R1, e6, ecn⟩ | ⟨rfl, rfl, R1, eno⟩
        · have hn := R.n200
          have hf2 : f < 200 := by omega
          obtain ⟨h2, S2, N', sC, sM, R2, F2, s10, s12, scn, smo, s17⟩ := send_sim R1 hb hf2 e6 (by rw [kK.2.2.2.1 b hb]; exact hdi)
          refine ⟨h2, S2, L1 ++ [f], [], b :: ol, N', nI f, fun m hm => ?_, fun h0 t l m hm hTk => ?_, R2, fun b' g hb' hg u => hLS b' g hb' hg (kK.2.2.2.2.2.1 b' g hg (smo b' g hg u)), kK.1.trans F2, s10.trans kK.2.1, by rw [s12]; exact kK.2.2.1, s17.trans kK.2.2.2.2.2.2, Or.inl ⟨f, hf, rfl, by omega⟩⟩
          · obtain ⟨m', rfl⟩ : ∃ m', m = m' + 1 := ⟨m - 1, by omega⟩
            rw [lp_s, tC, if_pos (by rw [R.b5 hb]; exact hdf), kC, Option.bind_some]
            dsimp only
            rw [has_y R1 hf, Option.bind_some]
            dsimp only
            rw [if_neg one_nz, sC, Option.bind_some]
          · obtain ⟨m', rfl⟩ : ∃ m', m = m' + 1 := ⟨m - 1, by omega⟩
            rw [lp_s, tM, if_pos hdf, kM h0 t l (by rw [s12] at hTk; exact hTk), Option.bind_some]
            dsimp only
            rw [if_neg (m2_ne (by omega)), sM, Option.bind_some]
        · have hlst : h1 (w + 16 + 1 + b) 6 = 2 := by
            rw [R1.b6 hb, R1.li.2.2.2.2.2.2 b hb, if_neg (by simp), if_pos (by simp)]
          obtain ⟨h2, S2, rC, rM, R2, F2, w2, s2⟩ := rl_old R1
          have df2 : ∀ b', b' < 16 → S2 (68 + 13 * b' + 1) = S1 (68 + 13 * b' + 1) := fun b' hb' => s2 _ (by omega) (by omega)
          have s217 : S2 17 = S1 17 := s2 17 (by omega) (by omega)
          have far2 : ∀ k, 276 ≤ k → S2 k = S1 k := fun k hk => s2 k (by omega) (by omega)
          have hph : sm (phi S2) 16 = sm (phi S) 16 := sm_cong fun b' hb' => by
            unfold phi
            rw [df2 b' hb', kK.2.2.2.1 b' hb']
          have hLS2 : LSt n [] ol S2 := fun b' g hb' hg u => by
            rw [sb_far far2] at u
            by_cases e : b' = b
            · subst e
              rw [eno g hg] at u
              cases u
            · have := hLS b' g hb' hg (kK.2.2.2.2.2.1 b' g hg u)
              rcases this with z | z
              · exact Or.inl z
              · rcases List.mem_cons.mp z with z | z
                · exact absurd z e
                · exact Or.inr z
          have hmu : sm (phi S2) 16 + 2 * ([] : List Nat).length + (ol).length ≤ k - 1 := by
            rw [hph]
            simp only [List.length_append, List.length_cons, List.length_nil] at hk ⊢
            omega
          have hk1 : 1 ≤ k := by
            simp only [List.length_append, List.length_cons, List.length_nil] at hk
            omega
          obtain ⟨h', S', L', nw', ol', N', r, iC, iM, iR, iL, iF, i10, i12, i17, iO⟩ := ih (k - 1) (by omega) (turn := turn + 1) R2 hLS2 hmu (by omega)
          have hcn2 := cnt_far (n := n) far2
          have hkc := kK.2.2.2.2.1
          refine ⟨h', S', L', nw', ol', N', r, fun m hm => ?_, fun h0 t l m hm hTk => ?_, iR, iL, (kK.1.trans F2).trans iF, (i10.trans (w2 10)).trans kK.2.1, Int32.le_trans i12 (by rw [w2]; exact kK.2.2.1), (i17.trans s217).trans kK.2.2.2.2.2.2, ?_⟩
          · obtain ⟨m', rfl⟩ : ∃ m', m = m' + 1 := ⟨m - 1, by omega⟩
            rw [lp_s, tC, if_pos (by rw [R.b5 hb]; exact hdf), kC, Option.bind_some]
            dsimp only
            rw [has_n, Option.bind_some]
            dsimp only
            rw [if_pos rfl, if_neg (by rw [hlst]; decide), rC, Option.bind_some, nI_1]
            exact iC m' (by omega)
          · obtain ⟨m', rfl⟩ : ∃ m', m = m' + 1 := ⟨m - 1, by omega⟩
            have hT2 : h2 (w + 1) 0 = h (w + 1) 0 := (F2.2 0).trans hT1
            have hTk1 : Tk (h (w + 1) 0) t (h1 w 12) := hTk.mono (Int32.le_trans i12 (by rw [w2]; exact Int32.le_refl _))
            rw [lp_s, tM, if_pos hdf, kM h0 t l hTk1, Option.bind_some]
            dsimp only
            rw [if_pos rfl, if_neg (show ¬ (2 : Int32) = 1 by decide)]
            unfold q_X10_serves_120
            rw [hlv h0 t l R1.li, Option.bind_some, if_pos rfl, m_of_0 h0 _ t l hb, Option.bind_some]
            dsimp only
            rw [rM, Option.bind_some]
            exact iM h0 t l m' (by omega) (by rw [hT2]; exact hTk)
          · rcases iO with ⟨f, a1, a2, a3⟩ | ⟨a1, a2⟩
            · exact Or.inl ⟨f, a1, a2, by omega⟩
            · exact Or.inr ⟨a1, a2⟩
      · have hdi : (S (68 + 13 * b + 1)).toInt ≤ 0 := by
          have := fa_of_nlt hdf
          rw [Int32.le_iff_toInt_le] at this
          exact this
        obtain ⟨qu, hq1, hq2, hqe⟩ := R.i6
        have hd0 := (R.br b hb).1
        have hsum : (S (68 + 13 * b + 1) + S 6).toInt = (S (68 + 13 * b + 1)).toInt + qu := by
          rw [hqe, Int32.toInt_add, nI_toInt (by omega)]
          exact bm32 (by omega) (by omega)
        have R1 := R.u5 hb (S (68 + 13 * b + 1) + S 6) (by omega) (by omega)
        have hP1 := fun h0 t l => m_puts_1 h0 S t l (S (68 + 13 * b + 1) + S 6) hb
        have u1 : ∀ k, k ≠ 68 + 13 * b + 1 → upd S (68 + 13 * b + 1) (S (68 + 13 * b + 1) + S 6) k = S k := fun k hk => upd_n _ _ hk
        have u1s : (upd S (68 + 13 * b + 1) (S (68 + 13 * b + 1) + S 6) (68 + 13 * b + 1)).toInt = (S (68 + 13 * b + 1)).toInt + qu := by rw [upd_s, hsum]
        generalize hS1 : upd S (68 + 13 * b + 1) (S (68 + 13 * b + 1) + S 6) = S1 at R1 hP1 u1 u1s
        obtain ⟨h2, rC, R2, F2, w2⟩ := pb_old R1
        have hl16 : ol.length < 16 ∧ ol.length < 16 := by omega
        have far2 : ∀ k, 68 ≤ k → k ≠ 68 + 13 * b + 2 → (sEn (sLv S1 b 1 ol.length) b 1 ol.length) k = S1 k := fun k hk hk2 => by rw [sEn_n _ (by omega) hl16.2 (by omega) hk2, sLv_n _ (by omega) hl16.1 (by omega) hk2]
        have s217 : (sEn (sLv S1 b 1 ol.length) b 1 ol.length) 17 = S 17 := by rw [sEn_n _ (by omega) hl16.2 (by omega) (by omega), sLv_n _ (by omega) hl16.1 (by omega) (by omega), u1 17 (by omega)]
        have far1 : ∀ k, 276 ≤ k → (sEn (sLv S1 b 1 ol.length) b 1 ol.length) k = S k := fun k hk => by rw [far2 k (by omega) (by omega), u1 k (by omega)]
        have hph : sm (phi (sEn (sLv S1 b 1 ol.length) b 1 ol.length)) 16 + 1 ≤ sm (phi S) 16 := by
          have e1 := sm_one (g := phi S) (g' := phi (sEn (sLv S1 b 1 ol.length) b 1 ol.length)) (j := b) (n := 16) hb (fun b' hb' hn => by
            unfold phi
            rw [far2 _ (by omega) (by omega), u1 _ (by omega)])
          have e2 : phi (sEn (sLv S1 b 1 ol.length) b 1 ol.length) b + 1 ≤ phi S b := by
            unfold phi
            rw [far2 _ (by omega) (by omega), u1s]
            omega
          omega
        have hLS2 : LSt n [] (ol ++ [b]) (sEn (sLv S1 b 1 ol.length) b 1 ol.length) := fun b' g hb' hg u => by
          rw [sb_far far1] at u
          rcases hLS b' g hb' hg u with z | z
          · exact Or.inl z
          · rcases List.mem_cons.mp z with z | z
            · exact Or.inr (by rw [z]; simp)
            · exact Or.inr (List.mem_append_left _ z)
        have hmu : sm (phi (sEn (sLv S1 b 1 ol.length) b 1 ol.length)) 16 + 2 * ([] : List Nat).length + (ol ++ [b]).length ≤ k - 1 := by
          simp only [List.length_append, List.length_cons, List.length_nil] at hk ⊢
          omega
        have hk1 : 1 ≤ k := by omega
        obtain ⟨h', S', L', nw', ol', N', r, iC, iM, iR, iL, iF, i10, i12, i17, iO⟩ := ih (k - 1) (by omega) (turn := turn + 1) R2 hLS2 hmu (by omega)
        have hcn2 := cnt_far (n := n) far1
        have F1 : Fr w h (hp h (w + 16 + 1 + b) 5 (S (68 + 13 * b + 1) + S 6)) := Fr.hp _ _ _ (by omega) (by omega) (by omega)
        have w1 : ∀ j, h2 w j = h w j := fun j => by rw [w2 j, hp_o' _ _ (by omega)]
        refine ⟨h', S', L', nw', ol', N', r, fun m hm => ?_, fun h0 t l m hm hTk => ?_, iR, iL, (F1.trans F2).trans iF, i10.trans (w1 10), Int32.le_trans i12 (by rw [w1]; exact Int32.le_refl _), i17.trans s217, ?_⟩
        · obtain ⟨m', rfl⟩ : ∃ m', m = m' + 1 := ⟨m - 1, by omega⟩
          rw [lp_s, tC, if_neg (by rw [R.b5 hb]; exact hdf), R.b5 hb, R.qua, nv_eq, rC, Option.bind_some, nI_1]
          exact iC m' (by omega)
        · obtain ⟨m', rfl⟩ : ∃ m', m = m' + 1 := ⟨m - 1, by omega⟩
          rw [lp_s, tM, if_neg hdf, m_of_1 h0 S t l hb, Option.bind_some]
          dsimp only
          rw [m_quantum, Option.bind_some]
          dsimp only
          rw [hP1, Option.bind_some, hlv h0 t l R1.li, Option.bind_some, hen h0 t l (R1.li.lv1 hmy), Option.bind_some]
          exact iM h0 t l m' (by omega) (by rw [show h2 (w + 1) 0 = h (w + 1) 0 from (F1.trans F2).2 0]; exact hTk)
        · rcases iO with ⟨f, a1, a2, a3⟩ | ⟨a1, a2⟩
          · exact Or.inl ⟨f, a1, a2, by omega⟩
          · exact Or.inr ⟨a1, a2⟩
  | cons b nw =>
    obtain ⟨hbm, hb⟩ := R.bmy (b := b) (by simp)
    have hlen := R.li.len hmy
    simp only [List.length_cons, List.length_nil] at hlen
    have hat : p_X2_at h (w + 33) 0 = some (nI b, h) := at_in h (i := 0) (l := b :: nw ++ ol) (by simp only [List.length_append, List.length_cons, List.length_nil]; omega) R.lc.2.1 R.lc.2.2 rfl
    have cib : ib (nI b) 16 := ib_n (by omega) (by omega)
    have ecl : (nI b).toNatClampNeg = b := nI_clamp (by omega)
    have hS12 : S 12 = nI (b :: nw).length := R.li.1
    have hS13 : S 13 = nI (ol).length := R.li.2.1
    have hin : ∀ {S1 : Nat → Int32} h0 t l, S1 (18 + 16 * 0) = nI b → p_X10_inList (mt h0 S1 t l) 110 1 0 = some (nI b, mt h0 S1 t l) := fun {S1} h0 t l e => by
      have := m_inList h0 S1 t l (l := 0) (i := 0) (by omega) (by omega)
      rw [Nat.add_zero, e] at this
      exact this
    have tC : ∀ K : Hp × Int32 → Option (Int32 × Hp), b_X8_serve_2 w K (h, nI turn) = if 0 < h (w + 16 + 1 + b) 5 then (Option.bind (p_X8_keep h w (w + 16 + 1 + b)) fun r4 => Option.bind (p_X1_has r4.2 (w + 2) r4.1) fun r5 => if r5.1 = 0 then (if (r5.2 (w + 16 + 1 + b) 6) = 1 then (Option.bind (p_X2_hasOld r5.2 (w + 33)) fun r6 => if r6.1 = 0 then (Option.bind (p_X8_release r6.2 w (w + 16 + 1 + b)) fun r7 => K (r7, nI turn + 1)) else (Option.bind (p_X8_putBack r6.2 w (w + 16 + 1 + b)) fun r8 => K (r8, nI turn + 1))) else (Option.bind (p_X8_release r5.2 w (w + 16 + 1 + b)) fun r9 => K (r9, nI turn + 1))) else (Option.bind (p_X8_send r5.2 w (w + 16 + 1 + b) r4.1) fun r10 => some (r4.1, r10))) else (nv (hp h (w + 16 + 1 + b) 5 (h (w + 16 + 1 + b) 5 + h (w + 1) 2)) fun h11 => Option.bind (p_X8_putBack h11 w (w + 16 + 1 + b)) fun r12 => K (r12, nI turn + 1)) := fun K => by
      unfold b_X8_serve_2
      dsimp only
      rw [if_neg ct, hat, Option.bind_some]
      dsimp only
      rw [hasB_y R hbm, Option.bind_some]
      dsimp only
      rw [if_neg one_nz, if_pos cib, ecl]
    have tM : ∀ h0 t l (K : Hp → Option (Int32 × Hp)), b_X10_serves_0 110 K (mt h0 S t l) = if 0 < S (68 + 13 * b + 1) then (Option.bind (p_X10_keeps (mt h0 S t l) 110 (nI b)) fun r7 => if r7.1 = (-1) then (if (1 : Int32) = 1 then (if (r7.2 (110 + 6) 13) ≤ 0 then (q_X10_serves_120 K r7.2 110 1 (nI b) 0) else (q_X10_serves_120 K r7.2 110 1 (nI b) 1)) else (q_X10_serves_120 K r7.2 110 1 (nI b) 0)) else (Option.bind (p_X10_sends r7.2 110 (nI b) r7.1) fun r8 => some (r7.1, r8))) else (Option.bind (p_X10_of (mt h0 S t l) 110 (nI b) 1) fun r9 => Option.bind (p_X10_quantum r9.2 110) fun r10 => Option.bind (p_X10_puts r10.2 110 (nI b) 1 (r9.1 + r10.1)) fun r11 => Option.bind (p_X10_leaves r11 110 1) fun r12 => Option.bind (p_X10_enters r12 110 (nI b) 2) fun r13 => K r13) := fun h0 t l K => by
      have hq : q_X10_serves_33 K (mt h0 S t l) 110 1 = if 0 < S (68 + 13 * b + 1) then (Option.bind (p_X10_keeps (mt h0 S t l) 110 (nI b)) fun r7 => if r7.1 = (-1) then (if (1 : Int32) = 1 then (if (r7.2 (110 + 6) 13) ≤ 0 then (q_X10_serves_120 K r7.2 110 1 (nI b) 0) else (q_X10_serves_120 K r7.2 110 1 (nI b) 1)) else (q_X10_serves_120 K r7.2 110 1 (nI b) 0)) else (Option.bind (p_X10_sends r7.2 110 (nI b) r7.1) fun r8 => some (r7.1, r8))) else (Option.bind (p_X10_of (mt h0 S t l) 110 (nI b) 1) fun r9 => Option.bind (p_X10_quantum r9.2 110) fun r10 => Option.bind (p_X10_puts r10.2 110 (nI b) 1 (r9.1 + r10.1)) fun r11 => Option.bind (p_X10_leaves r11 110 1) fun r12 => Option.bind (p_X10_enters r12 110 (nI b) 2) fun r13 => K r13) := by
        unfold q_X10_serves_33
        rw [hin h0 t l (by exact R.li.2.2.1.head), Option.bind_some]
        dsimp only
        rw [m_of_1 h0 S t l hb, Option.bind_some]
        dsimp only
        rw [m_of_1 h0 S t l hb]
      rw [← hq]
      unfold b_X10_serves_0
      rw [if_neg (by rw [mt_r _ _ _ _ (by omega) (by omega), mt_r _ _ _ _ (by omega) (by omega), hS12, hS13, nI_add]; exact nI_nle (by simp only [List.length_cons, List.length_nil]; omega) (by simp only [List.length_cons, List.length_nil]; omega))]
      rw [if_neg (by rw [mt_r _ _ _ _ (by omega) (by omega), hS12]; exact nI_nle (by simp only [List.length_cons]; omega) (by simp only [List.length_cons]; omega))]
    have hlv : ∀ {S1 : Nat → Int32} h0 t l, kLI m y (b :: nw) ol S1 → p_X10_leaves (mt h0 S1 t l) 110 1 = some (mt h0 (sLv S1 b 0 nw.length) t l) := fun {S1} h0 t l H => m_leaves h0 S1 t l (b := b) (l := 0) (n := nw.length) hb (by omega) (by omega) (by exact H.1) (by exact H.2.2.1.head)
    have hen : ∀ {S1 : Nat → Int32} h0 t l, kLI m y nw ol S1 → p_X10_enters (mt h0 S1 t l) 110 (nI b) 2 = some (mt h0 (sEn S1 b 1 ol.length) t l) := fun {S1} h0 t l H => m_enters h0 S1 t l (b := b) (l := 1) (n := ol.length) hb (by omega) (by omega) H.2.1
    by_cases hdf : 0 < S (68 + 13 * b + 1)
    · have hdi : 0 < (S (68 + 13 * b + 1)).toInt := by
        rw [Int32.lt_iff_toInt_lt] at hdf
        exact hdf
      obtain ⟨h1, S1, L1, r, r', kC, kM, kO, kK⟩ := keep_sim R hb
      have hT1 : h1 (w + 1) 0 = h (w + 1) 0 := kK.1.2 0
      rcases kO with ⟨f, hf, rfl, rfl, R1, e6, ecn⟩ | ⟨rfl, rfl, R1, eno⟩
      · have hn := R.n200
        have hf2 : f < 200 := by omega
        obtain ⟨h2, S2, N', sC, sM, R2, F2, s10, s12, scn, smo, s17⟩ := send_sim R1 hb hf2 e6 (by rw [kK.2.2.2.1 b hb]; exact hdi)
        refine ⟨h2, S2, L1 ++ [f], b :: nw, ol, N', nI f, fun m hm => ?_, fun h0 t l m hm hTk => ?_, R2, fun b' g hb' hg u => hLS b' g hb' hg (kK.2.2.2.2.2.1 b' g hg (smo b' g hg u)), kK.1.trans F2, s10.trans kK.2.1, by rw [s12]; exact kK.2.2.1, s17.trans kK.2.2.2.2.2.2, Or.inl ⟨f, hf, rfl, by omega⟩⟩
        · obtain ⟨m', rfl⟩ : ∃ m', m = m' + 1 := ⟨m - 1, by omega⟩
          rw [lp_s, tC, if_pos (by rw [R.b5 hb]; exact hdf), kC, Option.bind_some]
          dsimp only
          rw [has_y R1 hf, Option.bind_some]
          dsimp only
          rw [if_neg one_nz, sC, Option.bind_some]
        · obtain ⟨m', rfl⟩ : ∃ m', m = m' + 1 := ⟨m - 1, by omega⟩
          rw [lp_s, tM, if_pos hdf, kM h0 t l (by rw [s12] at hTk; exact hTk), Option.bind_some]
          dsimp only
          rw [if_neg (m2_ne (by omega)), sM, Option.bind_some]
      · have hlst : h1 (w + 16 + 1 + b) 6 = 1 := by
          rw [R1.b6 hb, R1.li.2.2.2.2.2.2 b hb, if_pos (by simp)]
        cases ol with
        | nil =>
          obtain ⟨h2, S2, rC, rM, R2, F2, w2, s2⟩ := rl_new R1
          have df2 : ∀ b', b' < 16 → S2 (68 + 13 * b' + 1) = S1 (68 + 13 * b' + 1) := fun b' hb' => s2 _ (by omega) (by omega)
          have s217 : S2 17 = S1 17 := s2 17 (by omega) (by omega)
          have far2 : ∀ k, 276 ≤ k → S2 k = S1 k := fun k hk => s2 k (by omega) (by omega)
          have hph : sm (phi S2) 16 = sm (phi S) 16 := sm_cong fun b' hb' => by
            unfold phi
            rw [df2 b' hb', kK.2.2.2.1 b' hb']
          have hLS2 : LSt n nw [] S2 := fun b' g hb' hg u => by
            rw [sb_far far2] at u
            by_cases e : b' = b
            · subst e
              rw [eno g hg] at u
              cases u
            · have := hLS b' g hb' hg (kK.2.2.2.2.2.1 b' g hg u)
              rcases this with z | z
              · rcases List.mem_cons.mp z with z | z
                · exact absurd z e
                · exact Or.inl z
              · exact Or.inr z
          have hmu : sm (phi S2) 16 + 2 * (nw).length + ([] : List Nat).length ≤ k - 1 := by
            rw [hph]
            simp only [List.length_append, List.length_cons, List.length_nil] at hk ⊢
            omega
          have hk1 : 1 ≤ k := by
            simp only [List.length_append, List.length_cons, List.length_nil] at hk
            omega
          obtain ⟨h', S', L', nw', ol', N', r, iC, iM, iR, iL, iF, i10, i12, i17, iO⟩ := ih (k - 1) (by omega) (turn := turn + 1) R2 hLS2 hmu (by omega)
          have hcn2 := cnt_far (n := n) far2
          have hkc := kK.2.2.2.2.1
          refine ⟨h', S', L', nw', ol', N', r, fun m hm => ?_, fun h0 t l m hm hTk => ?_, iR, iL, (kK.1.trans F2).trans iF, (i10.trans (w2 10)).trans kK.2.1, Int32.le_trans i12 (by rw [w2]; exact kK.2.2.1), (i17.trans s217).trans kK.2.2.2.2.2.2, ?_⟩
          · obtain ⟨m', rfl⟩ : ∃ m', m = m' + 1 := ⟨m - 1, by omega⟩
            rw [lp_s, tC, if_pos (by rw [R.b5 hb]; exact hdf), kC, Option.bind_some]
            dsimp only
            rw [has_n, Option.bind_some]
            dsimp only
            rw [if_pos rfl, if_pos hlst]
            unfold p_X2_hasOld
            rw [if_pos (by rw [R1.lc.1, R1.lc.2.1, List.append_nil]; exact nI_le (Nat.le_refl _) (by simp only [List.length_cons]; omega)), Option.bind_some]
            dsimp only
            rw [if_pos rfl, rC, Option.bind_some, nI_1]
            exact iC m' (by omega)
          · obtain ⟨m', rfl⟩ : ∃ m', m = m' + 1 := ⟨m - 1, by omega⟩
            have hT2 : h2 (w + 1) 0 = h (w + 1) 0 := (F2.2 0).trans hT1
            have hTk1 : Tk (h (w + 1) 0) t (h1 w 12) := hTk.mono (Int32.le_trans i12 (by rw [w2]; exact Int32.le_refl _))
            rw [lp_s, tM, if_pos hdf, kM h0 t l hTk1, Option.bind_some]
            dsimp only
            rw [if_pos rfl, if_pos rfl, if_pos (by rw [mt_r _ _ _ _ (by omega) (by omega), R1.li.2.1]; decide)]
            unfold q_X10_serves_120
            rw [hlv h0 t l R1.li, Option.bind_some, if_pos rfl, m_of_0 h0 _ t l hb, Option.bind_some]
            dsimp only
            rw [rM, Option.bind_some]
            exact iM h0 t l m' (by omega) (by rw [hT2]; exact hTk)
          · rcases iO with ⟨f, a1, a2, a3⟩ | ⟨a1, a2⟩
            · exact Or.inl ⟨f, a1, a2, by omega⟩
            · exact Or.inr ⟨a1, a2⟩
        | cons o1 ol =>
          obtain ⟨h2, rC, R2, F2, w2⟩ := pb_new R1
          have hl16 : nw.length < 16 ∧ (o1 :: ol).length < 16 := by
            simp only [List.length_cons] at hlen ⊢
            omega
          have df2 : ∀ b', b' < 16 → (sEn (sLv S1 b 0 nw.length) b 1 (o1 :: ol).length) (68 + 13 * b' + 1) = S1 (68 + 13 * b' + 1) := fun b' hb' => by rw [sEn_n _ (by omega) hl16.2 (by omega) (by omega), sLv_n _ (by omega) hl16.1 (by omega) (by omega)]
          have s217 : (sEn (sLv S1 b 0 nw.length) b 1 (o1 :: ol).length) 17 = S1 17 := by rw [sEn_n _ (by omega) hl16.2 (by omega) (by omega), sLv_n _ (by omega) hl16.1 (by omega) (by omega)]
          have far2 : ∀ k, 276 ≤ k → (sEn (sLv S1 b 0 nw.length) b 1 (o1 :: ol).length) k = S1 k := fun k hk => by rw [sEn_n _ (by omega) hl16.2 (by omega) (by omega), sLv_n _ (by omega) hl16.1 (by omega) (by omega)]
          have hph : sm (phi (sEn (sLv S1 b 0 nw.length) b 1 (o1 :: ol).length)) 16 = sm (phi S) 16 := sm_cong fun b' hb' => by
            unfold phi
            rw [df2 b' hb', kK.2.2.2.1 b' hb']
          have hLS2 : LSt n nw ((o1 :: ol) ++ [b]) (sEn (sLv S1 b 0 nw.length) b 1 (o1 :: ol).length) := fun b' g hb' hg u => by
            rw [sb_far far2] at u
            have := hLS b' g hb' hg (kK.2.2.2.2.2.1 b' g hg u)
            rcases this with z | z
            · rcases List.mem_cons.mp z with z | z
              · exact Or.inr (by rw [z]; simp)
              · exact Or.inl z
            · exact Or.inr (List.mem_append_left _ z)
          have hmu : sm (phi (sEn (sLv S1 b 0 nw.length) b 1 (o1 :: ol).length)) 16 + 2 * (nw).length + (((o1 :: ol) ++ [b])).length ≤ k - 1 := by
            rw [hph]
            simp only [List.length_append, List.length_cons, List.length_nil] at hk ⊢
            omega
          have hk1 : 1 ≤ k := by
            simp only [List.length_append, List.length_cons, List.length_nil] at hk
            omega
          obtain ⟨h', S', L', nw', ol', N', r, iC, iM, iR, iL, iF, i10, i12, i17, iO⟩ := ih (k - 1) (by omega) (turn := turn + 1) R2 hLS2 hmu (by omega)
          have hcn2 := cnt_far (n := n) far2
          have hkc := kK.2.2.2.2.1
          refine ⟨h', S', L', nw', ol', N', r, fun m hm => ?_, fun h0 t l m hm hTk => ?_, iR, iL, (kK.1.trans F2).trans iF, (i10.trans (w2 10)).trans kK.2.1, Int32.le_trans i12 (by rw [w2]; exact kK.2.2.1), (i17.trans s217).trans kK.2.2.2.2.2.2, ?_⟩
          · obtain ⟨m', rfl⟩ : ∃ m', m = m' + 1 := ⟨m - 1, by omega⟩
            rw [lp_s, tC, if_pos (by rw [R.b5 hb]; exact hdf), kC, Option.bind_some]
            dsimp only
            rw [has_n, Option.bind_some]
            dsimp only
            rw [if_pos rfl, if_pos hlst]
            unfold p_X2_hasOld
            rw [if_neg (by rw [R1.lc.1, R1.lc.2.1, List.length_append]; exact nI_ge (by simp only [List.length_cons]; omega) (by simp only [List.length_cons] at hl16 ⊢; omega)), Option.bind_some]
            dsimp only
            rw [if_neg one_nz, rC, Option.bind_some, nI_1]
            exact iC m' (by omega)
          · obtain ⟨m', rfl⟩ : ∃ m', m = m' + 1 := ⟨m - 1, by omega⟩
            have hT2 : h2 (w + 1) 0 = h (w + 1) 0 := (F2.2 0).trans hT1
            have hTk1 : Tk (h (w + 1) 0) t (h1 w 12) := hTk.mono (Int32.le_trans i12 (by rw [w2]; exact Int32.le_refl _))
            rw [lp_s, tM, if_pos hdf, kM h0 t l hTk1, Option.bind_some]
            dsimp only
            rw [if_pos rfl, if_pos rfl, if_neg (by rw [mt_r _ _ _ _ (by omega) (by omega), R1.li.2.1]; exact nI_nle (by simp only [List.length_cons]; omega) (by omega))]
            unfold q_X10_serves_120
            rw [hlv h0 t l R1.li, Option.bind_some, if_neg one_nz, hen h0 t l (R1.li.lv0 hmy), Option.bind_some]
            exact iM h0 t l m' (by omega) (by rw [hT2]; exact hTk)
          · rcases iO with ⟨f, a1, a2, a3⟩ | ⟨a1, a2⟩
            · exact Or.inl ⟨f, a1, a2, by omega⟩
            · exact Or.inr ⟨a1, a2⟩
    · have hdi : (S (68 + 13 * b + 1)).toInt ≤ 0 := by
        have := fa_of_nlt hdf
        rw [Int32.le_iff_toInt_le] at this
        exact this
      obtain ⟨qu, hq1, hq2, hqe⟩ := R.i6
      have hd0 := (R.br b hb).1
      have hsum : (S (68 + 13 * b + 1) + S 6).toInt = (S (68 + 13 * b + 1)).toInt + qu := by
        rw [hqe, Int32.toInt_add, nI_toInt (by omega)]
        exact bm32 (by omega) (by omega)
      have R1 := R.u5 hb (S (68 + 13 * b + 1) + S 6) (by omega) (by omega)
      have hP1 := fun h0 t l => m_puts_1 h0 S t l (S (68 + 13 * b + 1) + S 6) hb
      have u1 : ∀ k, k ≠ 68 + 13 * b + 1 → upd S (68 + 13 * b + 1) (S (68 + 13 * b + 1) + S 6) k = S k := fun k hk => upd_n _ _ hk
      have u1s : (upd S (68 + 13 * b + 1) (S (68 + 13 * b + 1) + S 6) (68 + 13 * b + 1)).toInt = (S (68 + 13 * b + 1)).toInt + qu := by rw [upd_s, hsum]
      generalize hS1 : upd S (68 + 13 * b + 1) (S (68 + 13 * b + 1) + S 6) = S1 at R1 hP1 u1 u1s
      obtain ⟨h2, rC, R2, F2, w2⟩ := pb_new R1
      have hl16 : nw.length < 16 ∧ ol.length < 16 := by omega
      have far2 : ∀ k, 68 ≤ k → k ≠ 68 + 13 * b + 2 → (sEn (sLv S1 b 0 nw.length) b 1 ol.length) k = S1 k := fun k hk hk2 => by rw [sEn_n _ (by omega) hl16.2 (by omega) hk2, sLv_n _ (by omega) hl16.1 (by omega) hk2]
      have s217 : (sEn (sLv S1 b 0 nw.length) b 1 ol.length) 17 = S 17 := by rw [sEn_n _ (by omega) hl16.2 (by omega) (by omega), sLv_n _ (by omega) hl16.1 (by omega) (by omega), u1 17 (by omega)]
      have far1 : ∀ k, 276 ≤ k → (sEn (sLv S1 b 0 nw.length) b 1 ol.length) k = S k := fun k hk => by rw [far2 k (by omega) (by omega), u1 k (by omega)]
      have hph : sm (phi (sEn (sLv S1 b 0 nw.length) b 1 ol.length)) 16 + 1 ≤ sm (phi S) 16 := by
        have e1 := sm_one (g := phi S) (g' := phi (sEn (sLv S1 b 0 nw.length) b 1 ol.length)) (j := b) (n := 16) hb (fun b' hb' hn => by
          unfold phi
          rw [far2 _ (by omega) (by omega), u1 _ (by omega)])
        have e2 : phi (sEn (sLv S1 b 0 nw.length) b 1 ol.length) b + 1 ≤ phi S b := by
          unfold phi
          rw [far2 _ (by omega) (by omega), u1s]
          omega
        omega
      have hLS2 : LSt n nw (ol ++ [b]) (sEn (sLv S1 b 0 nw.length) b 1 ol.length) := fun b' g hb' hg u => by
        rw [sb_far far1] at u
        rcases hLS b' g hb' hg u with z | z
        · rcases List.mem_cons.mp z with z | z
          · exact Or.inr (by rw [z]; simp)
          · exact Or.inl z
        · exact Or.inr (List.mem_append_left _ z)
      have hmu : sm (phi (sEn (sLv S1 b 0 nw.length) b 1 ol.length)) 16 + 2 * (nw).length + (ol ++ [b]).length ≤ k - 1 := by
        simp only [List.length_append, List.length_cons, List.length_nil] at hk ⊢
        omega
      have hk1 : 1 ≤ k := by omega
      obtain ⟨h', S', L', nw', ol', N', r, iC, iM, iR, iL, iF, i10, i12, i17, iO⟩ := ih (k - 1) (by omega) (turn := turn + 1) R2 hLS2 hmu (by omega)
      have hcn2 := cnt_far (n := n) far1
      have F1 : Fr w h (hp h (w + 16 + 1 + b) 5 (S (68 + 13 * b + 1) + S 6)) := Fr.hp _ _ _ (by omega) (by omega) (by omega)
      have w1 : ∀ j, h2 w j = h w j := fun j => by rw [w2 j, hp_o' _ _ (by omega)]
      refine ⟨h', S', L', nw', ol', N', r, fun m hm => ?_, fun h0 t l m hm hTk => ?_, iR, iL, (F1.trans F2).trans iF, i10.trans (w1 10), Int32.le_trans i12 (by rw [w1]; exact Int32.le_refl _), i17.trans s217, ?_⟩
      · obtain ⟨m', rfl⟩ : ∃ m', m = m' + 1 := ⟨m - 1, by omega⟩
        rw [lp_s, tC, if_neg (by rw [R.b5 hb]; exact hdf), R.b5 hb, R.qua, nv_eq, rC, Option.bind_some, nI_1]
        exact iC m' (by omega)
      · obtain ⟨m', rfl⟩ : ∃ m', m = m' + 1 := ⟨m - 1, by omega⟩
        rw [lp_s, tM, if_neg hdf, m_of_1 h0 S t l hb, Option.bind_some]
        dsimp only
        rw [m_quantum, Option.bind_some]
        dsimp only
        rw [hP1, Option.bind_some, hlv h0 t l R1.li, Option.bind_some, hen h0 t l (R1.li.lv0 hmy), Option.bind_some]
        exact iM h0 t l m' (by omega) (by rw [show h2 (w + 1) 0 = h (w + 1) 0 from (F1.trans F2).2 0]; exact hTk)
      · rcases iO with ⟨f, a1, a2, a3⟩ | ⟨a1, a2⟩
        · exact Or.inl ⟨f, a1, a2, by omega⟩
        · exact Or.inr ⟨a1, a2⟩
end Sv
