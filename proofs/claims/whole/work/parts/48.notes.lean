/-! watches of the reference -/
def addw (S : Nat → Int32) (p : Nat → Bool) (i : Nat) : Nat → Int32 := fun q => if (q - 50) % 3 = 2 ∧ (q - 50) / 3 < i ∧ p ((q - 50) / 3) = true then S q + 1 else S q
theorem wup_0 (S : Nat → Int32) (p : Nat → Bool) : wup S (addw S p 0) = S := by
  funext q
  unfold wup addw
  split
  · rw [if_neg (by omega)]
  · rfl
theorem addw_n (S : Nat → Int32) (p : Nat → Bool) {i q : Nat} (h : ¬ (q - 50) % 3 = 2 ∨ i ≤ (q - 50) / 3) : addw S p i q = S q := if_neg (by omega)
theorem wup_y (S : Nat → Int32) {p : Nat → Bool} {i : Nat} (hi : i < 6) (h : p i = true) : upd (wup S (addw S p i)) (50 + 3 * i + 2) (S (50 + 3 * i + 2) + 1) = wup S (addw S p (i + 1)) := by
  funext q
  unfold upd wup addw
  by_cases e : q = 50 + 3 * i + 2
  · subst e
    have e1 : (50 + 3 * i + 2 - 50) / 3 = i := by omega
    rw [if_pos rfl, if_pos (by omega), e1, if_pos ⟨by omega, by omega, h⟩]
  · rw [if_neg e]
    by_cases e2 : 50 ≤ q ∧ q < 68
    · rw [if_pos e2, if_pos e2]
      by_cases e3 : (q - 50) % 3 = 2 ∧ (q - 50) / 3 < i ∧ p ((q - 50) / 3) = true
      · rw [if_pos e3, if_pos ⟨e3.1, by omega, e3.2.2⟩]
      · rw [if_neg e3, if_neg (fun z => e3 ⟨z.1, by omega, z.2.2⟩)]
    · rw [if_neg e2, if_neg e2]
theorem wup_no (S : Nat → Int32) {p : Nat → Bool} {i : Nat} (h : ¬ p i = true) : wup S (addw S p i) = wup S (addw S p (i + 1)) := by
  funext q
  unfold wup addw
  by_cases e2 : 50 ≤ q ∧ q < 68
  · rw [if_pos e2, if_pos e2]
    by_cases e3 : (q - 50) % 3 = 2 ∧ (q - 50) / 3 < i ∧ p ((q - 50) / 3) = true
    · rw [if_pos e3, if_pos ⟨e3.1, by omega, e3.2.2⟩]
    · rw [if_neg e3, if_neg (fun z => e3 ⟨z.1, by
        by_cases e4 : (q - 50) / 3 = i
        · rw [e4] at z
          exact absurd z.2.2 h
        · omega, z.2.2⟩)]
  · rw [if_neg e2, if_neg e2]
theorem ix3 {i : Nat} (hi : i < 6) : (ib ((50 + 3 * nI i) + 2) 3715 ∧ Int32.toNatClampNeg ((50 + 3 * nI i) + 2) = 50 + 3 * i + 2) ∧ (ib ((50 + 3 * nI i) + 1) 3715 ∧ Int32.toNatClampNeg ((50 + 3 * nI i) + 1) = 50 + 3 * i + 1) ∧ (ib (50 + 3 * nI i) 3715 ∧ Int32.toNatClampNeg (50 + 3 * nI i) = 50 + 3 * i) :=
  ⟨ixL (lin3 50 3 i 2) (by omega), ixL (lin3 50 3 i 1) (by omega), ixL (lin2 50 3 i) (by omega)⟩
theorem m_watch0 (h : Hp) (S : Nat → Int32) (t l : Int32) {k : Nat} (hs : S 3 = nI k) (hk : k ≤ 6) (kind v : Int32) : p_X10_watches (mt h S t l) 110 kind v 0 = some (mt h (wup S (addw S (fun i => decide (S (50 + 3 * i) = kind ∧ v = S (50 + 3 * i + 1))) k)) t l) := by
  have key := lp_for (b := b_X10_watches_3 110 kind v 0) (fun i => (mt h (wup S (addw S (fun i => decide (S (50 + 3 * i) = kind ∧ v = S (50 + 3 * i + 1))) i)) t l, nI i)) k (mt h (wup S (addw S (fun i => decide (S (50 + 3 * i) = kind ∧ v = S (50 + 3 * i + 1))) k)) t l) (fun K i hi => by
      have hi6 : i < 6 := by omega
      have c1 : ¬ nI k ≤ nI i := nI_ge (by omega) (by omega)
      obtain ⟨⟨a1, a2⟩, ⟨b1, b2⟩, ⟨d1, d2⟩⟩ := ix3 hi6
      have r3 : mt h (wup S (addw S (fun i => decide (S (50 + 3 * i) = kind ∧ v = S (50 + 3 * i + 1))) i)) t l (110 + 6) 3 = S 3 := by rw [mt_r _ _ _ _ (by omega) (by omega), wup_n _ _ (by omega)]
      have rA : mt h (wup S (addw S (fun i => decide (S (50 + 3 * i) = kind ∧ v = S (50 + 3 * i + 1))) i)) t l (110 + 6) (50 + 3 * i + 2) = S (50 + 3 * i + 2) := by rw [mt_r _ _ _ _ (by omega) (by omega), wup_i _ _ (by omega) (by omega), addw_n _ _ (by omega)]
      have rB : mt h (wup S (addw S (fun i => decide (S (50 + 3 * i) = kind ∧ v = S (50 + 3 * i + 1))) i)) t l (110 + 6) (50 + 3 * i + 1) = S (50 + 3 * i + 1) := by rw [mt_r _ _ _ _ (by omega) (by omega), wup_i _ _ (by omega) (by omega), addw_n _ _ (by omega)]
      have rD : mt h (wup S (addw S (fun i => decide (S (50 + 3 * i) = kind ∧ v = S (50 + 3 * i + 1))) i)) t l (110 + 6) (50 + 3 * i) = S (50 + 3 * i) := by rw [mt_r _ _ _ _ (by omega) (by omega), wup_i _ _ (by omega) (by omega), addw_n _ _ (by omega)]
      have rH := mt_hp h (wup S (addw S (fun i => decide (S (50 + 3 * i) = kind ∧ v = S (50 + 3 * i + 1))) i)) t l (k := 50 + 3 * i + 2) (S (50 + 3 * i + 2) + 1) (by omega) (by omega)
      by_cases hg : S (50 + 3 * i) = kind
      · by_cases hv : v = S (50 + 3 * i + 1)
        · simp only [b_X10_watches_3, q_X10_watches_65, r3, hs, if_neg c1, if_pos a1, if_pos b1, if_pos d1, a2, b2, d2, rA, rB, rD, rH, nv_eq, nI_1, if_true, if_pos hg, if_pos hv]
          rw [wup_y S hi6 (p := (fun i => decide (S (50 + 3 * i) = kind ∧ v = S (50 + 3 * i + 1)))) (by simp [hg, hv])]
        · simp only [b_X10_watches_3, q_X10_watches_65, r3, hs, if_neg c1, if_pos a1, if_pos b1, if_pos d1, a2, b2, d2, rA, rB, rD, rH, nv_eq, nI_1, if_true, if_pos hg, if_neg hv]
          rw [wup_no S (p := (fun i => decide (S (50 + 3 * i) = kind ∧ v = S (50 + 3 * i + 1)))) (by simp [hg, hv])]
      · simp only [b_X10_watches_3, q_X10_watches_65, r3, hs, if_neg c1, if_pos a1, if_pos b1, if_pos d1, a2, b2, d2, rA, rB, rD, rH, nv_eq, nI_1, if_true, if_neg hg, if_true]
        rw [wup_no S (p := (fun i => decide (S (50 + 3 * i) = kind ∧ v = S (50 + 3 * i + 1)))) (by simp [hg])]) (fun K => by
      have r3 : mt h (wup S (addw S (fun i => decide (S (50 + 3 * i) = kind ∧ v = S (50 + 3 * i + 1))) k)) t l (110 + 6) 3 = S 3 := by rw [mt_r _ _ _ _ (by omega) (by omega), wup_n _ _ (by omega)]
      have c1 : nI k ≤ nI k := nI_le (Nat.le_refl _) (by omega)
      simp only [b_X10_watches_3, r3, hs, if_pos c1]) k 0 FU (by omega) (FU_gt (by omega))
  rw [wup_0, nI_0] at key
  unfold p_X10_watches
  exact key
theorem m_watch1 (h : Hp) (S : Nat → Int32) (t l : Int32) {k : Nat} (hs : S 3 = nI k) (hk : k ≤ 6) (kind v : Int32) : p_X10_watches (mt h S t l) 110 kind v 1 = some (mt h (wup S (addw S (fun i => decide (S (50 + 3 * i) = kind ∧ ¬ v < S (50 + 3 * i + 1))) k)) t l) := by
  have key := lp_for (b := b_X10_watches_3 110 kind v 1) (fun i => (mt h (wup S (addw S (fun i => decide (S (50 + 3 * i) = kind ∧ ¬ v < S (50 + 3 * i + 1))) i)) t l, nI i)) k (mt h (wup S (addw S (fun i => decide (S (50 + 3 * i) = kind ∧ ¬ v < S (50 + 3 * i + 1))) k)) t l) (fun K i hi => by
      have hi6 : i < 6 := by omega
      have c1 : ¬ nI k ≤ nI i := nI_ge (by omega) (by omega)
      obtain ⟨⟨a1, a2⟩, ⟨b1, b2⟩, ⟨d1, d2⟩⟩ := ix3 hi6
      have r3 : mt h (wup S (addw S (fun i => decide (S (50 + 3 * i) = kind ∧ ¬ v < S (50 + 3 * i + 1))) i)) t l (110 + 6) 3 = S 3 := by rw [mt_r _ _ _ _ (by omega) (by omega), wup_n _ _ (by omega)]
      have rA : mt h (wup S (addw S (fun i => decide (S (50 + 3 * i) = kind ∧ ¬ v < S (50 + 3 * i + 1))) i)) t l (110 + 6) (50 + 3 * i + 2) = S (50 + 3 * i + 2) := by rw [mt_r _ _ _ _ (by omega) (by omega), wup_i _ _ (by omega) (by omega), addw_n _ _ (by omega)]
      have rB : mt h (wup S (addw S (fun i => decide (S (50 + 3 * i) = kind ∧ ¬ v < S (50 + 3 * i + 1))) i)) t l (110 + 6) (50 + 3 * i + 1) = S (50 + 3 * i + 1) := by rw [mt_r _ _ _ _ (by omega) (by omega), wup_i _ _ (by omega) (by omega), addw_n _ _ (by omega)]
      have rD : mt h (wup S (addw S (fun i => decide (S (50 + 3 * i) = kind ∧ ¬ v < S (50 + 3 * i + 1))) i)) t l (110 + 6) (50 + 3 * i) = S (50 + 3 * i) := by rw [mt_r _ _ _ _ (by omega) (by omega), wup_i _ _ (by omega) (by omega), addw_n _ _ (by omega)]
      have rH := mt_hp h (wup S (addw S (fun i => decide (S (50 + 3 * i) = kind ∧ ¬ v < S (50 + 3 * i + 1))) i)) t l (k := 50 + 3 * i + 2) (S (50 + 3 * i + 2) + 1) (by omega) (by omega)
      by_cases hg : S (50 + 3 * i) = kind
      · by_cases hv : v < S (50 + 3 * i + 1)
        · simp only [b_X10_watches_3, q_X10_watches_65, r3, hs, if_neg c1, if_pos a1, if_pos b1, if_pos d1, a2, b2, d2, rA, rB, rD, rH, nv_eq, nI_1, if_neg one_nz, if_pos hg, if_pos hv]
          rw [wup_no S (p := (fun i => decide (S (50 + 3 * i) = kind ∧ ¬ v < S (50 + 3 * i + 1)))) (by simp [hg, hv])]
        · simp only [b_X10_watches_3, q_X10_watches_65, r3, hs, if_neg c1, if_pos a1, if_pos b1, if_pos d1, a2, b2, d2, rA, rB, rD, rH, nv_eq, nI_1, if_neg one_nz, if_pos hg, if_neg hv]
          rw [wup_y S hi6 (p := (fun i => decide (S (50 + 3 * i) = kind ∧ ¬ v < S (50 + 3 * i + 1)))) (by simp [hg, hv])]
      · simp only [b_X10_watches_3, q_X10_watches_65, r3, hs, if_neg c1, if_pos a1, if_pos b1, if_pos d1, a2, b2, d2, rA, rB, rD, rH, nv_eq, nI_1, if_neg one_nz, if_neg hg, if_true]
        rw [wup_no S (p := (fun i => decide (S (50 + 3 * i) = kind ∧ ¬ v < S (50 + 3 * i + 1)))) (by simp [hg])]) (fun K => by
      have r3 : mt h (wup S (addw S (fun i => decide (S (50 + 3 * i) = kind ∧ ¬ v < S (50 + 3 * i + 1))) k)) t l (110 + 6) 3 = S 3 := by rw [mt_r _ _ _ _ (by omega) (by omega), wup_n _ _ (by omega)]
      have c1 : nI k ≤ nI k := nI_le (Nat.le_refl _) (by omega)
      simp only [b_X10_watches_3, r3, hs, if_pos c1]) k 0 FU (by omega) (FU_gt (by omega))
  rw [wup_0, nI_0] at key
  unfold p_X10_watches
  exact key
section Nt
variable {bg rl : Bool} {tb : Nat → Int32} {m y sn Bd n N tk : Nat} {nw ol L : List Nat} {h : Hp} {w : Nat} {S : Nat → Int32}
theorem nsim_0 (R : Rel bg rl tb m y sn Bd n N tk nw ol L h w S) (v : Int32) : ∃ d d', p_X7_note h (w + 40) 0 v = some (va_up h (w + 40 + 3) d) ∧ (∀ hm t l, p_X10_watches (mt hm S t l) 110 0 (v) 1 = some (mt hm (wup S d') t l)) ∧ Rel bg rl tb m y sn Bd n N tk nw ol L (va_up h (w + 40 + 3) d) w (wup S d') := by
  obtain ⟨k, hk6, hk3, hr, hf⟩ := R.wi
  have hM := fun hm t l => m_watch1 hm S t l hk3 hk6 0 (v)
  cases hrl : rl with
  | true =>
    rw [hrl] at R
    obtain ⟨q1, q2⟩ := hr hrl
    refine ⟨_, _, note_0 h q1 hk6 v, hM, R.watch _ _ ⟨k, hk6, ?_, fun _ => ⟨?_, fun i hi => ?_⟩, fun z => Bool.noConfusion z⟩⟩
    · rw [wup_n _ _ (by omega), hk3]
    · rw [vu_o _ _ (by omega), q1]
    · obtain ⟨x0, x1, x2, x3⟩ := q2 i hi
      have hq : True := trivial
      have hpe : (fun i => decide (¬ v < h (w + 40 + 2) i ∧ h (w + 40 + 1) i = 0)) i = (fun i => decide (S (50 + 3 * i) = 0 ∧ ¬ v < S (50 + 3 * i + 1))) i := decide_eq_decide.mpr (by rw [x1, x2, and_comm])
      rw [wup_i _ _ (by omega) (by omega), addw_n _ _ (by omega), wup_i _ _ (by omega) (by omega), addw_n _ _ (by omega), wup_i _ _ (by omega) (by omega), vu_o _ _ (by omega), vu_o _ _ (by omega), vu_s]
      refine ⟨x0, x1, x2, ?_⟩
      have e1 : (50 + 3 * i + 2 - 50) / 3 = i := by omega
      have e2 : (50 + 3 * i + 2 - 50) % 3 = 2 := by omega
      unfold addm addw
      rw [e1, e2, ← hpe, x3]
      by_cases hc : (fun i => decide (¬ v < h (w + 40 + 2) i ∧ h (w + 40 + 1) i = 0)) i = true
      · rw [if_pos ⟨hi, hc⟩, if_pos ⟨rfl, hi, hc⟩]
      · rw [if_neg (fun z => hc z.2), if_neg (fun z => hc z.2.2)]
  | false =>
    rw [hrl] at R
    have q1 : h (w + 40) 3 = nI 0 := hf hrl
    refine ⟨_, _, note_0 h q1 (by omega) v, hM, R.watch _ _ ⟨k, hk6, ?_, fun z => Bool.noConfusion z, fun _ => ?_⟩⟩
    · rw [wup_n _ _ (by omega), hk3]
    · rw [vu_o _ _ (by omega), q1]
      rfl
theorem nsim_1 (R : Rel bg rl tb m y sn Bd n N tk nw ol L h w S) (v : Int32) : ∃ d d', p_X7_note h (w + 40) 1 v = some (va_up h (w + 40 + 3) d) ∧ (∀ hm t l, p_X10_watches (mt hm S t l) 110 1 (v) 0 = some (mt hm (wup S d') t l)) ∧ Rel bg rl tb m y sn Bd n N tk nw ol L (va_up h (w + 40 + 3) d) w (wup S d') := by
  obtain ⟨k, hk6, hk3, hr, hf⟩ := R.wi
  have hM := fun hm t l => m_watch0 hm S t l hk3 hk6 1 (v)
  cases hrl : rl with
  | true =>
    rw [hrl] at R
    obtain ⟨q1, q2⟩ := hr hrl
    refine ⟨_, _, note_1 h q1 hk6 v, hM, R.watch _ _ ⟨k, hk6, ?_, fun _ => ⟨?_, fun i hi => ?_⟩, fun z => Bool.noConfusion z⟩⟩
    · rw [wup_n _ _ (by omega), hk3]
    · rw [vu_o _ _ (by omega), q1]
    · obtain ⟨x0, x1, x2, x3⟩ := q2 i hi
      have hq : True := trivial
      have hpe : (fun i => decide (v = h (w + 40 + 2) i ∧ h (w + 40 + 1) i = 1)) i = (fun i => decide (S (50 + 3 * i) = 1 ∧ v = S (50 + 3 * i + 1))) i := decide_eq_decide.mpr (by rw [x1, x2, and_comm])
      rw [wup_i _ _ (by omega) (by omega), addw_n _ _ (by omega), wup_i _ _ (by omega) (by omega), addw_n _ _ (by omega), wup_i _ _ (by omega) (by omega), vu_o _ _ (by omega), vu_o _ _ (by omega), vu_s]
      refine ⟨x0, x1, x2, ?_⟩
      have e1 : (50 + 3 * i + 2 - 50) / 3 = i := by omega
      have e2 : (50 + 3 * i + 2 - 50) % 3 = 2 := by omega
      unfold addm addw
      rw [e1, e2, ← hpe, x3]
      by_cases hc : (fun i => decide (v = h (w + 40 + 2) i ∧ h (w + 40 + 1) i = 1)) i = true
      · rw [if_pos ⟨hi, hc⟩, if_pos ⟨rfl, hi, hc⟩]
      · rw [if_neg (fun z => hc z.2), if_neg (fun z => hc z.2.2)]
  | false =>
    rw [hrl] at R
    have q1 : h (w + 40) 3 = nI 0 := hf hrl
    refine ⟨_, _, note_1 h q1 (by omega) v, hM, R.watch _ _ ⟨k, hk6, ?_, fun z => Bool.noConfusion z, fun _ => ?_⟩⟩
    · rw [wup_n _ _ (by omega), hk3]
    · rw [vu_o _ _ (by omega), q1]
      rfl
theorem nsim_2 (R : Rel bg rl tb m y sn Bd n N tk nw ol L h w S) (v : Int32) (hv1 : -1500 ≤ v.toInt) (hv2 : v.toInt ≤ 3000) : ∃ d d', p_X7_note h (w + 40) 2 v = some (va_up h (w + 40 + 3) d) ∧ (∀ hm t l, p_X10_watches (mt hm S t l) 110 2 ((-v) - 1) 1 = some (mt hm (wup S d') t l)) ∧ Rel bg rl tb m y sn Bd n N tk nw ol L (va_up h (w + 40 + 3) d) w (wup S d') := by
  obtain ⟨k, hk6, hk3, hr, hf⟩ := R.wi
  have hM := fun hm t l => m_watch1 hm S t l hk3 hk6 2 ((-v) - 1)
  cases hrl : rl with
  | true =>
    rw [hrl] at R
    obtain ⟨q1, q2⟩ := hr hrl
    refine ⟨_, _, note_2 h q1 hk6 v, hM, R.watch _ _ ⟨k, hk6, ?_, fun _ => ⟨?_, fun i hi => ?_⟩, fun z => Bool.noConfusion z⟩⟩
    · rw [wup_n _ _ (by omega), hk3]
    · rw [vu_o _ _ (by omega), q1]
    · obtain ⟨x0, x1, x2, x3⟩ := q2 i hi
      have hq : (¬ -(S (50 + 3 * i + 1)) ≤ v) ↔ (¬ (-v) - 1 < S (50 + 3 * i + 1)) := by
        obtain ⟨bd, _, hb2, hb3⟩ := x0
        rw [hb3, Int32.le_iff_toInt_le, Int32.lt_iff_toInt_lt, Int32.toInt_sub, Int32.toInt_neg, Int32.toInt_neg, nI_toInt (by omega), show (1 : Int32).toInt = 1 by decide, bm32 (x := -(bd : Int)) (by omega) (by omega), bm32 (x := -v.toInt) (by omega) (by omega), bm32 (by omega) (by omega)]
        omega
      have hpe : (fun i => decide (¬ -(h (w + 40 + 2) i) ≤ v ∧ h (w + 40 + 1) i = 2)) i = (fun i => decide (S (50 + 3 * i) = 2 ∧ ¬ (-v) - 1 < S (50 + 3 * i + 1))) i := decide_eq_decide.mpr (by rw [x1, x2, hq, and_comm])
      rw [wup_i _ _ (by omega) (by omega), addw_n _ _ (by omega), wup_i _ _ (by omega) (by omega), addw_n _ _ (by omega), wup_i _ _ (by omega) (by omega), vu_o _ _ (by omega), vu_o _ _ (by omega), vu_s]
      refine ⟨x0, x1, x2, ?_⟩
      have e1 : (50 + 3 * i + 2 - 50) / 3 = i := by omega
      have e2 : (50 + 3 * i + 2 - 50) % 3 = 2 := by omega
      unfold addm addw
      rw [e1, e2, ← hpe, x3]
      by_cases hc : (fun i => decide (¬ -(h (w + 40 + 2) i) ≤ v ∧ h (w + 40 + 1) i = 2)) i = true
      · rw [if_pos ⟨hi, hc⟩, if_pos ⟨rfl, hi, hc⟩]
      · rw [if_neg (fun z => hc z.2), if_neg (fun z => hc z.2.2)]
  | false =>
    rw [hrl] at R
    have q1 : h (w + 40) 3 = nI 0 := hf hrl
    refine ⟨_, _, note_2 h q1 (by omega) v, hM, R.watch _ _ ⟨k, hk6, ?_, fun z => Bool.noConfusion z, fun _ => ?_⟩⟩
    · rw [wup_n _ _ (by omega), hk3]
    · rw [vu_o _ _ (by omega), q1]
      rfl
theorem nsim_3 (R : Rel bg rl tb m y sn Bd n N tk nw ol L h w S) (v : Int32) : ∃ d d', p_X7_note h (w + 40) 3 v = some (va_up h (w + 40 + 3) d) ∧ (∀ hm t l, p_X10_watches (mt hm S t l) 110 3 (v) 1 = some (mt hm (wup S d') t l)) ∧ Rel bg rl tb m y sn Bd n N tk nw ol L (va_up h (w + 40 + 3) d) w (wup S d') := by
  obtain ⟨k, hk6, hk3, hr, hf⟩ := R.wi
  have hM := fun hm t l => m_watch1 hm S t l hk3 hk6 3 (v)
  cases hrl : rl with
  | true =>
    rw [hrl] at R
    obtain ⟨q1, q2⟩ := hr hrl
    refine ⟨_, _, note_3 h q1 hk6 v, hM, R.watch _ _ ⟨k, hk6, ?_, fun _ => ⟨?_, fun i hi => ?_⟩, fun z => Bool.noConfusion z⟩⟩
    · rw [wup_n _ _ (by omega), hk3]
    · rw [vu_o _ _ (by omega), q1]
    · obtain ⟨x0, x1, x2, x3⟩ := q2 i hi
      have hq : True := trivial
      have hpe : (fun i => decide (¬ v < h (w + 40 + 2) i ∧ h (w + 40 + 1) i = 3)) i = (fun i => decide (S (50 + 3 * i) = 3 ∧ ¬ v < S (50 + 3 * i + 1))) i := decide_eq_decide.mpr (by rw [x1, x2, and_comm])
      rw [wup_i _ _ (by omega) (by omega), addw_n _ _ (by omega), wup_i _ _ (by omega) (by omega), addw_n _ _ (by omega), wup_i _ _ (by omega) (by omega), vu_o _ _ (by omega), vu_o _ _ (by omega), vu_s]
      refine ⟨x0, x1, x2, ?_⟩
      have e1 : (50 + 3 * i + 2 - 50) / 3 = i := by omega
      have e2 : (50 + 3 * i + 2 - 50) % 3 = 2 := by omega
      unfold addm addw
      rw [e1, e2, ← hpe, x3]
      by_cases hc : (fun i => decide (¬ v < h (w + 40 + 2) i ∧ h (w + 40 + 1) i = 3)) i = true
      · rw [if_pos ⟨hi, hc⟩, if_pos ⟨rfl, hi, hc⟩]
      · rw [if_neg (fun z => hc z.2), if_neg (fun z => hc z.2.2)]
  | false =>
    rw [hrl] at R
    have q1 : h (w + 40) 3 = nI 0 := hf hrl
    refine ⟨_, _, note_3 h q1 (by omega) v, hM, R.watch _ _ ⟨k, hk6, ?_, fun z => Bool.noConfusion z, fun _ => ?_⟩⟩
    · rw [wup_n _ _ (by omega), hk3]
    · rw [vu_o _ _ (by omega), q1]
      rfl
theorem nsim_4 (R : Rel bg rl tb m y sn Bd n N tk nw ol L h w S) (v : Int32) : ∃ d d', p_X7_note h (w + 40) 4 v = some (va_up h (w + 40 + 3) d) ∧ (∀ hm t l, p_X10_watches (mt hm S t l) 110 4 (v) 0 = some (mt hm (wup S d') t l)) ∧ Rel bg rl tb m y sn Bd n N tk nw ol L (va_up h (w + 40 + 3) d) w (wup S d') := by
  obtain ⟨k, hk6, hk3, hr, hf⟩ := R.wi
  have hM := fun hm t l => m_watch0 hm S t l hk3 hk6 4 (v)
  cases hrl : rl with
  | true =>
    rw [hrl] at R
    obtain ⟨q1, q2⟩ := hr hrl
    refine ⟨_, _, note_4 h q1 hk6 v, hM, R.watch _ _ ⟨k, hk6, ?_, fun _ => ⟨?_, fun i hi => ?_⟩, fun z => Bool.noConfusion z⟩⟩
    · rw [wup_n _ _ (by omega), hk3]
    · rw [vu_o _ _ (by omega), q1]
    · obtain ⟨x0, x1, x2, x3⟩ := q2 i hi
      have hq : True := trivial
      have hpe : (fun i => decide (v = h (w + 40 + 2) i ∧ h (w + 40 + 1) i = 4)) i = (fun i => decide (S (50 + 3 * i) = 4 ∧ v = S (50 + 3 * i + 1))) i := decide_eq_decide.mpr (by rw [x1, x2, and_comm])
      rw [wup_i _ _ (by omega) (by omega), addw_n _ _ (by omega), wup_i _ _ (by omega) (by omega), addw_n _ _ (by omega), wup_i _ _ (by omega) (by omega), vu_o _ _ (by omega), vu_o _ _ (by omega), vu_s]
      refine ⟨x0, x1, x2, ?_⟩
      have e1 : (50 + 3 * i + 2 - 50) / 3 = i := by omega
      have e2 : (50 + 3 * i + 2 - 50) % 3 = 2 := by omega
      unfold addm addw
      rw [e1, e2, ← hpe, x3]
      by_cases hc : (fun i => decide (v = h (w + 40 + 2) i ∧ h (w + 40 + 1) i = 4)) i = true
      · rw [if_pos ⟨hi, hc⟩, if_pos ⟨rfl, hi, hc⟩]
      · rw [if_neg (fun z => hc z.2), if_neg (fun z => hc z.2.2)]
  | false =>
    rw [hrl] at R
    have q1 : h (w + 40) 3 = nI 0 := hf hrl
    refine ⟨_, _, note_4 h q1 (by omega) v, hM, R.watch _ _ ⟨k, hk6, ?_, fun z => Bool.noConfusion z, fun _ => ?_⟩⟩
    · rw [wup_n _ _ (by omega), hk3]
    · rw [vu_o _ _ (by omega), q1]
      rfl
theorem nsim_5 (R : Rel bg rl tb m y sn Bd n N tk nw ol L h w S) (v : Int32) : ∃ d d', p_X7_note h (w + 40) 5 v = some (va_up h (w + 40 + 3) d) ∧ (∀ hm t l, p_X10_watches (mt hm S t l) 110 5 (v) 0 = some (mt hm (wup S d') t l)) ∧ Rel bg rl tb m y sn Bd n N tk nw ol L (va_up h (w + 40 + 3) d) w (wup S d') := by
  obtain ⟨k, hk6, hk3, hr, hf⟩ := R.wi
  have hM := fun hm t l => m_watch0 hm S t l hk3 hk6 5 (v)
  cases hrl : rl with
  | true =>
    rw [hrl] at R
    obtain ⟨q1, q2⟩ := hr hrl
    refine ⟨_, _, note_5 h q1 hk6 v, hM, R.watch _ _ ⟨k, hk6, ?_, fun _ => ⟨?_, fun i hi => ?_⟩, fun z => Bool.noConfusion z⟩⟩
    · rw [wup_n _ _ (by omega), hk3]
    · rw [vu_o _ _ (by omega), q1]
    · obtain ⟨x0, x1, x2, x3⟩ := q2 i hi
      have hq : True := trivial
      have hpe : (fun i => decide (v = h (w + 40 + 2) i ∧ h (w + 40 + 1) i = 5)) i = (fun i => decide (S (50 + 3 * i) = 5 ∧ v = S (50 + 3 * i + 1))) i := decide_eq_decide.mpr (by rw [x1, x2, and_comm])
      rw [wup_i _ _ (by omega) (by omega), addw_n _ _ (by omega), wup_i _ _ (by omega) (by omega), addw_n _ _ (by omega), wup_i _ _ (by omega) (by omega), vu_o _ _ (by omega), vu_o _ _ (by omega), vu_s]
      refine ⟨x0, x1, x2, ?_⟩
      have e1 : (50 + 3 * i + 2 - 50) / 3 = i := by omega
      have e2 : (50 + 3 * i + 2 - 50) % 3 = 2 := by omega
      unfold addm addw
      rw [e1, e2, ← hpe, x3]
      by_cases hc : (fun i => decide (v = h (w + 40 + 2) i ∧ h (w + 40 + 1) i = 5)) i = true
      · rw [if_pos ⟨hi, hc⟩, if_pos ⟨rfl, hi, hc⟩]
      · rw [if_neg (fun z => hc z.2), if_neg (fun z => hc z.2.2)]
  | false =>
    rw [hrl] at R
    have q1 : h (w + 40) 3 = nI 0 := hf hrl
    refine ⟨_, _, note_5 h q1 (by omega) v, hM, R.watch _ _ ⟨k, hk6, ?_, fun z => Bool.noConfusion z, fun _ => ?_⟩⟩
    · rw [wup_n _ _ (by omega), hk3]
    · rw [vu_o _ _ (by omega), q1]
      rfl
end Nt
