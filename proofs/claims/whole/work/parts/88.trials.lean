/-! trials: one run, one drain -/
section Tk1
variable {m y sn Bd n N : Nat} {nw ol L : List Nat} {h : Hp}
theorem Rel.setT {bg rl : Bool} {tb : Nat → Int32} {tk w : Nat} {S : Nat → Int32} (R : Rel bg rl tb m y sn Bd n N tk nw ol L h w S) (T C : Int32) (hT : tb 11 ≤ T) : Rel bg rl tb m y sn Bd n N tk nw ol L (hp (hp h (w + 1) 0 T) (w + 1) 5 C) w S := by
  have e : ∀ j, j ≠ 0 → j ≠ 5 → hp (hp h (w + 1) 0 T) (w + 1) 5 C (w + 1) j = h (w + 1) j := fun j a b => by rw [hp_k _ _ b, hp_k _ _ a]
  refine R.sett (fun o ho => by rw [hp_n ho, hp_n ho]) (fun _ _ => rfl) ?_ ?_ ?_ ?_ ?_ ?_ R.i5 R.i6 R.i9 (by rw [hp_k _ _ (by omega), hp_s]; exact hT)
  · rw [e _ (by omega) (by omega), R.itv]
  · rw [e _ (by omega) (by omega), R.qua]
  · rw [e _ (by omega) (by omega), R.sml]
  · rw [e _ (by omega) (by omega), R.rat]
  · rw [e _ (by omega) (by omega)]
  · rw [e _ (by omega) (by omega)]
theorem Rel.setQ {bg rl : Bool} {tb : Nat → Int32} {tk w : Nat} {S : Nat → Int32} (R : Rel bg rl tb m y sn Bd n N tk nw ol L h w S) (T : Int32) (hT : tb 11 ≤ T) {q : Int32} (hq : rg q 50 3000) : Rel bg rl tb m y sn Bd n N tk nw ol L (hp (hp h (w + 1) 0 T) (w + 1) 2 q) w (upd S 6 q) := by
  have e : ∀ j, j ≠ 0 → j ≠ 2 → hp (hp h (w + 1) 0 T) (w + 1) 2 q (w + 1) j = h (w + 1) j := fun j a b => by rw [hp_k _ _ b, hp_k _ _ a]
  refine R.sett (fun o ho => by rw [hp_n ho, hp_n ho]) (fun k hk => upd_n _ _ (by omega)) ?_ ?_ ?_ ?_ ?_ ?_ ?_ ?_ ?_ (by rw [hp_k _ _ (by omega), hp_s]; exact hT)
  · rw [e _ (by omega) (by omega), upd_n _ _ (by omega), R.itv]
  · rw [hp_s, upd_s]
  · rw [e _ (by omega) (by omega), upd_n _ _ (by omega), R.sml]
  · rw [e _ (by omega) (by omega), upd_n _ _ (by omega), R.rat]
  · rw [e _ (by omega) (by omega)]
  · rw [e _ (by omega) (by omega)]
  · rw [upd_n _ _ (by omega)]
    exact R.i5
  · rw [upd_s]
    exact hq
  · rw [upd_n _ _ (by omega)]
    exact R.i9
theorem Rel.tb11 {bg rl : Bool} {tk w : Nat} {S S0 : Nat → Int32} {L0 : List Nat} {T0 : Int32} (R : Rel bg rl (tbT S0 L0 T0) m y sn Bd n N tk nw ol L h w S) {T : Int32} (h1 : T ≤ h (w + 1) 0) (h2 : T ≤ h w 12) : Rel bg rl (tbT S0 L0 T) m y sn Bd n N tk nw ol L h w S := by
  have e : ∀ k, k ≠ 11 → tbT S0 L0 T k = tbT S0 L0 T0 k := fun k hk => by
    unfold tbT
    rw [if_neg (c := k = 11) hk, if_neg (c := k = 11) hk]
  have hs4 := R.sn4
  obtain ⟨a1, a2, a3, a4, a5, a6, a7, a8, a9, a10, a11, a12, a13, a14, a15, a16, a17, a18, a19, a20, a21⟩ := R
  refine ⟨a1, a2, a3, ⟨a4.1, fun k hk => ?_⟩, a5, a6, a7, a8, a9, a10, a11, a12, a13, a14, a15, a16, ?_, ?_, a19, ?_, ⟨h1, h2⟩⟩
  · rw [e _ (by omega)]
    exact a4.2 k hk
  · unfold kTA
    rw [e 0 (by omega), e 1 (by omega), e 2 (by omega), e 3 (by omega)]
    exact a17
  · unfold kPK
    rw [e 8 (by omega)]
    exact a18
  · unfold kPX
    rw [e 9 (by omega), e 10 (by omega)]
    exact a20
theorem KC.hp61 {h hc : Hp} (K : KC h hc) (k : Nat) (v : Int32) : KC h (hp hc (0 + 59 + 1 + 1) k v) := ⟨fun o ho => by rw [hp_n (by omega), K.1 o ho], by rw [hp_o' _ _ (by omega)]; exact K.2⟩
theorem tk_run (R : Rel true true (fun _ => 0) m y sn Bd n N 200 nw ol L h (0 + 10) (h 116)) (hLS : LSt n nw ol (h 116)) {d : Nat} (hd : Bd + d ≤ 5000000) {hc : Hp} (K : KC h hc) (T C : Int32) (hT0 : 0 ≤ T) (hT9 : T ≤ 99999999) : ∃ hB h', p_X6_begin hc (0 + 59) (0 + 10) = some hB ∧ (∀ j, j < 8 → hB (0 + 59 + 1 + 1) j = h (0 + 10 + 1) j) ∧ itf (fun h => p_X8_tick h (0 + 59 + 1)) d (hp (hp hB (0 + 59 + 1 + 1) 0 T) (0 + 59 + 1 + 1) 5 C) = some h' ∧ KC h h' ∧ h' (0 + 59) 1 = nI L.length ∧ hB (0 + 59 + 1) 10 = 0 ∧ h' (0 + 59 + 1) 12 ≤ 99999999 ∧ ∀ S : Nat → Int32, (∀ k, k < 3715 → k ≠ 4 → k ≠ 7 → S k = h 116 k) → ∃ S' n' N' nw' ol' L', (∀ hm t l, hm 110 22 = -2 → Tk T t (h' (0 + 59 + 1) 12) → Lk C l (h' (0 + 59 + 1) 10) → itf (fun h => p_X10_ticks h 110) d (mt hm S t l) = some (mt hm S' t l)) ∧ Rel true false (tbT S L T) m y sn (Bd + d) n' N' 200 nw' ol' L' h' (0 + 59 + 1) S' ∧ PO C (0 + 59 + 1) hB S h' S' := by
  obtain ⟨hB, b1, b2, b3, b4, b5, b6, b7⟩ := tri R K (S := h 116) (fun _ _ _ _ => rfl)
  have main : ∀ S : Nat → Int32, (∀ k, k < 3715 → k ≠ 4 → k ≠ 7 → S k = h 116 k) → ∃ h' S' n' N' nw' ol' L', itf (fun h => p_X8_tick h (0 + 59 + 1)) d (hp (hp hB (0 + 59 + 1 + 1) 0 T) (0 + 59 + 1 + 1) 5 C) = some h' ∧ (∀ hm t l, hm 110 22 = -2 → Tk T t (h' (0 + 59 + 1) 12) → Lk C l (h' (0 + 59 + 1) 10) → itf (fun h => p_X10_ticks h 110) d (mt hm S t l) = some (mt hm S' t l)) ∧ Rel true false (tbT S L T) m y sn (Bd + d) n' N' 200 nw' ol' L' h' (0 + 59 + 1) S' ∧ PO C (0 + 59 + 1) hB S h' S' ∧ Fr (0 + 59 + 1) (hp (hp hB (0 + 59 + 1 + 1) 0 T) (0 + 59 + 1 + 1) 5 C) h' ∧ h' (0 + 59 + 1) 12 ≤ 99999999 := fun S hS => by
    obtain ⟨hB2, c1, c2, c3, c4, c5, c6, c7⟩ := tri R K hS
    rw [b1] at c1
    cases c1
    obtain ⟨h', S', n', L', nw', ol', N', t1, t2, t3, t4, t5, t6, t7⟩ := ticks_sim d ((c2.setT T C hT0).tb11 (T := T) (by rw [hp_k _ _ (by omega), hp_s]; exact Int32.le_refl _) (by rw [hp_o' _ _ (by omega), hp_o' _ _ (by omega), c4]; exact hT9)) (hLS.ext R.n200 hS) (tbT_4 S L T) hd
    have eT : hp (hp hB (0 + 59 + 1 + 1) 0 T) (0 + 59 + 1 + 1) 5 C (0 + 59 + 1 + 1) 0 = T := by rw [hp_k _ _ (by omega), hp_s]
    have eC : hp (hp hB (0 + 59 + 1 + 1) 0 T) (0 + 59 + 1 + 1) 5 C (0 + 59 + 1 + 1) 5 = C := hp_s _ _ _ _
    rw [eC] at t7
    refine ⟨h', S', n', N', nw', ol', L', t1, fun hm t l ho hT hl => t2 hm t l ho (by rw [eT]; exact hT) (by rw [eC]; exact hl), t3, ?_, t5, ?_⟩
    · have e10 : hp (hp hB (0 + 59 + 1 + 1) 0 T) (0 + 59 + 1 + 1) 5 C (0 + 59 + 1) 10 = hB (0 + 59 + 1) 10 := by rw [hp_o' _ _ (by omega), hp_o' _ _ (by omega)]
      obtain ⟨p1, p2, p3, p4⟩ := t7
      rw [e10] at p1 p3
      exact ⟨p1, p2, p3, p4⟩
    · rw [hp_o' _ _ (by omega), hp_o' _ _ (by omega), c4] at t6
      exact t6
  obtain ⟨h', S1, n1, N1, nw1, ol1, L1, q1, q2, q3, q4, q5, q6⟩ := main (h 116) (fun _ _ _ _ => rfl)
  refine ⟨hB, h', b1, b6, q1, ((b7.hp61 0 T).hp61 5 C).fr rfl q5 q3, ?_, b5, q6, fun S hS => ?_⟩
  · rw [q5.1 _ (by omega), hp_o' _ _ (by omega), hp_o' _ _ (by omega), b3]
  · obtain ⟨h2, S2, n2, N2, nw2, ol2, L2, w1, w2, w3, w4, w5, w6⟩ := main S hS
    rw [q1] at w1
    cases w1
    exact ⟨S2, n2, N2, nw2, ol2, L2, w2, w3, w4⟩
theorem dr_run (R : Rel true true (fun _ => 0) m y sn Bd n N 200 nw ol L h (0 + 10) (h 116)) (hLS : LSt n nw ol (h 116)) {e : Nat} (he : e ≤ 999) (hd : Bd + 200000 ≤ 5000000) {hc : Hp} (K : KC h hc) (T : Int32) (hT0 : 0 ≤ T) (hT9 : T ≤ 99999999) {q : Int32} (hq : rg q 50 3000) : ∃ hB h', p_X6_begin hc (0 + 59) (0 + 10) = some hB ∧ (∀ j, j < 8 → hB (0 + 59 + 1 + 1) j = h (0 + 10 + 1) j) ∧ p_X6_drainCopy (hp (hp hB (0 + 59 + 1 + 1) 0 T) (0 + 59 + 1 + 1) 2 q) (0 + 59) (nI e) = some h' ∧ KC h h' ∧ h' (0 + 59) 1 = nI L.length ∧ h' (0 + 59 + 1) 12 ≤ 99999999 ∧ ∀ S : Nat → Int32, (∀ k, k < 3715 → k ≠ 4 → k ≠ 7 → S k = h 116 k) → ∃ S' N' nw' ol' L', (∀ hm t l, Tk T t (h' (0 + 59 + 1) 12) → p_X10_drains (mt hm (upd S 6 q) t l) 110 (nI e) = some (mt hm S' t l)) ∧ Rel true false (tbT S L T) m y sn (Bd + e * 200) n N' 200 nw' ol' L' h' (0 + 59 + 1) S' := by
  have he2 : e * 200 ≤ 999 * 200 := Nat.mul_le_mul_right 200 he
  obtain ⟨hB, b1, b2, b3, b4, b5, b6, b7⟩ := tri R K (S := h 116) (fun _ _ _ _ => rfl)
  have hnn := R.n200
  have main : ∀ S : Nat → Int32, (∀ k, k < 3715 → k ≠ 4 → k ≠ 7 → S k = h 116 k) → ∃ h' S' N' nw' ol' L', p_X6_drainCopy (hp (hp hB (0 + 59 + 1 + 1) 0 T) (0 + 59 + 1 + 1) 2 q) (0 + 59) (nI e) = some h' ∧ (∀ hm t l, Tk T t (h' (0 + 59 + 1) 12) → p_X10_drains (mt hm (upd S 6 q) t l) 110 (nI e) = some (mt hm S' t l)) ∧ Rel true false (tbT S L T) m y sn (Bd + e * 200) n N' 200 nw' ol' L' h' (0 + 59 + 1) S' ∧ Fr (0 + 59 + 1) (hp (hp hB (0 + 59 + 1 + 1) 0 T) (0 + 59 + 1 + 1) 2 q) h' ∧ h' (0 + 59 + 1) 12 ≤ 99999999 := fun S hS => by
    obtain ⟨hB2, c1, c2, c3, c4, c5, c6, c7⟩ := tri R K hS
    rw [b1] at c1
    cases c1
    have hS6 : ∀ k, k < 3715 → k ≠ 4 → k ≠ 7 → S k = h 116 k := hS
    have hL6 : LSt n nw ol (upd S 6 q) := fun b f hb hf u => (hLS.ext hnn hS) b f hb hf (by
      rw [sb_cong (S := S) (upd_n _ _ (by omega)) (upd_n _ _ (by omega))] at u
      exact u)
    have hcn := fa_cnt_le (sd (upd S 6 q)) n
    obtain ⟨h', S', L', nw', ol', N', t1, t2, t3, t4, t5, t6⟩ := drain_sim (T := 0 + 59) rfl he 200 (turn := 0) ((c2.setQ T hT0 hq).tb11 (T := T) (by rw [hp_k _ _ (by omega), hp_s]; exact Int32.le_refl _) (by rw [hp_o' _ _ (by omega), hp_o' _ _ (by omega), c4]; exact hT9)) hL6 (by omega) (by omega) (by omega)
    have eT : hp (hp hB (0 + 59 + 1 + 1) 0 T) (0 + 59 + 1 + 1) 2 q (0 + 59 + 1 + 1) 0 = T := by rw [hp_k _ _ (by omega), hp_s]
    refine ⟨h', S', N', nw', ol', L', ?_, fun hm t l hT => t2 hm t l FU (FU_gt (by omega)) (by rw [eT]; exact hT), t3, t5, ?_⟩
    · have := t1 FU (FU_gt (by omega))
      rw [nI_0] at this
      exact this
    · rw [hp_o' _ _ (by omega), hp_o' _ _ (by omega), c4] at t6
      exact t6
  obtain ⟨h', S1, N1, nw1, ol1, L1, q1, q2, q3, q5, q6⟩ := main (h 116) (fun _ _ _ _ => rfl)
  refine ⟨hB, h', b1, b6, q1, ((b7.hp61 0 T).hp61 2 q).fr rfl q5 q3, ?_, q6, fun S hS => ?_⟩
  · rw [q5.1 _ (by omega), hp_o' _ _ (by omega), hp_o' _ _ (by omega), b3]
  · obtain ⟨h2, S2, N2, nw2, ol2, L2, w1, w2, w3, w5, w6⟩ := main S hS
    rw [q1] at w1
    cases w1
    exact ⟨S2, N2, nw2, ol2, L2, w2, w3⟩
/-- what the reference has at hand in a trial -/
theorem KM.use {Bd : Nat} {h h' X : Hp} (K : KC h h') (g5 : h 110 22 = -2) (k : KM (hp h' 110 0 0) X) : (∀ j, j < 3715 → X 116 j = h 116 j) ∧ (∀ j, j < 3715 → X 117 j = h 116 j) ∧ X 110 22 = -2 ∧ mt X (X 116) (h 116 4) (h 116 7) = X := by
  have xe : ∀ k, k < 3715 → X 116 k = h 116 k := fun j hj => by rw [k.2.1 j hj, hp_n (by omega), K.1 _ (by omega)]
  refine ⟨xe, fun j hj => by rw [k.2.2 j hj, hp_n (by omega), K.1 _ (by omega)], ?_, ?_⟩
  · rw [k.1 _ (by omega) (by omega), hp_k _ _ (by omega), K.1 _ (by omega), g5]
  · have := mt_eta X
    rw [xe 4 (by omega), xe 7 (by omega)] at this
    exact this
end Tk1
/-! firstCut -/
section Tf
variable {m y sn : Nat} {rl : Bool} {tb : Nat → Int32} {w : Nat}
theorem fc_sim {T d : Nat} (hwT : w = T + 1) (hd : d ≤ 200) (c0 : Int32) (e : Nat) : ∀ {h : Hp} {S : Nat → Int32} {n N Bd i : Nat} {nw ol L : List Nat}, Rel true rl tb m y sn Bd n N 200 nw ol L h w S → LSt n nw ol S → (∀ k, k < 4 → tb (4 + k) = 0) → Bd + e ≤ 5000000 → i + e = d + 1 → ∃ r h' S' n' N' nw' ol' L', (∀ M, e < M → lp (b_X6_tickOfFirstCut_16 T (nI d) c0) M (h, nI i) = some (r, h')) ∧ (∀ hm M, e + 1 < M → hm 110 22 = -2 → lp (b_X10_firstCut_36 110 (nI d) c0) M (mt hm S (h (w + 1) 0) (h (w + 1) 5), -2, nI i) = Option.bind (p_X10_copies (mt hm S' (h (w + 1) 0) (h (w + 1) 5)) (110 + 7) (110 + 6)) fun r1 => some (r, r1)) ∧ Rel true rl tb m y sn (Bd + e) n' N' 200 nw' ol' L' h' w S' ∧ Fr w h h' := by
  subst hwT
  induction e with
  | zero =>
    intro h S n N Bd i nw ol L R hLS tb0 hB hi
    refine ⟨-2, h, S, n, N, nw, ol, L, fun M hM => ?_, fun hm M hM ho => ?_, R, Fr.refl _ h⟩
    · obtain ⟨M', rfl⟩ : ∃ m', M = m' + 1 := ⟨M - 1, by omega⟩
      rw [lp_s]
      unfold b_X6_tickOfFirstCut_16
      dsimp +instances only
      rw [if_pos (nI_lt (by omega) (by omega))]
    · obtain ⟨M', rfl⟩ : ∃ m', M = m' + 1 := ⟨M - 1, by omega⟩
      rw [lp_s]
      unfold b_X10_firstCut_36
      dsimp +instances only
      rw [if_pos (nI_lt (by omega) (by omega))]
  | succ e ih =>
    intro h S n N Bd i nw ol L R hLS tb0 hB hi
    obtain ⟨h1, S1, n1, L1, nw1, ol1, N1, aC, aM, R1, hLS1, aF, a12, aP⟩ := tick_sim R hLS tb0 (by omega)
    have hT : h1 (T + 1 + 1) 0 = h (T + 1 + 1) 0 := aF.2 0
    have hC : h1 (T + 1 + 1) 5 = h (T + 1 + 1) 5 := aF.2 5
    have c1 := c_cuts R1
    obtain ⟨v, hv⟩ : ∃ v, v = isum (fun k => S1 (3478 + 9 * k + 6)) sn := ⟨_, rfl⟩
    rw [← hv] at c1
    have m1 : ∀ hm t l, p_X10_cuts (mt hm S1 t l) 110 = some (v, mt hm S1 t l) := fun hm t l => by rw [hv]; exact m_cuts R1 hm t l
    by_cases c : v ≤ c0
    · obtain ⟨r, h', S', n', N', nw', ol', L', iC, iM, iR, iF⟩ := ih (i := i + 1) R1 hLS1 tb0 (by omega) (by omega)
      refine ⟨r, h', S', n', N', nw', ol', L', fun M hM => ?_, fun hm M hM ho => ?_, ?_, aF.trans iF⟩
      · obtain ⟨M', rfl⟩ : ∃ m', M = m' + 1 := ⟨M - 1, by omega⟩
        rw [lp_s, ← iC M' (by omega)]
        generalize lp (b_X6_tickOfFirstCut_16 T (nI d) c0) M' = K
        unfold b_X6_tickOfFirstCut_16
        dsimp +instances only
        rw [if_neg (nI_nlt (by omega) (by omega)), aC, Option.bind_some, c1, Option.bind_some]
        dsimp +instances only
        rw [if_pos c, nI_1]
      · obtain ⟨M', rfl⟩ : ∃ m', M = m' + 1 := ⟨M - 1, by omega⟩
        have q := iM hm M' (by omega) ho
        rw [hT, hC] at q
        rw [lp_s, ← q]
        generalize lp (b_X10_firstCut_36 110 (nI d) c0) M' = K
        unfold b_X10_firstCut_36
        dsimp +instances only
        rw [if_neg (nI_nlt (by omega) (by omega)), if_pos rfl, aM hm _ _ ho (Or.inl rfl) (Or.inl rfl), Option.bind_some, m1, Option.bind_some]
        dsimp +instances only
        rw [if_pos c, nI_1]
      · rw [show Bd + (e + 1) = Bd + 1 + e by omega]
        exact iR
    · refine ⟨nI i, h1, S1, n1, N1, nw1, ol1, L1, fun M hM => ?_, fun hm M hM ho => ?_, R1.bd (by omega) (by omega), aF⟩
      · obtain ⟨M', rfl⟩ : ∃ m', M = m' + 1 := ⟨M - 1, by omega⟩
        rw [lp_s]
        generalize lp (b_X6_tickOfFirstCut_16 T (nI d) c0) M' = K
        unfold b_X6_tickOfFirstCut_16
        dsimp +instances only
        rw [if_neg (nI_nlt (by omega) (by omega)), aC, Option.bind_some, c1, Option.bind_some]
        dsimp +instances only
        rw [if_neg c]
      · obtain ⟨M', rfl⟩ : ∃ m', M = m' + 2 := ⟨M - 2, by omega⟩
        have two : ∀ Y, lp (b_X10_firstCut_36 110 (nI d) c0) (M' + 1) (Y, nI i, nI (i + 1)) = Option.bind (p_X10_copies Y (110 + 7) (110 + 6)) fun r1 => some (nI i, r1) := fun Y => by
          rw [lp_s]
          generalize lp (b_X10_firstCut_36 110 (nI d) c0) M' = K
          unfold b_X10_firstCut_36
          dsimp +instances only
          by_cases z : nI d < nI (i + 1)
          · rw [if_pos z]
          · rw [if_neg z, if_neg (nI_n2 (by omega))]
        rw [show M' + 2 = (M' + 1) + 1 from rfl, lp_s, ← two]
        generalize lp (b_X10_firstCut_36 110 (nI d) c0) (M' + 1) = K
        unfold b_X10_firstCut_36
        dsimp +instances only
        rw [if_neg (nI_nlt (by omega) (by omega)), if_pos rfl, aM hm _ _ ho (Or.inl rfl) (Or.inl rfl), Option.bind_some, m1, Option.bind_some]
        dsimp +instances only
        rw [if_neg c, nI_1]
end Tf
section Tf2
variable {Bd : Nat} {h : Hp}
theorem firstCut_m (G : GR Bd h) (hB : Bd + 1000 ≤ 5000000) (x : Int32) : Met2 (Bd + 1000) h (fun h => p_X9_firstCut h 0 x) (fun h => p_X10_firstCut h 110 x) := by
  have bad : (x < 1 ∨ (200 : Int32) < x) → Met2 (Bd + 1000) h (fun h => p_X9_firstCut h 0 x) (fun h => p_X10_firstCut h 110 x) := fun a => by
    refine no_m G hB (r := -1) ?_ ?_
    · show p_X9_firstCut h 0 x = _
      unfold p_X9_firstCut
      rw [fit18_n h a, Option.bind_some]
      dsimp +instances only
      rw [if_pos rfl]
    · show p_X10_firstCut h 110 x = _
      unfold p_X10_firstCut
      rw [nv_eq, isT_n _ a, Option.bind_some]
      dsimp +instances only
      rw [if_pos rfl]
  rcases rng3 x (lo := 1) (hi := 200) (by omega) (by omega) with a | a | ⟨d, hd1, hd2, rfl⟩
  · exact bad (Or.inl a)
  · exact bad (Or.inr a)
  · have G0 := G
    obtain ⟨m, y, sn, n, N, nw, ol, L, R, hLS, g1, g2, g3, g4, g5, g6, g7⟩ := G
    obtain ⟨hB', b1, b2, b3, b4, b5, b6, b7⟩ := tri R (KC.refl G0) (S := h 116) (fun _ _ _ _ => rfl)
    obtain ⟨c0, hc0⟩ : ∃ c0, c0 = isum (fun k => h 116 (3478 + 9 * k + 6)) sn := ⟨_, rfl⟩
    have main : ∀ S : Nat → Int32, (∀ k, k < 3715 → k ≠ 4 → k ≠ 7 → S k = h 116 k) → ∃ r h', lp (b_X6_tickOfFirstCut_16 (0 + 59) (nI d) c0) FU (hB', 1) = some (r, h') ∧ KC h h' ∧ ∃ S', ∀ hm, hm 110 22 = -2 → lp (b_X10_firstCut_36 110 (nI d) c0) FU (mt hm S (h 116 4) (h 116 7), -2, 1) = Option.bind (p_X10_copies (mt hm S' (h 116 4) (h 116 7)) (110 + 7) (110 + 6)) fun r1 => some (r, r1) := fun S hS => by
      obtain ⟨hB2, c1, c2, c3, c4, c5, c6, c7⟩ := tri R (KC.refl G0) hS
      rw [b1] at c1
      cases c1
      obtain ⟨r, h', S', n', N', nw', ol', L', f1, f2, f3, f4⟩ := fc_sim (T := 0 + 59) rfl hd2 c0 d (i := 1) c2 (hLS.ext R.n200 hS) (tbT_4 S L 0) (by omega) (by omega)
      refine ⟨r, h', f1 FU (FU_gt (by omega)), b7.fr rfl f4 f3, S', fun hm ho => ?_⟩
      have := f2 hm FU (FU_gt (by omega)) ho
      rw [b6 0 (by omega), b6 5 (by omega), g1, g2] at this
      exact this
    obtain ⟨r, h', q1, q2, q3⟩ := main (h 116) (fun _ _ _ _ => rfl)
    refine tri_m G0 hB (r := r) (h1 := h') ?_ q2 (fun G1 => ?_)
    · show p_X9_firstCut h 0 (nI d) = _
      unfold p_X9_firstCut p_X6_tickOfFirstCut
      rw [fit18_y h hd1 hd2, Option.bind_some]
      dsimp +instances only
      rw [if_neg one_nz, b1, Option.bind_some, c_cuts b2, Option.bind_some]
      dsimp +instances only
      rw [← hc0, q1, Option.bind_some]
    · obtain ⟨X, x1, x2⟩ := m_copy (hp h' 110 0 0)
      obtain ⟨xe, xf, x22, xt⟩ := KM.use (Bd := Bd) q2 g5 x2
      obtain ⟨r2, h2, w1, w2, S', w3⟩ := main (X 116) (fun k hk _ _ => xe k hk)
      rw [q1] at w1
      cases w1
      obtain ⟨X1, y1, y2⟩ := m_back x2 S' (h 116 4) (h 116 7)
      have w4 := w3 X x22
      rw [xt, y1, Option.bind_some] at w4
      have hR : Rel true true (fun _ => 0) m y sn Bd n N 200 nw ol L h (0 + 10) (X 116) := R.ext (fun k hk _ _ => xe k hk)
      have mc := m_cuts hR X (h 116 4) (h 116 7)
      have ec : isum (fun k => X 116 (3478 + 9 * k + 6)) sn = c0 := by
        rw [hc0]
        exact isum_cong fun k hk => xe _ (by have := R.sn4; omega)
      rw [xt, ec] at mc
      refine ⟨X1, ?_, y2⟩
      show p_X10_firstCut h' 110 (nI d) = _
      unfold p_X10_firstCut
      rw [nv_eq, isT_y _ hd1 hd2, Option.bind_some]
      dsimp +instances only
      rw [if_neg one_nz, x1, Option.bind_some, mc, Option.bind_some]
      exact w4
end Tf2
