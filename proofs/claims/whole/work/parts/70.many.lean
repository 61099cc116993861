/-! many ticks; draining -/
def itf (f : Hp → Option Hp) : Nat → Hp → Option Hp
  | 0, h => some h
  | d + 1, h => Option.bind (f h) (itf f d)
theorem itf_s (f : Hp → Option Hp) (d : Nat) (h : Hp) : itf f (d + 1) h = Option.bind (f h) (itf f d) := rfl
theorem lp_it {α : Type} {b : (Hp × Int32 → Option α) → Hp × Int32 → Option α} {f : Hp → Option Hp} {N : Nat} {fin : Hp → Option α} (h1 : ∀ (K : Hp × Int32 → Option α) (h : Hp) (i : Nat), i < N → b K (h, nI i) = Option.bind (f h) fun r => K (r, nI (i + 1))) (h2 : ∀ (K : Hp × Int32 → Option α) (h : Hp), b K (h, nI N) = fin h) : ∀ (d i m : Nat) (h h' : Hp), i + d = N → d < m → itf f d h = some h' → lp b m (h, nI i) = fin h'
  | 0, i, m, h, h', hi, hm, e => by
    obtain ⟨m', rfl⟩ : ∃ m', m = m' + 1 := ⟨m - 1, by omega⟩
    have e1 : h = h' := Option.some.inj e
    rw [lp_s, show i = N by omega, h2, e1]
  | d + 1, i, m, h, h', hi, hm, e => by
    obtain ⟨m', rfl⟩ : ∃ m', m = m' + 1 := ⟨m - 1, by omega⟩
    rw [itf_s] at e
    cases hf : f h with
    | none =>
      rw [hf] at e
      cases e
    | some g =>
      rw [hf, Option.bind_some] at e
      rw [lp_s, h1 _ h i (by omega), hf, Option.bind_some]
      exact lp_it h1 h2 d (i + 1) m' g h' (by omega) (by omega) e
theorem m_runs {h h' : Hp} {d : Nat} (hd : d ≤ 200) (e : itf (fun h => p_X10_ticks h 110) d h = some h') : p_X10_runs h 110 (nI d) = some h' := by
  have key := lp_it (b := b_X10_runs_2 110 (nI d)) (f := fun h => p_X10_ticks h 110) (N := d) (fin := fun h => some h) (fun K h i hi => by
      unfold b_X10_runs_2
      dsimp only
      rw [if_neg (nI_ge (by omega) (by omega)), nI_1]) (fun K h => by
      unfold b_X10_runs_2
      dsimp only
      rw [if_pos (nI_le (Nat.le_refl _) (by omega))]) d 0 FU h h' (by omega) (FU_gt (by omega)) e
  rw [nI_0] at key
  exact key
section Tn
variable {bg rl : Bool} {tb : Nat → Int32} {m y sn Bd n N tk : Nat} {nw ol L : List Nat} {h : Hp} {w : Nat} {S : Nat → Int32}
theorem ticks_sim (d : Nat) : ∀ {h : Hp} {S : Nat → Int32} {n N Bd : Nat} {nw ol L : List Nat}, Rel true rl tb m y sn Bd n N 200 nw ol L h w S → LSt n nw ol S → (∀ k, k < 4 → tb (4 + k) = 0) → Bd + d ≤ 5000000 → ∃ h' S' n' L' nw' ol' N', itf (fun h => p_X8_tick h w) d h = some h' ∧ (∀ hm t l, hm 110 22 = -2 → Tk (h (w + 1) 0) t (h' w 12) → Lk (h (w + 1) 5) l (h' w 10) → itf (fun h => p_X10_ticks h 110) d (mt hm S t l) = some (mt hm S' t l)) ∧ Rel true rl tb m y sn (Bd + d) n' N' 200 nw' ol' L' h' w S' ∧ LSt n' nw' ol' S' ∧ Fr w h h' ∧ h' w 12 ≤ h w 12 ∧ PO (h (w + 1) 5) w h S h' S' := by
  induction d with
  | zero =>
    intro h S n N Bd nw ol L R hLS tb0 hB
    exact ⟨h, S, n, L, nw, ol, N, rfl, fun _ _ _ _ _ _ => rfl, R, hLS, Fr.refl w h, Int32.le_refl _, PO.refl _ _ _ _⟩
  | succ d ih =>
    intro h S n N Bd nw ol L R hLS tb0 hB
    obtain ⟨h1, S1, n1, L1, nw1, ol1, N1, aC, aM, R1, hLS1, aF, a12, aP⟩ := tick_sim R hLS tb0 (by omega)
    obtain ⟨h', S', n', L', nw', ol', N', iC, iM, iR, iL, iF, i12, iP⟩ := ih R1 hLS1 tb0 (by omega)
    have hT : h1 (w + 1) 0 = h (w + 1) 0 := aF.2 0
    have hC : h1 (w + 1) 5 = h (w + 1) 5 := aF.2 5
    rw [hC] at iP
    refine ⟨h', S', n', L', nw', ol', N', ?_, fun hm t l hw hTk hLk => ?_, ?_, iL, aF.trans iF, Int32.le_trans i12 a12, aP.trans iP⟩
    · rw [itf_s]
      show Option.bind (p_X8_tick h w) _ = _
      rw [aC, Option.bind_some]
      exact iC
    · rw [itf_s]
      show Option.bind (p_X10_ticks (mt hm S t l) 110) _ = _
      rw [aM hm t l hw (hTk.mono i12) (hLk.mono iP.1), Option.bind_some]
      exact iM hm t l hw (by rw [hT]; exact hTk) (by rw [hC]; exact hLk)
    · rw [show Bd + (d + 1) = Bd + 1 + d by omega]
      exact iR
/-- draining: class and reference in step -/
theorem drain_sim {T : Nat} (hwT : w = T + 1) {e : Nat} (he : e ≤ 999) (c : Nat) : ∀ {h : Hp} {S : Nat → Int32} {N Bd turn : Nat} {nw ol L : List Nat}, Rel true rl tb m y sn Bd n N 200 nw ol L h w S → LSt n nw ol S → fa_cnt (sd S) n ≤ c → turn + c ≤ 200 → Bd + e * c ≤ 5000000 → ∃ h' S' L' nw' ol' N', (∀ m, c < m → lp (b_X6_drainCopy_2 T (nI e)) m (h, nI turn) = some h') ∧ (∀ hm t l m, c < m → Tk (h (w + 1) 0) t (h' w 12) → lp (b_X10_drains_0 110 (nI e)) m (mt hm S t l) = some (mt hm S' t l)) ∧ Rel true rl tb m y sn (Bd + e * c) n N' 200 nw' ol' L' h' w S' ∧ LSt n nw' ol' S' ∧ Fr w h h' ∧ h' w 12 ≤ h w 12 := by
  subst hwT
  induction c with
  | zero =>
    intro h S N Bd turn nw ol L R hLS hc ht hB
    have hz : S 2 = nI 0 := by rw [R.cf.2.1, show fa_cnt (sd S) n = 0 by omega]
    refine ⟨h, S, L, nw, ol, N, fun m hm => ?_, fun hm t l m hmm _ => ?_, R, hLS, Fr.refl _ h, Int32.le_refl _⟩
    · obtain ⟨m', rfl⟩ : ∃ m', m = m' + 1 := ⟨m - 1, by omega⟩
      rw [lp_s]
      unfold b_X6_drainCopy_2
      dsimp only
      by_cases e2 : 200 ≤ turn
      · rw [if_pos (show (200 : Int32) ≤ nI turn from nI_le (a := 200) e2 (by omega))]
      · rw [if_neg (show ¬ (200 : Int32) ≤ nI turn from nI_ge (b := 200) (by omega) (by omega)), if_pos (by rw [R.stg, hz]; decide)]
    · obtain ⟨m', rfl⟩ : ∃ m', m = m' + 1 := ⟨m - 1, by omega⟩
      rw [lp_s]
      unfold b_X10_drains_0
      rw [if_pos (by rw [mt_r _ _ _ _ (by omega) (by omega), hz]; decide)]
  | succ c ih =>
    intro h S N Bd turn nw ol L R hLS hc ht hB
    have hcn := fa_cnt_le (sd S) n
    have hnn := R.n200
    have hmul : e * (c + 1) = e * c + e := Nat.mul_succ e c
    rcases Nat.eq_zero_or_pos (fa_cnt (sd S) n) with h0 | h0
    · have hz : S 2 = nI 0 := by rw [R.cf.2.1, h0]
      refine ⟨h, S, L, nw, ol, N, fun m hm => ?_, fun hm t l m hmm _ => ?_, R.bd (by omega) (by omega), hLS, Fr.refl _ h, Int32.le_refl _⟩
      · obtain ⟨m', rfl⟩ : ∃ m', m = m' + 1 := ⟨m - 1, by omega⟩
        rw [lp_s]
        unfold b_X6_drainCopy_2
        dsimp only
        rw [if_neg (show ¬ (200 : Int32) ≤ nI turn from nI_ge (b := 200) (by omega) (by omega)), if_pos (by rw [R.stg, hz]; decide)]
      · obtain ⟨m', rfl⟩ : ∃ m', m = m' + 1 := ⟨m - 1, by omega⟩
        rw [lp_s]
        unfold b_X10_drains_0
        rw [if_pos (by rw [mt_r _ _ _ _ (by omega) (by omega), hz]; decide)]
    · obtain ⟨h1, S1, L1, nw1, ol1, N1, r, aC, aM, R1, hLS1, aF, a10, a12, a17, aO⟩ := serve_sim R hLS
      have hN1 := R1.ep.2.2.2.2.2.2.2.2.1
      have R2 := R1.time (N' := N1 + e) (Bd' := Bd + e) (Nat.le_refl _) (by omega) (by omega) (by omega)
      have hcn1 : fa_cnt (sd (upd S1 0 (nI (N1 + e)))) n ≤ c := by
        rw [fa_cnt_cong (p := sd (upd S1 0 (nI (N1 + e)))) (q := sd S1) (fun k hk => by unfold sd; rw [upd_n _ _ (by omega)])]
        rcases aO with ⟨f, _, _, q⟩ | ⟨_, q⟩ <;> omega
      have hLS2 : LSt n nw1 ol1 (upd S1 0 (nI (N1 + e))) := fun b f hb hf u => hLS1 b f hb hf (by rw [sb_cong (S := S1) (upd_n _ _ (by omega)) (upd_n _ _ (by omega))] at u; exact u)
      obtain ⟨h', S', L', nw', ol', N', iC, iM, iR, iL, iF, i12⟩ := ih (turn := turn + 1) R2 hLS2 hcn1 (by omega) (by omega)
      have F1 : Fr (T + 1) h (hp h1 (T + 1) 7 (nI (N1 + e))) := aF.trans (Fr.hp _ _ _ (Nat.le_refl _) (by omega) (by omega))
      have w12 : hp h1 (T + 1) 7 (nI (N1 + e)) (T + 1) 12 = h1 (T + 1) 12 := hp_k _ _ (by decide)
      have hT : hp h1 (T + 1) 7 (nI (N1 + e)) (T + 1 + 1) 0 = h (T + 1 + 1) 0 := F1.2 0
      rw [w12] at i12
      refine ⟨h', S', L', nw', ol', N', fun m hm => ?_, fun hm t l m hmm hTk => ?_, ?_, iL, F1.trans iF, Int32.le_trans i12 a12⟩
      · obtain ⟨m', rfl⟩ : ∃ m', m = m' + 1 := ⟨m - 1, by omega⟩
        rw [lp_s]
        unfold b_X6_drainCopy_2
        dsimp only
        rw [if_neg (show ¬ (200 : Int32) ≤ nI turn from nI_ge (b := 200) (by omega) (by omega)), if_neg (by rw [R.stg, R.cf.2.1]; exact nI_nle h0 (by omega)), aC, Option.bind_some]
        dsimp only
        rw [R1.now, R1.i0, nI_add, nv_eq, nI_1]
        exact iC m' (by omega)
      · obtain ⟨m', rfl⟩ : ∃ m', m = m' + 1 := ⟨m - 1, by omega⟩
        rw [lp_s]
        unfold b_X10_drains_0
        rw [if_neg (by rw [mt_r _ _ _ _ (by omega) (by omega), R.cf.2.1]; exact nI_nle h0 (by omega)), aM hm t l (hTk.mono i12), Option.bind_some]
        dsimp only
        rw [mt_r _ _ _ _ (by omega) (by omega), R1.i0, nI_add, mt_hp _ _ _ _ _ (by omega) (by omega), nv_eq]
        exact iM hm t l m' (by omega) (by rw [hT]; exact hTk)
      · rw [show Bd + e * (c + 1) = Bd + e + e * c by omega]
        exact iR
end Tn

