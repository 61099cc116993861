/-! loops -/
def fe {σ ρ : Type} (step : σ → Nat → Sum σ ρ) (fin : σ → ρ) : Nat → Nat → σ → ρ
  | 0, _, st => fin st
  | k + 1, i, st => match step st i with
    | .inl st' => fe step fin k (i + 1) st'
    | .inr r => r
theorem fe_s {σ ρ : Type} (step : σ → Nat → Sum σ ρ) (fin : σ → ρ) (k i : Nat) (st : σ) : fe step fin (k + 1) i st = match step st i with
    | .inl st' => fe step fin k (i + 1) st'
    | .inr r => r := rfl
theorem lp_fe {β α σ : Type} {b : (β → Option α) → β → Option α} {step : σ → Nat → Sum σ α} {fin : σ → α} (enc : σ → Nat → β) (inv : σ → Nat → Prop) (N : Nat)
    (h1 : ∀ (K : β → Option α) (st : σ) (i : Nat), i < N → inv st i → (∃ st', step st i = .inl st' ∧ inv st' (i + 1) ∧ b K (enc st i) = K (enc st' (i + 1))) ∨ (∃ r, step st i = .inr r ∧ b K (enc st i) = some r))
    (h2 : ∀ (K : β → Option α) (st : σ), inv st N → b K (enc st N) = some (fin st)) : ∀ (k i : Nat) (st : σ) (n : Nat), i + k = N → k < n → inv st i → lp b n (enc st i) = some (fe step fin k i st)
  | 0, i, st, n, hi, hn, hv => by
    obtain ⟨n', rfl⟩ : ∃ n', n = n' + 1 := ⟨n - 1, by omega⟩
    rw [lp_s, show i = N by omega, h2 _ _ (by rw [← show i = N by omega]; exact hv)]
    rfl
  | k + 1, i, st, n, hi, hn, hv => by
    obtain ⟨n', rfl⟩ : ∃ n', n = n' + 1 := ⟨n - 1, by omega⟩
    rw [lp_s]
    rcases h1 (lp b n') st i (by omega) hv with ⟨st', e1, e2, e3⟩ | ⟨r, e1, e2⟩
    · rw [e3, lp_fe enc inv N h1 h2 k (i + 1) st' n' (by omega) (by omega) e2, fe_s, e1]
    · rw [e2, fe_s, e1]
/-! roots by steps -/
def rts : Nat → Int32
  | 0 => 65535
  | 1 => 65535
  | k + 2 => stp (rts (k + 1)) (nI (k + 2))
theorem rts_rng : ∀ k, ∃ a : Nat, 1 ≤ a ∧ a ≤ 65535 ∧ rts k = nI a
  | 0 => ⟨65535, by omega, by omega, rfl⟩
  | 1 => ⟨65535, by omega, by omega, rfl⟩
  | k + 2 => stp_rng _ _
theorem rts_s {i : Nat} (h : 1 ≤ i) : rts (i + 1) = stp (rts i) (nI (i + 1)) := by
  cases i with
  | zero => omega
  | succ i => rfl
theorem rc_lp (h : Hp) {n : Nat} (hn : n ≤ 999) : ∀ (k i m : Nat), 1 ≤ i → i + k = n → k < m → lp (b_X4_stepped_5 (nI n)) m (h, rts i, nI (i + 1)) = some (rts n, h)
  | 0, i, m, h1, h2, h3 => by
    obtain ⟨m', rfl⟩ : ∃ m', m = m' + 1 := ⟨m - 1, by omega⟩
    rw [lp_s]
    simp only [b_X4_stepped_5]
    rw [if_pos (nI_lt (by omega) (by omega)), show i = n by omega]
  | k + 1, i, m, h1, h2, h3 => by
    obtain ⟨m', rfl⟩ : ∃ m', m = m' + 1 := ⟨m - 1, by omega⟩
    rw [lp_s]
    simp only [b_X4_stepped_5]
    rw [if_neg (nI_nlt (by omega) (by omega)), stp_eq, Option.bind_some, nI_1, ← rts_s h1]
    exact rc_lp h hn k (i + 1) m' (by omega) (by omega) (by omega)
theorem rm_lp (h : Hp) {n : Nat} (hn : n ≤ 999) : ∀ (k i m : Nat), 1 ≤ i → i + k = n → k < m → lp (b_X10_rootOf_5 (nI n)) m (h, rts i, nI (i + 1)) = some (rts n, h)
  | 0, i, m, h1, h2, h3 => by
    obtain ⟨m', rfl⟩ : ∃ m', m = m' + 1 := ⟨m - 1, by omega⟩
    rw [lp_s]
    simp only [b_X10_rootOf_5]
    rw [if_pos (nI_lt (by omega) (by omega)), show i = n by omega]
  | k + 1, i, m, h1, h2, h3 => by
    obtain ⟨m', rfl⟩ : ∃ m', m = m' + 1 := ⟨m - 1, by omega⟩
    obtain ⟨a, ha1, ha2, ha⟩ := rts_rng i
    rw [lp_s]
    simp only [b_X10_rootOf_5]
    rw [if_neg (nI_nlt (by omega) (by omega))]
    have e : p_X10_stepped h (rts i) (nI (i + 1)) = some (rts (i + 1), h) := by rw [ha, stm_eq h (by omega) (by omega), ← ha, ← rts_s h1]
    show Option.bind (p_X10_stepped h (rts i) (nI (i + 1))) _ = _
    rw [e, Option.bind_some, nI_1]
    exact rm_lp h hn k (i + 1) m' (by omega) (by omega) (by omega)
theorem FU_gt {k : Nat} (h : k < 100000) : k < FU := by unfold FU; omega
theorem x_cnt {x : Int32} (h1 : ¬ x < 1) (h2 : x ≤ 999) : ∃ n : Nat, 1 ≤ n ∧ n ≤ 999 ∧ x = nI n := by
  obtain ⟨j, hj, rfl⟩ := nI_of2 (n := 999) (x := x) (M := 999) (by decide) (fun h => h1 (Int32.lt_iff_toInt_lt.mpr (by
    rw [Int32.lt_iff_toInt_lt] at h
    have e0 : (0 : Int32).toInt = 0 := by decide
    have e1 : (1 : Int32).toInt = 1 := by decide
    omega))) h2
  refine ⟨j, ?_, hj, rfl⟩
  rcases Nat.eq_zero_or_pos j with h | h
  · subst h
    exact absurd (by decide) h1
  · exact h
theorem rootBy_c (h : Hp) {n : Nat} (h1 : 1 ≤ n) (h2 : n ≤ 999) : p_X4_stepped h (nI n) = some (rts n, h) := rc_lp h h2 (n - 1) 1 FU (by omega) (by omega) (FU_gt (by omega))
theorem rootBy_m (h : Hp) {n : Nat} (h1 : 1 ≤ n) (h2 : n ≤ 999) : p_X10_rootOf h (nI n) = some (rts n, h) := rm_lp h h2 (n - 1) 1 FU (by omega) (by omega) (FU_gt (by omega))
theorem isCount_y (h : Hp) {n : Nat} (h1 : 1 ≤ n) (h2 : n ≤ 999) : p_X10_isCount h (nI n) = some (1, h) := by
  have e1 : ¬ nI n < (1 : Int32) := nI_nlt (b := 1) h1 (by omega)
  have e2 : ¬ (999 : Int32) < nI n := nI_nlt (a := 999) h2 (by omega)
  simp only [p_X10_isCount, if_neg e1, if_neg e2]
theorem isCount_n (h : Hp) {x : Int32} (h1 : x < 1 ∨ ¬ x ≤ 999) : p_X10_isCount h x = some (0, h) := by
  unfold p_X10_isCount
  by_cases h2 : x < 1
  · rw [if_pos h2]
  · rw [if_neg h2, if_pos (fa_of_nle (h1.resolve_left h2))]
def q1 (c : Hp → Option (Int32 × Hp)) (m : Hp → Option (Int32 × Hp)) : Prop := ∃ r : Int32, (∀ h, c h = some (r, h)) ∧ ∀ h, m h = some (r, hp h 110 0 0)
theorem rootBy_q (x : Int32) : q1 (fun h => p_X9_rootBy h 0 x) (fun h => p_X10_rootBy h 110 x) := by
  by_cases hx : x < 1 ∨ ¬ x ≤ 999
  · refine ⟨-1, fun h => ?_, fun h => ?_⟩
    · show p_X9_rootBy h 0 x = _
      unfold p_X9_rootBy
      by_cases h1 : x < 1
      · rw [if_pos h1]
      · rw [if_neg h1, if_neg (hx.resolve_left h1)]
    · show p_X10_rootBy h 110 x = _
      unfold p_X10_rootBy
      rw [nv_eq, isCount_n _ hx, Option.bind_some, if_pos rfl]
  · obtain ⟨n, h1, h2, rfl⟩ := x_cnt (fun h => hx (Or.inl h)) (Classical.not_not.mp fun h => hx (Or.inr h))
    refine ⟨rts n, fun h => ?_, fun h => ?_⟩
    · show p_X9_rootBy h 0 (nI n) = _
      unfold p_X9_rootBy
      rw [if_neg (fun z => hx (Or.inl z)), if_pos (Classical.not_not.mp fun z => hx (Or.inr z)), rootBy_c h h1 h2]
      rfl
    · show p_X10_rootBy h 110 (nI n) = _
      unfold p_X10_rootBy
      rw [nv_eq, isCount_y _ h1 h2, Option.bind_some, if_neg (show ¬ (1 : Int32) = 0 by decide), rootBy_m _ h1 h2]
      rfl
/-! true roots -/
def exg (n : Nat) : Nat → Nat
  | 0 => 0
  | r + 1 => if (r + 1) * (r + 1) * n ≤ 4294967296 then r + 1 else exg n r
theorem exg_spec (n : Nat) : ∀ R, exg n R * exg n R * n ≤ 4294967296 ∧ exg n R ≤ R ∧ ∀ r, exg n R < r → r ≤ R → ¬ r * r * n ≤ 4294967296
  | 0 => by
    unfold exg
    exact ⟨by omega, by omega, fun r h1 h2 => by omega⟩
  | R + 1 => by
    unfold exg
    by_cases h : (R + 1) * (R + 1) * n ≤ 4294967296
    · rw [if_pos h]
      exact ⟨h, Nat.le_refl _, fun r h1 h2 => by omega⟩
    · rw [if_neg h]
      obtain ⟨a, b, c⟩ := exg_spec n R
      refine ⟨a, by omega, fun r h1 h2 => ?_⟩
      by_cases e : r = R + 1
      · rw [e]; exact h
      · exact c r h1 (by omega)
theorem sq_mono {a b n : Nat} (h : a ≤ b) : a * a * n ≤ b * b * n := Nat.mul_le_mul_right n (Nat.mul_le_mul h h)
theorem exg_uniq {n l R : Nat} (h1 : l * l * n ≤ 4294967296) (h2 : l ≤ R) (h3 : ∀ r, l < r → r ≤ R → ¬ r * r * n ≤ 4294967296) : exg n R = l := by
  obtain ⟨a, b, c⟩ := exg_spec n R
  rcases Nat.lt_trichotomy (exg n R) l with h | h | h
  · exact absurd h1 (c l h h2)
  · exact h
  · exact absurd a (h3 _ h b)
theorem cmpP {R n : Nat} (hR : R ≤ 65535) (hn : n ≤ 999) : lg_cmp (((Int32.toInt64 (nI R)) * (Int32.toInt64 (nI R))) * (Int32.toInt64 (nI n))) 4294967296 ≤ 0 ↔ R * R * n ≤ 4294967296 := by
  have h1 : R * R ≤ 65535 * 65535 := Nat.mul_le_mul hR hR
  have h2 : R * R * n ≤ 65535 * 65535 * 999 := Nat.mul_le_mul h1 hn
  rw [nI_l (by omega), nI_l (by omega), lN_mul, lN_mul, lg_cmp_le, Int64.le_iff_toInt_le]
  have e1 : (lN (R * R * n)).toInt = ((R * R * n : Nat) : Int) := lg_ofNat_toInt (by omega)
  have e2 : (4294967296 : Int64).toInt = 4294967296 := by decide
  rw [e1, e2]
  omega
theorem i_pred (R : Nat) : nI (R + 1) + (-1) = nI R := by
  rw [← Int32.sub_eq_add_neg]
  exact nI_pred R
theorem exact_m (h : Hp) {n : Nat} (hn : n ≤ 999) : ∀ (R m : Nat), R ≤ 65535 → R < m → lp (b_X10_exactOf_3 (nI n)) m (h, nI R) = some (nI (exg n R), h)
  | 0, m, h1, h2 => by
    obtain ⟨m', rfl⟩ : ∃ m', m = m' + 1 := ⟨m - 1, by omega⟩
    rw [lp_s]
    simp only [b_X10_exactOf_3]
    rw [if_pos ((cmpP h1 hn).mpr (by omega))]
    rfl
  | R + 1, m, h1, h2 => by
    obtain ⟨m', rfl⟩ : ∃ m', m = m' + 1 := ⟨m - 1, by omega⟩
    rw [lp_s]
    simp only [b_X10_exactOf_3, exg]
    by_cases hc : (R + 1) * (R + 1) * n ≤ 4294967296
    · rw [if_pos ((cmpP h1 hn).mpr hc), if_pos hc]
    · rw [if_neg (fun z => hc ((cmpP h1 hn).mp z)), if_neg hc]
      show lp _ m' (h, nI (R + 1) + (-1)) = _
      rw [i_pred]
      exact exact_m h hn R m' (by omega) (by omega)
theorem half_i {x : Nat} (h : x < 2 ^ 31) : nI x >>> ((1 : Int32) &&& 31) = nI (x / 2) := pk_shrN h _ 1 (by decide)
theorem true_c (h : Hp) {n : Nat} (hn : n ≤ 999) : ∀ (e lo hi m : Nat), e ≤ 17 → lo ≤ hi → hi ≤ 65535 → hi - lo < 2 ^ e → lo * lo * n ≤ 4294967296 → (∀ r, hi < r → r ≤ 65535 → ¬ r * r * n ≤ 4294967296) → e < m → lp (b_X4_trueRoot_7 (nI n)) m (h, nI lo, nI hi, nI (17 - e)) = some (nI (exg n 65535), h)
  | e, lo, hi, m, he, h1, h2, h3, h4, h5, h6 => by
    obtain ⟨m', rfl⟩ : ∃ m', m = m' + 1 := ⟨m - 1, by omega⟩
    rw [lp_s]
    have h20 : ¬ (20 : Int32) ≤ nI (17 - e) := nI_ge (b := 20) (by omega) (by omega)
    simp only [b_X4_trueRoot_7, if_neg h20]
    by_cases hl : hi ≤ lo
    · rw [if_pos (nI_le hl (by omega)), exg_uniq (l := lo) h4 (by omega) (fun r a b => h5 r (by omega) b)]
    · rw [if_neg (show ¬ nI hi ≤ nI lo from nI_ge (by omega) (by omega))]
      cases e with
      | zero =>
        have : (2 : Nat) ^ 0 = 1 := rfl
        omega
      | succ e =>
        have hp2 : (2 : Nat) ^ (e + 1) = 2 * 2 ^ e := by rw [Nat.pow_succ, Nat.mul_comm]
        show nv (((nI lo + nI hi) + nI 1) >>> (1 &&& 31)) _ = _
        rw [nI_add, nI_add, half_i (by omega), nv_eq]
        have hm1 : (lo + hi + 1) / 2 ≤ 65535 := by omega
        have e17 : nI (17 - (e + 1)) + 1 = nI (17 - e) := by rw [nI_1, show 17 - (e + 1) + 1 = 17 - e by omega]
        by_cases hc : (lo + hi + 1) / 2 * ((lo + hi + 1) / 2) * n ≤ 4294967296
        · rw [if_neg (fun z => by
            have := (cmpP hm1 hn).mpr hc
            rw [lg_cmp_gt] at z
            rw [lg_cmp_le] at this
            rw [Int64.lt_iff_toInt_lt] at z
            rw [Int64.le_iff_toInt_le] at this
            omega)]
          show lp _ m' (h, nI ((lo + hi + 1) / 2), nI hi, nI (17 - (e + 1)) + 1) = _
          rw [e17]
          exact true_c h hn e _ hi m' (by omega) (by omega) h2 (by omega) hc h5 (by omega)
        · rw [if_pos (by
            rw [lg_cmp_gt]
            have : ¬ _ := fun z => hc ((cmpP hm1 hn).mp z)
            rw [lg_cmp_le] at this
            rw [Int64.lt_iff_toInt_lt]
            rw [Int64.le_iff_toInt_le] at this
            omega), nv_eq]
          obtain ⟨md, hmd⟩ : ∃ md, (lo + hi + 1) / 2 = md + 1 := ⟨(lo + hi + 1) / 2 - 1, by omega⟩
          show lp _ m' (h, nI lo, nI ((lo + hi + 1) / 2) - 1, nI (17 - (e + 1)) + 1) = _
          rw [e17, hmd, nI_pred]
          exact true_c h hn e lo md m' (by omega) (by omega) (by omega) (by omega) h4 (fun r a b z => hc (Nat.le_trans (sq_mono (by omega)) z)) (by omega)
theorem trueRoot_c (h : Hp) {n : Nat} (hn : n ≤ 999) : p_X4_trueRoot h (nI n) = some (nI (exg n 65535), h) := true_c h hn 17 0 65535 FU (by omega) (by omega) (by omega) (by decide) (by omega) (fun r a b => by omega) (FU_gt (by omega))
theorem exactOf_m (h : Hp) {n : Nat} (hn : n ≤ 999) : p_X10_exactOf h (nI n) = some (nI (exg n 65535), h) := exact_m h hn 65535 FU (by omega) (FU_gt (by omega))
theorem exact_q (x : Int32) : q1 (fun h => p_X9_exact h 0 x) (fun h => p_X10_exact h 110 x) := by
  by_cases hx : x < 1 ∨ ¬ x ≤ 999
  · refine ⟨-1, fun h => ?_, fun h => ?_⟩
    · show p_X9_exact h 0 x = _
      unfold p_X9_exact
      by_cases h1 : x < 1
      · rw [if_pos h1]
      · rw [if_neg h1, if_neg (hx.resolve_left h1)]
    · show p_X10_exact h 110 x = _
      unfold p_X10_exact
      rw [nv_eq, isCount_n _ hx, Option.bind_some, if_pos rfl]
  · obtain ⟨n, h1, h2, rfl⟩ := x_cnt (fun h => hx (Or.inl h)) (Classical.not_not.mp fun h => hx (Or.inr h))
    refine ⟨nI (exg n 65535), fun h => ?_, fun h => ?_⟩
    · show p_X9_exact h 0 (nI n) = _
      unfold p_X9_exact
      rw [if_neg (fun z => hx (Or.inl z)), if_pos (Classical.not_not.mp fun z => hx (Or.inr z)), trueRoot_c h h2]
      rfl
    · show p_X10_exact h 110 (nI n) = _
      unfold p_X10_exact
      rw [nv_eq, isCount_y _ h1 h2, Option.bind_some, if_neg (show ¬ (1 : Int32) = 0 by decide), exactOf_m _ h2]
      rfl
