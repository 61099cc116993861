/-! heap and loop basics -/
theorem nv_eq {β α : Type} (x : β) (K : β → Option α) : nv x K = K x := rfl
theorem lp_s {β α : Type} (b : (β → Option α) → β → Option α) (n : Nat) (q : β) : lp b (n + 1) q = b (lp b n) q := rfl
theorem hp_at (h : Hp) (o k : Nat) (v : Int32) (o' j : Nat) : hp h o k v o' j = if o' = o ∧ j = k then v else h o' j := by
  unfold hp va_up upd
  by_cases e : o' = o
  · subst e
    by_cases e2 : j = k
    · simp [e2]
    · simp [e2]
  · simp [e]
theorem bm64 {x : Int} (h1 : -(2 ^ 62) ≤ x) (h2 : x < 2 ^ 62) : Int.bmod x (2 ^ 64) = x := by
  have e : ((2 ^ 64 : Nat) : Int) = 18446744073709551616 := by decide +kernel
  simp only [Int.bmod, e]
  split <;> omega
theorem bm32 {x : Int} (h1 : -(2 ^ 30) ≤ x) (h2 : x < 2 ^ 31) : Int.bmod x (2 ^ 32) = x := by
  have e : ((2 ^ 32 : Nat) : Int) = 4294967296 := by decide +kernel
  simp only [Int.bmod, e]
  split <;> omega
theorem l_mul {a b : Int64} {A B : Int} (ha : a.toInt = A) (hb : b.toInt = B) (h1 : -(2 ^ 62) ≤ A * B) (h2 : A * B < 2 ^ 62) : (a * b).toInt = A * B := by
  rw [Int64.toInt_mul, ha, hb]
  exact bm64 h1 h2
theorem l_sub {a b : Int64} {A B : Int} (ha : a.toInt = A) (hb : b.toInt = B) (h1 : -(2 ^ 62) ≤ A - B) (h2 : A - B < 2 ^ 62) : (a - b).toInt = A - B := by
  rw [Int64.toInt_sub, ha, hb]
  exact bm64 h1 h2
theorem l_shr {a D : Int64} {A : Int} {d : Nat} (ha : a.toInt = A) (hD : (D.toBitVec.smod 64).toNat = d) : (a >>> D).toInt = A / 2 ^ d := by
  have e : (a >>> D).toInt = a.toInt >>> d := by
    rw [← hD]
    exact BitVec.toInt_sshiftRight ..
  rw [e, ha, Int.shiftRight_eq_div_pow]
  rfl
theorem l_div {a b : Int64} {A : Int} {d : Nat} (ha : a.toInt = A) (hb : b.toInt = (d : Int)) (hd : 0 < d) (h1 : -(2 ^ 60) ≤ A) (h2 : A < 2 ^ 60) : (a / b).toInt = A.tdiv d := by
  rw [Int64.toInt_div, ha, hb]
  have hq : (A.tdiv d).natAbs ≤ A.natAbs := Int.natAbs_tdiv_le_natAbs A d
  exact bm64 (by omega) (by omega)
def stp (r c : Int32) : Int32 :=
  if 0 ≤ (lg_cmp (((Int32.toInt64 r) * (196608 - ((Int32.toInt64 c) * (((Int32.toInt64 r) * (Int32.toInt64 r)) >>> ((16 : Int32).toInt64 &&& 63))))) >>> ((17 : Int32).toInt64 &&& 63)) 1) then (if (lg_cmp (((Int32.toInt64 r) * (196608 - ((Int32.toInt64 c) * (((Int32.toInt64 r) * (Int32.toInt64 r)) >>> ((16 : Int32).toInt64 &&& 63))))) >>> ((17 : Int32).toInt64 &&& 63)) 65535) ≤ 0 then Int64.toInt32 (((Int32.toInt64 r) * (196608 - ((Int32.toInt64 c) * (((Int32.toInt64 r) * (Int32.toInt64 r)) >>> ((16 : Int32).toInt64 &&& 63))))) >>> ((17 : Int32).toInt64 &&& 63)) else 65535) else 1
theorem stp_eq (h : Hp) (r c : Int32) : p_X4_step h r c = some (stp r c, h) := by
  unfold p_X4_step stp
  simp only [nv_eq]
  split
  · split <;> rfl
  · rfl
theorem clamp_rng (v : Int64) : ∃ n : Nat, 1 ≤ n ∧ n ≤ 65535 ∧ (if 0 ≤ lg_cmp v 1 then (if lg_cmp v 65535 ≤ 0 then Int64.toInt32 v else 65535) else 1) = nI n := by
  by_cases h1 : 0 ≤ lg_cmp v 1
  · rw [if_pos h1]
    by_cases h2 : lg_cmp v 65535 ≤ 0
    · rw [if_pos h2]
      rw [lg_cmp_ge, Int64.le_iff_toInt_le] at h1
      rw [lg_cmp_le, Int64.le_iff_toInt_le] at h2
      have e1 : (1 : Int64).toInt = 1 := by decide +kernel
      have e2 : (65535 : Int64).toInt = 65535 := by decide +kernel
      rw [e1] at h1
      rw [e2] at h2
      refine ⟨v.toInt.toNat, by omega, by omega, ?_⟩
      have e3 : v = lN v.toInt.toNat := Int64.toInt_inj.mp (by rw [lN_toInt (by omega)]; omega)
      rw [e3, lN_i, ← e3]
    · rw [if_neg h2]
      exact ⟨65535, by omega, by omega, rfl⟩
  · rw [if_neg h1]
    exact ⟨1, by omega, by omega, rfl⟩
theorem stp_rng (r c : Int32) : ∃ n : Nat, 1 ≤ n ∧ n ≤ 65535 ∧ stp r c = nI n := clamp_rng _
theorem stm_eq (h : Hp) {a n : Nat} (ha : a ≤ 65535) (hn : n ≤ 1000) : p_X10_stepped h (nI a) (nI n) = some (stp (nI a) (nI n), h) := by
  have er : (nI a).toInt64 = lN a := nI_l (by omega)
  have ec : (nI n).toInt64 = lN n := nI_l (by omega)
  have haa : a * a ≤ 65535 * 65535 := Nat.mul_le_mul ha ha
  have e1 : lN a * lN a = lN (a * a) := lN_mul a a
  have eaa : (lN (a * a)).toInt = ((a * a : Nat) : Int) := lg_ofNat_toInt (by omega)
  have q1 : lN (a * a) >>> ((16 : Int32).toInt64 &&& 63) = lN (a * a / 65536) := by
    apply Int64.toInt_inj.mp
    rw [l_shr (d := 16) (A := ((a * a : Nat) : Int)) eaa (by decide +kernel), lN_toInt (by omega)]
    omega
  have q2 : lN (a * a) / 65536 = lN (a * a / 65536) := by
    apply Int64.toInt_inj.mp
    rw [l_div (d := 65536) (A := ((a * a : Nat) : Int)) eaa (by decide +kernel) (by omega) (by omega) (by omega), lN_toInt (by omega)]
    rw [Int.tdiv_eq_ediv_of_nonneg (by omega)]
    omega
  have hq : a * a / 65536 ≤ 65534 := by omega
  generalize hQ : a * a / 65536 = Q at q1 q2 hq
  have hnq : n * Q ≤ 1000 * 65534 := Nat.mul_le_mul hn hq
  have e2 : lN n * lN Q = lN (n * Q) := lN_mul n Q
  have e3 : ((196608 : Int64) - lN (n * Q)).toInt = 196608 - ((n * Q : Nat) : Int) := l_sub (by decide +kernel) (lN_toInt (by omega)) (by omega) (by omega)
  have hb1 : -(65535 * 65534000 : Int) ≤ (a : Int) * (196608 - ((n * Q : Nat) : Int)) ∧ (a : Int) * (196608 - ((n * Q : Nat) : Int)) ≤ 65535 * 196608 := by
    constructor
    · have : -(65535 * 65534000 : Int) = 65535 * (-65534000) := by omega
      by_cases hs : 0 ≤ 196608 - ((n * Q : Nat) : Int)
      · have := Int.mul_nonneg (show (0 : Int) ≤ a by omega) hs
        omega
      · have h1 : (a : Int) * (-(196608 - ((n * Q : Nat) : Int))) ≤ 65535 * 65534000 := Int.mul_le_mul (by omega) (by omega) (by omega) (by omega)
        rw [Int.mul_neg] at h1
        omega
    · by_cases hs : 0 ≤ 196608 - ((n * Q : Nat) : Int)
      · exact Int.mul_le_mul (by omega) (by omega) hs (by omega)
      · have h1 : 0 ≤ (a : Int) * (-(196608 - ((n * Q : Nat) : Int))) := Int.mul_nonneg (by omega) (by omega)
        rw [Int.mul_neg] at h1
        omega
  have e4 : (lN a * (196608 - lN (n * Q))).toInt = (a : Int) * (196608 - ((n * Q : Nat) : Int)) := l_mul (lN_toInt (by omega)) e3 (by omega) (by omega)
  generalize hz : lN a * (196608 - lN (n * Q)) = z at e4
  generalize hZ : (a : Int) * (196608 - ((n * Q : Nat) : Int)) = Z at e4 hb1
  have e5 : (z >>> ((17 : Int32).toInt64 &&& 63)).toInt = Z / 131072 := l_shr (d := 17) e4 (by decide +kernel)
  have e6 : (z / 131072).toInt = Z.tdiv 131072 := l_div (d := 131072) e4 (by decide +kernel) (by omega) (by omega) (by omega)
  have ht : Z.tdiv 131072 = if Z < 0 ∧ ¬ Z % 131072 = 0 then Z / 131072 + 1 else Z / 131072 := by
    rw [Int.tdiv_eq_ediv]
    split
    · rename_i h1
      rw [if_neg]
      · omega
      · rintro ⟨h2, h3⟩
        rcases h1 with h1 | h1
        · omega
        · exact h3 (Int.emod_eq_zero_of_dvd h1)
    · rename_i h1
      rw [if_pos]
      · have : Int.sign 131072 = 1 := by decide +kernel
        omega
      · refine ⟨by omega, fun h2 => h1 (Or.inr (Int.dvd_of_emod_eq_zero h2))⟩
  have e7 : ((z / 131072) * 131072).toInt = Z.tdiv 131072 * 131072 := l_mul e6 (by decide +kernel) (by rw [ht]; split <;> omega) (by rw [ht]; split <;> omega)
  have key : (if lg_cmp (z / 131072 * 131072) z ≤ 0 then z / 131072 else z / 131072 - 1) = z >>> ((17 : Int32).toInt64 &&& 63) := by
    apply Int64.toInt_inj.mp
    rw [e5]
    by_cases hc : lg_cmp (z / 131072 * 131072) z ≤ 0
    · rw [if_pos hc, e6]
      rw [lg_cmp_le, Int64.le_iff_toInt_le, e7, e4] at hc
      rw [ht] at hc ⊢
      split at hc <;> rename_i h1
      · rw [if_pos h1]; omega
      · rw [if_neg h1]
    · rw [if_neg hc, l_sub e6 (show (1 : Int64).toInt = 1 by decide +kernel) (by rw [ht]; split <;> omega) (by rw [ht]; split <;> omega)]
      rw [lg_cmp_le, Int64.le_iff_toInt_le, e7, e4] at hc
      rw [ht] at hc ⊢
      split at hc <;> rename_i h1
      · rw [if_pos h1]; omega
      · rw [if_neg h1]; omega
  unfold p_X10_stepped stp
  simp only [nv_eq, er, ec, e1, q1, q2, e2, hz]
  rw [← key]
  by_cases hc : lg_cmp (z / 131072 * 131072) z ≤ 0
  · simp only [if_pos hc]
    unfold q_X10_stepped_49
    split
    · split <;> rfl
    · rfl
  · simp only [if_neg hc]
    unfold q_X10_stepped_49
    split
    · split <;> rfl
    · rfl
