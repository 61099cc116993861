/-! the reference's array, told by itself -/
def mh (h : Hp) (S : Nat → Int32) : Hp := va_up h 116 S
theorem mh_s (h : Hp) (S : Nat → Int32) : mh h S 116 = S := va_up_self h 116 S
theorem mh_r (h : Hp) (S : Nat → Int32) : mh h S (110 + 6) = S := va_up_self h 116 S
theorem mh_n (h : Hp) (S : Nat → Int32) {o : Nat} (n : o ≠ 116) : mh h S o = h o := va_up_ne h S n
theorem mh_hp (h : Hp) (S : Nat → Int32) (k : Nat) (v : Int32) : hp (mh h S) (110 + 6) k v = mh h (upd S k v) := by
  funext o j
  rw [hp_at]
  by_cases e : o = 116
  · subst e
    rw [mh_s, mh_s]
    unfold upd
    by_cases e2 : j = k
    · rw [if_pos ⟨rfl, e2⟩, if_pos e2]
    · rw [if_neg (fun z => e2 z.2), if_neg e2]
  · rw [if_neg (fun z => e z.1), mh_n _ _ e, mh_n _ _ e]
theorem mh_ho (h : Hp) (S : Nat → Int32) {o : Nat} (n : o ≠ 116) (k : Nat) (v : Int32) : hp (mh h S) o k v = mh (hp h o k v) S := by
  funext o' j
  rw [hp_at]
  by_cases e : o' = 116
  · subst e
    rw [mh_s, mh_s, if_neg (fun z => n z.1.symm)]
  · rw [mh_n _ _ e, mh_n _ _ e, hp_at]
theorem mh_eta (h : Hp) : mh h (h 116) = h := by
  funext o
  by_cases e : o = 116
  · rw [e, mh_s]
  · rw [mh_n _ _ e]
theorem mh_mh (h : Hp) (S S' : Nat → Int32) : mh (mh h S) S' = mh h S' := by
  funext o
  by_cases e : o = 116
  · rw [e, mh_s, mh_s]
  · rw [mh_n _ _ e, mh_n _ _ e, mh_n _ _ e]
theorem upd_s (S : Nat → Int32) (k : Nat) (v : Int32) : upd S k v k = v := if_pos rfl
theorem upd_e (S : Nat → Int32) {k j : Nat} (v : Int32) (e : j = k) : upd S k v j = v := if_pos e
theorem upd_n (S : Nat → Int32) {k j : Nat} (v : Int32) (e : j ≠ k) : upd S k v j = S j := if_neg e
theorem hp_e (h : Hp) {o k o' j : Nat} (v : Int32) (e1 : o' = o) (e2 : j = k) : hp h o k v o' j = v := by rw [hp_at, if_pos ⟨e1, e2⟩]
theorem hp_o' (h : Hp) {o k o' j : Nat} (v : Int32) (e : o' ≠ o) : hp h o k v o' j = h o' j := by rw [hp_at, if_neg (fun z => e z.1)]
theorem hp_k (h : Hp) {o k o' j : Nat} (v : Int32) (e : j ≠ k) : hp h o k v o' j = h o' j := by rw [hp_at, if_neg (fun z => e z.2)]
theorem ixL {x : Int32} {k : Nat} (e : x = nI k) (h : k < 3715) : ib x 3715 ∧ Int32.toNatClampNeg x = k := by
  subst e
  exact ⟨ib_n h (by omega), nI_clamp (by omega)⟩
theorem lin3 (a m b j : Nat) : (nI a + nI m * nI b) + nI j = nI (a + m * b + j) := by rw [nI_mul, nI_add, nI_add]

theorem m_of_0 (h : Hp) (S : Nat → Int32) {b : Nat} (hb : b < 16) : p_X10_of (mh h S) 110 (nI b) 0 = some (S (68 + 13 * b + 0), mh h S) := by
  obtain ⟨e1, e2⟩ := ixL (lin3 68 13 b 0) (by omega)
  show (if ib ((nI 68 + nI 13 * nI b) + nI 0) 3715 then some (mh h S (110 + 6) (Int32.toNatClampNeg ((nI 68 + nI 13 * nI b) + nI 0)), mh h S) else none) = _
  rw [if_pos e1, e2, mh_r]
theorem m_of_1 (h : Hp) (S : Nat → Int32) {b : Nat} (hb : b < 16) : p_X10_of (mh h S) 110 (nI b) 1 = some (S (68 + 13 * b + 1), mh h S) := by
  obtain ⟨e1, e2⟩ := ixL (lin3 68 13 b 1) (by omega)
  show (if ib ((nI 68 + nI 13 * nI b) + nI 1) 3715 then some (mh h S (110 + 6) (Int32.toNatClampNeg ((nI 68 + nI 13 * nI b) + nI 1)), mh h S) else none) = _
  rw [if_pos e1, e2, mh_r]
theorem m_of_2 (h : Hp) (S : Nat → Int32) {b : Nat} (hb : b < 16) : p_X10_of (mh h S) 110 (nI b) 2 = some (S (68 + 13 * b + 2), mh h S) := by
  obtain ⟨e1, e2⟩ := ixL (lin3 68 13 b 2) (by omega)
  show (if ib ((nI 68 + nI 13 * nI b) + nI 2) 3715 then some (mh h S (110 + 6) (Int32.toNatClampNeg ((nI 68 + nI 13 * nI b) + nI 2)), mh h S) else none) = _
  rw [if_pos e1, e2, mh_r]
theorem m_of_3 (h : Hp) (S : Nat → Int32) {b : Nat} (hb : b < 16) : p_X10_of (mh h S) 110 (nI b) 3 = some (S (68 + 13 * b + 3), mh h S) := by
  obtain ⟨e1, e2⟩ := ixL (lin3 68 13 b 3) (by omega)
  show (if ib ((nI 68 + nI 13 * nI b) + nI 3) 3715 then some (mh h S (110 + 6) (Int32.toNatClampNeg ((nI 68 + nI 13 * nI b) + nI 3)), mh h S) else none) = _
  rw [if_pos e1, e2, mh_r]
theorem m_of_4 (h : Hp) (S : Nat → Int32) {b : Nat} (hb : b < 16) : p_X10_of (mh h S) 110 (nI b) 4 = some (S (68 + 13 * b + 4), mh h S) := by
  obtain ⟨e1, e2⟩ := ixL (lin3 68 13 b 4) (by omega)
  show (if ib ((nI 68 + nI 13 * nI b) + nI 4) 3715 then some (mh h S (110 + 6) (Int32.toNatClampNeg ((nI 68 + nI 13 * nI b) + nI 4)), mh h S) else none) = _
  rw [if_pos e1, e2, mh_r]
theorem m_of_5 (h : Hp) (S : Nat → Int32) {b : Nat} (hb : b < 16) : p_X10_of (mh h S) 110 (nI b) 5 = some (S (68 + 13 * b + 5), mh h S) := by
  obtain ⟨e1, e2⟩ := ixL (lin3 68 13 b 5) (by omega)
  show (if ib ((nI 68 + nI 13 * nI b) + nI 5) 3715 then some (mh h S (110 + 6) (Int32.toNatClampNeg ((nI 68 + nI 13 * nI b) + nI 5)), mh h S) else none) = _
  rw [if_pos e1, e2, mh_r]
theorem m_of_6 (h : Hp) (S : Nat → Int32) {b : Nat} (hb : b < 16) : p_X10_of (mh h S) 110 (nI b) 6 = some (S (68 + 13 * b + 6), mh h S) := by
  obtain ⟨e1, e2⟩ := ixL (lin3 68 13 b 6) (by omega)
  show (if ib ((nI 68 + nI 13 * nI b) + nI 6) 3715 then some (mh h S (110 + 6) (Int32.toNatClampNeg ((nI 68 + nI 13 * nI b) + nI 6)), mh h S) else none) = _
  rw [if_pos e1, e2, mh_r]
theorem m_of_7 (h : Hp) (S : Nat → Int32) {b : Nat} (hb : b < 16) : p_X10_of (mh h S) 110 (nI b) 7 = some (S (68 + 13 * b + 7), mh h S) := by
  obtain ⟨e1, e2⟩ := ixL (lin3 68 13 b 7) (by omega)
  show (if ib ((nI 68 + nI 13 * nI b) + nI 7) 3715 then some (mh h S (110 + 6) (Int32.toNatClampNeg ((nI 68 + nI 13 * nI b) + nI 7)), mh h S) else none) = _
  rw [if_pos e1, e2, mh_r]
theorem m_of_8 (h : Hp) (S : Nat → Int32) {b : Nat} (hb : b < 16) : p_X10_of (mh h S) 110 (nI b) 8 = some (S (68 + 13 * b + 8), mh h S) := by
  obtain ⟨e1, e2⟩ := ixL (lin3 68 13 b 8) (by omega)
  show (if ib ((nI 68 + nI 13 * nI b) + nI 8) 3715 then some (mh h S (110 + 6) (Int32.toNatClampNeg ((nI 68 + nI 13 * nI b) + nI 8)), mh h S) else none) = _
  rw [if_pos e1, e2, mh_r]
theorem m_of_9 (h : Hp) (S : Nat → Int32) {b : Nat} (hb : b < 16) : p_X10_of (mh h S) 110 (nI b) 9 = some (S (68 + 13 * b + 9), mh h S) := by
  obtain ⟨e1, e2⟩ := ixL (lin3 68 13 b 9) (by omega)
  show (if ib ((nI 68 + nI 13 * nI b) + nI 9) 3715 then some (mh h S (110 + 6) (Int32.toNatClampNeg ((nI 68 + nI 13 * nI b) + nI 9)), mh h S) else none) = _
  rw [if_pos e1, e2, mh_r]
theorem m_of_10 (h : Hp) (S : Nat → Int32) {b : Nat} (hb : b < 16) : p_X10_of (mh h S) 110 (nI b) 10 = some (S (68 + 13 * b + 10), mh h S) := by
  obtain ⟨e1, e2⟩ := ixL (lin3 68 13 b 10) (by omega)
  show (if ib ((nI 68 + nI 13 * nI b) + nI 10) 3715 then some (mh h S (110 + 6) (Int32.toNatClampNeg ((nI 68 + nI 13 * nI b) + nI 10)), mh h S) else none) = _
  rw [if_pos e1, e2, mh_r]
theorem m_of_11 (h : Hp) (S : Nat → Int32) {b : Nat} (hb : b < 16) : p_X10_of (mh h S) 110 (nI b) 11 = some (S (68 + 13 * b + 11), mh h S) := by
  obtain ⟨e1, e2⟩ := ixL (lin3 68 13 b 11) (by omega)
  show (if ib ((nI 68 + nI 13 * nI b) + nI 11) 3715 then some (mh h S (110 + 6) (Int32.toNatClampNeg ((nI 68 + nI 13 * nI b) + nI 11)), mh h S) else none) = _
  rw [if_pos e1, e2, mh_r]
theorem m_of_12 (h : Hp) (S : Nat → Int32) {b : Nat} (hb : b < 16) : p_X10_of (mh h S) 110 (nI b) 12 = some (S (68 + 13 * b + 12), mh h S) := by
  obtain ⟨e1, e2⟩ := ixL (lin3 68 13 b 12) (by omega)
  show (if ib ((nI 68 + nI 13 * nI b) + nI 12) 3715 then some (mh h S (110 + 6) (Int32.toNatClampNeg ((nI 68 + nI 13 * nI b) + nI 12)), mh h S) else none) = _
  rw [if_pos e1, e2, mh_r]
theorem m_frameOf_0 (h : Hp) (S : Nat → Int32) {b : Nat} (hb : b < 200) : p_X10_frameOf (mh h S) 110 (nI b) 0 = some (S (276 + 12 * b + 0), mh h S) := by
  obtain ⟨e1, e2⟩ := ixL (lin3 276 12 b 0) (by omega)
  show (if ib ((nI 276 + nI 12 * nI b) + nI 0) 3715 then some (mh h S (110 + 6) (Int32.toNatClampNeg ((nI 276 + nI 12 * nI b) + nI 0)), mh h S) else none) = _
  rw [if_pos e1, e2, mh_r]
theorem m_frameOf_1 (h : Hp) (S : Nat → Int32) {b : Nat} (hb : b < 200) : p_X10_frameOf (mh h S) 110 (nI b) 1 = some (S (276 + 12 * b + 1), mh h S) := by
  obtain ⟨e1, e2⟩ := ixL (lin3 276 12 b 1) (by omega)
  show (if ib ((nI 276 + nI 12 * nI b) + nI 1) 3715 then some (mh h S (110 + 6) (Int32.toNatClampNeg ((nI 276 + nI 12 * nI b) + nI 1)), mh h S) else none) = _
  rw [if_pos e1, e2, mh_r]
theorem m_frameOf_2 (h : Hp) (S : Nat → Int32) {b : Nat} (hb : b < 200) : p_X10_frameOf (mh h S) 110 (nI b) 2 = some (S (276 + 12 * b + 2), mh h S) := by
  obtain ⟨e1, e2⟩ := ixL (lin3 276 12 b 2) (by omega)
  show (if ib ((nI 276 + nI 12 * nI b) + nI 2) 3715 then some (mh h S (110 + 6) (Int32.toNatClampNeg ((nI 276 + nI 12 * nI b) + nI 2)), mh h S) else none) = _
  rw [if_pos e1, e2, mh_r]
theorem m_frameOf_3 (h : Hp) (S : Nat → Int32) {b : Nat} (hb : b < 200) : p_X10_frameOf (mh h S) 110 (nI b) 3 = some (S (276 + 12 * b + 3), mh h S) := by
  obtain ⟨e1, e2⟩ := ixL (lin3 276 12 b 3) (by omega)
  show (if ib ((nI 276 + nI 12 * nI b) + nI 3) 3715 then some (mh h S (110 + 6) (Int32.toNatClampNeg ((nI 276 + nI 12 * nI b) + nI 3)), mh h S) else none) = _
  rw [if_pos e1, e2, mh_r]
theorem m_frameOf_4 (h : Hp) (S : Nat → Int32) {b : Nat} (hb : b < 200) : p_X10_frameOf (mh h S) 110 (nI b) 4 = some (S (276 + 12 * b + 4), mh h S) := by
  obtain ⟨e1, e2⟩ := ixL (lin3 276 12 b 4) (by omega)
  show (if ib ((nI 276 + nI 12 * nI b) + nI 4) 3715 then some (mh h S (110 + 6) (Int32.toNatClampNeg ((nI 276 + nI 12 * nI b) + nI 4)), mh h S) else none) = _
  rw [if_pos e1, e2, mh_r]
theorem m_frameOf_5 (h : Hp) (S : Nat → Int32) {b : Nat} (hb : b < 200) : p_X10_frameOf (mh h S) 110 (nI b) 5 = some (S (276 + 12 * b + 5), mh h S) := by
  obtain ⟨e1, e2⟩ := ixL (lin3 276 12 b 5) (by omega)
  show (if ib ((nI 276 + nI 12 * nI b) + nI 5) 3715 then some (mh h S (110 + 6) (Int32.toNatClampNeg ((nI 276 + nI 12 * nI b) + nI 5)), mh h S) else none) = _
  rw [if_pos e1, e2, mh_r]
theorem m_frameOf_6 (h : Hp) (S : Nat → Int32) {b : Nat} (hb : b < 200) : p_X10_frameOf (mh h S) 110 (nI b) 6 = some (S (276 + 12 * b + 6), mh h S) := by
  obtain ⟨e1, e2⟩ := ixL (lin3 276 12 b 6) (by omega)
  show (if ib ((nI 276 + nI 12 * nI b) + nI 6) 3715 then some (mh h S (110 + 6) (Int32.toNatClampNeg ((nI 276 + nI 12 * nI b) + nI 6)), mh h S) else none) = _
  rw [if_pos e1, e2, mh_r]
theorem m_frameOf_7 (h : Hp) (S : Nat → Int32) {b : Nat} (hb : b < 200) : p_X10_frameOf (mh h S) 110 (nI b) 7 = some (S (276 + 12 * b + 7), mh h S) := by
  obtain ⟨e1, e2⟩ := ixL (lin3 276 12 b 7) (by omega)
  show (if ib ((nI 276 + nI 12 * nI b) + nI 7) 3715 then some (mh h S (110 + 6) (Int32.toNatClampNeg ((nI 276 + nI 12 * nI b) + nI 7)), mh h S) else none) = _
  rw [if_pos e1, e2, mh_r]
theorem m_frameOf_8 (h : Hp) (S : Nat → Int32) {b : Nat} (hb : b < 200) : p_X10_frameOf (mh h S) 110 (nI b) 8 = some (S (276 + 12 * b + 8), mh h S) := by
  obtain ⟨e1, e2⟩ := ixL (lin3 276 12 b 8) (by omega)
  show (if ib ((nI 276 + nI 12 * nI b) + nI 8) 3715 then some (mh h S (110 + 6) (Int32.toNatClampNeg ((nI 276 + nI 12 * nI b) + nI 8)), mh h S) else none) = _
  rw [if_pos e1, e2, mh_r]
theorem m_frameOf_9 (h : Hp) (S : Nat → Int32) {b : Nat} (hb : b < 200) : p_X10_frameOf (mh h S) 110 (nI b) 9 = some (S (276 + 12 * b + 9), mh h S) := by
  obtain ⟨e1, e2⟩ := ixL (lin3 276 12 b 9) (by omega)
  show (if ib ((nI 276 + nI 12 * nI b) + nI 9) 3715 then some (mh h S (110 + 6) (Int32.toNatClampNeg ((nI 276 + nI 12 * nI b) + nI 9)), mh h S) else none) = _
  rw [if_pos e1, e2, mh_r]
theorem m_frameOf_10 (h : Hp) (S : Nat → Int32) {b : Nat} (hb : b < 200) : p_X10_frameOf (mh h S) 110 (nI b) 10 = some (S (276 + 12 * b + 10), mh h S) := by
  obtain ⟨e1, e2⟩ := ixL (lin3 276 12 b 10) (by omega)
  show (if ib ((nI 276 + nI 12 * nI b) + nI 10) 3715 then some (mh h S (110 + 6) (Int32.toNatClampNeg ((nI 276 + nI 12 * nI b) + nI 10)), mh h S) else none) = _
  rw [if_pos e1, e2, mh_r]
theorem m_frameOf_11 (h : Hp) (S : Nat → Int32) {b : Nat} (hb : b < 200) : p_X10_frameOf (mh h S) 110 (nI b) 11 = some (S (276 + 12 * b + 11), mh h S) := by
  obtain ⟨e1, e2⟩ := ixL (lin3 276 12 b 11) (by omega)
  show (if ib ((nI 276 + nI 12 * nI b) + nI 11) 3715 then some (mh h S (110 + 6) (Int32.toNatClampNeg ((nI 276 + nI 12 * nI b) + nI 11)), mh h S) else none) = _
  rw [if_pos e1, e2, mh_r]
theorem m_senderOf_0 (h : Hp) (S : Nat → Int32) {b : Nat} (hb : b < 4) : p_X10_senderOf (mh h S) 110 (nI b) 0 = some (S (3478 + 9 * b + 0), mh h S) := by
  obtain ⟨e1, e2⟩ := ixL (lin3 3478 9 b 0) (by omega)
  show (if ib ((nI 3478 + nI 9 * nI b) + nI 0) 3715 then some (mh h S (110 + 6) (Int32.toNatClampNeg ((nI 3478 + nI 9 * nI b) + nI 0)), mh h S) else none) = _
  rw [if_pos e1, e2, mh_r]
theorem m_senderOf_1 (h : Hp) (S : Nat → Int32) {b : Nat} (hb : b < 4) : p_X10_senderOf (mh h S) 110 (nI b) 1 = some (S (3478 + 9 * b + 1), mh h S) := by
  obtain ⟨e1, e2⟩ := ixL (lin3 3478 9 b 1) (by omega)
  show (if ib ((nI 3478 + nI 9 * nI b) + nI 1) 3715 then some (mh h S (110 + 6) (Int32.toNatClampNeg ((nI 3478 + nI 9 * nI b) + nI 1)), mh h S) else none) = _
  rw [if_pos e1, e2, mh_r]
theorem m_senderOf_2 (h : Hp) (S : Nat → Int32) {b : Nat} (hb : b < 4) : p_X10_senderOf (mh h S) 110 (nI b) 2 = some (S (3478 + 9 * b + 2), mh h S) := by
  obtain ⟨e1, e2⟩ := ixL (lin3 3478 9 b 2) (by omega)
  show (if ib ((nI 3478 + nI 9 * nI b) + nI 2) 3715 then some (mh h S (110 + 6) (Int32.toNatClampNeg ((nI 3478 + nI 9 * nI b) + nI 2)), mh h S) else none) = _
  rw [if_pos e1, e2, mh_r]
theorem m_senderOf_3 (h : Hp) (S : Nat → Int32) {b : Nat} (hb : b < 4) : p_X10_senderOf (mh h S) 110 (nI b) 3 = some (S (3478 + 9 * b + 3), mh h S) := by
  obtain ⟨e1, e2⟩ := ixL (lin3 3478 9 b 3) (by omega)
  show (if ib ((nI 3478 + nI 9 * nI b) + nI 3) 3715 then some (mh h S (110 + 6) (Int32.toNatClampNeg ((nI 3478 + nI 9 * nI b) + nI 3)), mh h S) else none) = _
  rw [if_pos e1, e2, mh_r]
theorem m_senderOf_4 (h : Hp) (S : Nat → Int32) {b : Nat} (hb : b < 4) : p_X10_senderOf (mh h S) 110 (nI b) 4 = some (S (3478 + 9 * b + 4), mh h S) := by
  obtain ⟨e1, e2⟩ := ixL (lin3 3478 9 b 4) (by omega)
  show (if ib ((nI 3478 + nI 9 * nI b) + nI 4) 3715 then some (mh h S (110 + 6) (Int32.toNatClampNeg ((nI 3478 + nI 9 * nI b) + nI 4)), mh h S) else none) = _
  rw [if_pos e1, e2, mh_r]
theorem m_senderOf_5 (h : Hp) (S : Nat → Int32) {b : Nat} (hb : b < 4) : p_X10_senderOf (mh h S) 110 (nI b) 5 = some (S (3478 + 9 * b + 5), mh h S) := by
  obtain ⟨e1, e2⟩ := ixL (lin3 3478 9 b 5) (by omega)
  show (if ib ((nI 3478 + nI 9 * nI b) + nI 5) 3715 then some (mh h S (110 + 6) (Int32.toNatClampNeg ((nI 3478 + nI 9 * nI b) + nI 5)), mh h S) else none) = _
  rw [if_pos e1, e2, mh_r]
theorem m_senderOf_6 (h : Hp) (S : Nat → Int32) {b : Nat} (hb : b < 4) : p_X10_senderOf (mh h S) 110 (nI b) 6 = some (S (3478 + 9 * b + 6), mh h S) := by
  obtain ⟨e1, e2⟩ := ixL (lin3 3478 9 b 6) (by omega)
  show (if ib ((nI 3478 + nI 9 * nI b) + nI 6) 3715 then some (mh h S (110 + 6) (Int32.toNatClampNeg ((nI 3478 + nI 9 * nI b) + nI 6)), mh h S) else none) = _
  rw [if_pos e1, e2, mh_r]
theorem m_senderOf_7 (h : Hp) (S : Nat → Int32) {b : Nat} (hb : b < 4) : p_X10_senderOf (mh h S) 110 (nI b) 7 = some (S (3478 + 9 * b + 7), mh h S) := by
  obtain ⟨e1, e2⟩ := ixL (lin3 3478 9 b 7) (by omega)
  show (if ib ((nI 3478 + nI 9 * nI b) + nI 7) 3715 then some (mh h S (110 + 6) (Int32.toNatClampNeg ((nI 3478 + nI 9 * nI b) + nI 7)), mh h S) else none) = _
  rw [if_pos e1, e2, mh_r]
theorem m_senderOf_8 (h : Hp) (S : Nat → Int32) {b : Nat} (hb : b < 4) : p_X10_senderOf (mh h S) 110 (nI b) 8 = some (S (3478 + 9 * b + 8), mh h S) := by
  obtain ⟨e1, e2⟩ := ixL (lin3 3478 9 b 8) (by omega)
  show (if ib ((nI 3478 + nI 9 * nI b) + nI 8) 3715 then some (mh h S (110 + 6) (Int32.toNatClampNeg ((nI 3478 + nI 9 * nI b) + nI 8)), mh h S) else none) = _
  rw [if_pos e1, e2, mh_r]
theorem m_puts_0 (h : Hp) (S : Nat → Int32) {b : Nat} (v : Int32) (hb : b < 16) : p_X10_puts (mh h S) 110 (nI b) 0 v = some (mh h (upd S (68 + 13 * b + 0) v)) := by
  obtain ⟨e1, e2⟩ := ixL (lin3 68 13 b 0) (by omega)
  show (if ib ((nI 68 + nI 13 * nI b) + nI 0) 3715 then some (hp (mh h S) (110 + 6) (Int32.toNatClampNeg ((nI 68 + nI 13 * nI b) + nI 0)) v) else none) = _
  rw [if_pos e1, e2, mh_hp]
theorem m_puts_1 (h : Hp) (S : Nat → Int32) {b : Nat} (v : Int32) (hb : b < 16) : p_X10_puts (mh h S) 110 (nI b) 1 v = some (mh h (upd S (68 + 13 * b + 1) v)) := by
  obtain ⟨e1, e2⟩ := ixL (lin3 68 13 b 1) (by omega)
  show (if ib ((nI 68 + nI 13 * nI b) + nI 1) 3715 then some (hp (mh h S) (110 + 6) (Int32.toNatClampNeg ((nI 68 + nI 13 * nI b) + nI 1)) v) else none) = _
  rw [if_pos e1, e2, mh_hp]
theorem m_puts_2 (h : Hp) (S : Nat → Int32) {b : Nat} (v : Int32) (hb : b < 16) : p_X10_puts (mh h S) 110 (nI b) 2 v = some (mh h (upd S (68 + 13 * b + 2) v)) := by
  obtain ⟨e1, e2⟩ := ixL (lin3 68 13 b 2) (by omega)
  show (if ib ((nI 68 + nI 13 * nI b) + nI 2) 3715 then some (hp (mh h S) (110 + 6) (Int32.toNatClampNeg ((nI 68 + nI 13 * nI b) + nI 2)) v) else none) = _
  rw [if_pos e1, e2, mh_hp]
theorem m_puts_3 (h : Hp) (S : Nat → Int32) {b : Nat} (v : Int32) (hb : b < 16) : p_X10_puts (mh h S) 110 (nI b) 3 v = some (mh h (upd S (68 + 13 * b + 3) v)) := by
  obtain ⟨e1, e2⟩ := ixL (lin3 68 13 b 3) (by omega)
  show (if ib ((nI 68 + nI 13 * nI b) + nI 3) 3715 then some (hp (mh h S) (110 + 6) (Int32.toNatClampNeg ((nI 68 + nI 13 * nI b) + nI 3)) v) else none) = _
  rw [if_pos e1, e2, mh_hp]
theorem m_puts_4 (h : Hp) (S : Nat → Int32) {b : Nat} (v : Int32) (hb : b < 16) : p_X10_puts (mh h S) 110 (nI b) 4 v = some (mh h (upd S (68 + 13 * b + 4) v)) := by
  obtain ⟨e1, e2⟩ := ixL (lin3 68 13 b 4) (by omega)
  show (if ib ((nI 68 + nI 13 * nI b) + nI 4) 3715 then some (hp (mh h S) (110 + 6) (Int32.toNatClampNeg ((nI 68 + nI 13 * nI b) + nI 4)) v) else none) = _
  rw [if_pos e1, e2, mh_hp]
theorem m_puts_5 (h : Hp) (S : Nat → Int32) {b : Nat} (v : Int32) (hb : b < 16) : p_X10_puts (mh h S) 110 (nI b) 5 v = some (mh h (upd S (68 + 13 * b + 5) v)) := by
  obtain ⟨e1, e2⟩ := ixL (lin3 68 13 b 5) (by omega)
  show (if ib ((nI 68 + nI 13 * nI b) + nI 5) 3715 then some (hp (mh h S) (110 + 6) (Int32.toNatClampNeg ((nI 68 + nI 13 * nI b) + nI 5)) v) else none) = _
  rw [if_pos e1, e2, mh_hp]
theorem m_puts_6 (h : Hp) (S : Nat → Int32) {b : Nat} (v : Int32) (hb : b < 16) : p_X10_puts (mh h S) 110 (nI b) 6 v = some (mh h (upd S (68 + 13 * b + 6) v)) := by
  obtain ⟨e1, e2⟩ := ixL (lin3 68 13 b 6) (by omega)
  show (if ib ((nI 68 + nI 13 * nI b) + nI 6) 3715 then some (hp (mh h S) (110 + 6) (Int32.toNatClampNeg ((nI 68 + nI 13 * nI b) + nI 6)) v) else none) = _
  rw [if_pos e1, e2, mh_hp]
theorem m_puts_7 (h : Hp) (S : Nat → Int32) {b : Nat} (v : Int32) (hb : b < 16) : p_X10_puts (mh h S) 110 (nI b) 7 v = some (mh h (upd S (68 + 13 * b + 7) v)) := by
  obtain ⟨e1, e2⟩ := ixL (lin3 68 13 b 7) (by omega)
  show (if ib ((nI 68 + nI 13 * nI b) + nI 7) 3715 then some (hp (mh h S) (110 + 6) (Int32.toNatClampNeg ((nI 68 + nI 13 * nI b) + nI 7)) v) else none) = _
  rw [if_pos e1, e2, mh_hp]
theorem m_puts_8 (h : Hp) (S : Nat → Int32) {b : Nat} (v : Int32) (hb : b < 16) : p_X10_puts (mh h S) 110 (nI b) 8 v = some (mh h (upd S (68 + 13 * b + 8) v)) := by
  obtain ⟨e1, e2⟩ := ixL (lin3 68 13 b 8) (by omega)
  show (if ib ((nI 68 + nI 13 * nI b) + nI 8) 3715 then some (hp (mh h S) (110 + 6) (Int32.toNatClampNeg ((nI 68 + nI 13 * nI b) + nI 8)) v) else none) = _
  rw [if_pos e1, e2, mh_hp]
theorem m_puts_9 (h : Hp) (S : Nat → Int32) {b : Nat} (v : Int32) (hb : b < 16) : p_X10_puts (mh h S) 110 (nI b) 9 v = some (mh h (upd S (68 + 13 * b + 9) v)) := by
  obtain ⟨e1, e2⟩ := ixL (lin3 68 13 b 9) (by omega)
  show (if ib ((nI 68 + nI 13 * nI b) + nI 9) 3715 then some (hp (mh h S) (110 + 6) (Int32.toNatClampNeg ((nI 68 + nI 13 * nI b) + nI 9)) v) else none) = _
  rw [if_pos e1, e2, mh_hp]
theorem m_puts_10 (h : Hp) (S : Nat → Int32) {b : Nat} (v : Int32) (hb : b < 16) : p_X10_puts (mh h S) 110 (nI b) 10 v = some (mh h (upd S (68 + 13 * b + 10) v)) := by
  obtain ⟨e1, e2⟩ := ixL (lin3 68 13 b 10) (by omega)
  show (if ib ((nI 68 + nI 13 * nI b) + nI 10) 3715 then some (hp (mh h S) (110 + 6) (Int32.toNatClampNeg ((nI 68 + nI 13 * nI b) + nI 10)) v) else none) = _
  rw [if_pos e1, e2, mh_hp]
theorem m_puts_11 (h : Hp) (S : Nat → Int32) {b : Nat} (v : Int32) (hb : b < 16) : p_X10_puts (mh h S) 110 (nI b) 11 v = some (mh h (upd S (68 + 13 * b + 11) v)) := by
  obtain ⟨e1, e2⟩ := ixL (lin3 68 13 b 11) (by omega)
  show (if ib ((nI 68 + nI 13 * nI b) + nI 11) 3715 then some (hp (mh h S) (110 + 6) (Int32.toNatClampNeg ((nI 68 + nI 13 * nI b) + nI 11)) v) else none) = _
  rw [if_pos e1, e2, mh_hp]
theorem m_puts_12 (h : Hp) (S : Nat → Int32) {b : Nat} (v : Int32) (hb : b < 16) : p_X10_puts (mh h S) 110 (nI b) 12 v = some (mh h (upd S (68 + 13 * b + 12) v)) := by
  obtain ⟨e1, e2⟩ := ixL (lin3 68 13 b 12) (by omega)
  show (if ib ((nI 68 + nI 13 * nI b) + nI 12) 3715 then some (hp (mh h S) (110 + 6) (Int32.toNatClampNeg ((nI 68 + nI 13 * nI b) + nI 12)) v) else none) = _
  rw [if_pos e1, e2, mh_hp]
theorem m_frames_0 (h : Hp) (S : Nat → Int32) {b : Nat} (v : Int32) (hb : b < 200) : p_X10_frames (mh h S) 110 (nI b) 0 v = some (mh h (upd S (276 + 12 * b + 0) v)) := by
  obtain ⟨e1, e2⟩ := ixL (lin3 276 12 b 0) (by omega)
  show (if ib ((nI 276 + nI 12 * nI b) + nI 0) 3715 then some (hp (mh h S) (110 + 6) (Int32.toNatClampNeg ((nI 276 + nI 12 * nI b) + nI 0)) v) else none) = _
  rw [if_pos e1, e2, mh_hp]
theorem m_frames_1 (h : Hp) (S : Nat → Int32) {b : Nat} (v : Int32) (hb : b < 200) : p_X10_frames (mh h S) 110 (nI b) 1 v = some (mh h (upd S (276 + 12 * b + 1) v)) := by
  obtain ⟨e1, e2⟩ := ixL (lin3 276 12 b 1) (by omega)
  show (if ib ((nI 276 + nI 12 * nI b) + nI 1) 3715 then some (hp (mh h S) (110 + 6) (Int32.toNatClampNeg ((nI 276 + nI 12 * nI b) + nI 1)) v) else none) = _
  rw [if_pos e1, e2, mh_hp]
theorem m_frames_2 (h : Hp) (S : Nat → Int32) {b : Nat} (v : Int32) (hb : b < 200) : p_X10_frames (mh h S) 110 (nI b) 2 v = some (mh h (upd S (276 + 12 * b + 2) v)) := by
  obtain ⟨e1, e2⟩ := ixL (lin3 276 12 b 2) (by omega)
  show (if ib ((nI 276 + nI 12 * nI b) + nI 2) 3715 then some (hp (mh h S) (110 + 6) (Int32.toNatClampNeg ((nI 276 + nI 12 * nI b) + nI 2)) v) else none) = _
  rw [if_pos e1, e2, mh_hp]
theorem m_frames_3 (h : Hp) (S : Nat → Int32) {b : Nat} (v : Int32) (hb : b < 200) : p_X10_frames (mh h S) 110 (nI b) 3 v = some (mh h (upd S (276 + 12 * b + 3) v)) := by
  obtain ⟨e1, e2⟩ := ixL (lin3 276 12 b 3) (by omega)
  show (if ib ((nI 276 + nI 12 * nI b) + nI 3) 3715 then some (hp (mh h S) (110 + 6) (Int32.toNatClampNeg ((nI 276 + nI 12 * nI b) + nI 3)) v) else none) = _
  rw [if_pos e1, e2, mh_hp]
theorem m_frames_4 (h : Hp) (S : Nat → Int32) {b : Nat} (v : Int32) (hb : b < 200) : p_X10_frames (mh h S) 110 (nI b) 4 v = some (mh h (upd S (276 + 12 * b + 4) v)) := by
  obtain ⟨e1, e2⟩ := ixL (lin3 276 12 b 4) (by omega)
  show (if ib ((nI 276 + nI 12 * nI b) + nI 4) 3715 then some (hp (mh h S) (110 + 6) (Int32.toNatClampNeg ((nI 276 + nI 12 * nI b) + nI 4)) v) else none) = _
  rw [if_pos e1, e2, mh_hp]
theorem m_frames_5 (h : Hp) (S : Nat → Int32) {b : Nat} (v : Int32) (hb : b < 200) : p_X10_frames (mh h S) 110 (nI b) 5 v = some (mh h (upd S (276 + 12 * b + 5) v)) := by
  obtain ⟨e1, e2⟩ := ixL (lin3 276 12 b 5) (by omega)
  show (if ib ((nI 276 + nI 12 * nI b) + nI 5) 3715 then some (hp (mh h S) (110 + 6) (Int32.toNatClampNeg ((nI 276 + nI 12 * nI b) + nI 5)) v) else none) = _
  rw [if_pos e1, e2, mh_hp]
theorem m_frames_6 (h : Hp) (S : Nat → Int32) {b : Nat} (v : Int32) (hb : b < 200) : p_X10_frames (mh h S) 110 (nI b) 6 v = some (mh h (upd S (276 + 12 * b + 6) v)) := by
  obtain ⟨e1, e2⟩ := ixL (lin3 276 12 b 6) (by omega)
  show (if ib ((nI 276 + nI 12 * nI b) + nI 6) 3715 then some (hp (mh h S) (110 + 6) (Int32.toNatClampNeg ((nI 276 + nI 12 * nI b) + nI 6)) v) else none) = _
  rw [if_pos e1, e2, mh_hp]
theorem m_frames_7 (h : Hp) (S : Nat → Int32) {b : Nat} (v : Int32) (hb : b < 200) : p_X10_frames (mh h S) 110 (nI b) 7 v = some (mh h (upd S (276 + 12 * b + 7) v)) := by
  obtain ⟨e1, e2⟩ := ixL (lin3 276 12 b 7) (by omega)
  show (if ib ((nI 276 + nI 12 * nI b) + nI 7) 3715 then some (hp (mh h S) (110 + 6) (Int32.toNatClampNeg ((nI 276 + nI 12 * nI b) + nI 7)) v) else none) = _
  rw [if_pos e1, e2, mh_hp]
theorem m_frames_8 (h : Hp) (S : Nat → Int32) {b : Nat} (v : Int32) (hb : b < 200) : p_X10_frames (mh h S) 110 (nI b) 8 v = some (mh h (upd S (276 + 12 * b + 8) v)) := by
  obtain ⟨e1, e2⟩ := ixL (lin3 276 12 b 8) (by omega)
  show (if ib ((nI 276 + nI 12 * nI b) + nI 8) 3715 then some (hp (mh h S) (110 + 6) (Int32.toNatClampNeg ((nI 276 + nI 12 * nI b) + nI 8)) v) else none) = _
  rw [if_pos e1, e2, mh_hp]
theorem m_frames_9 (h : Hp) (S : Nat → Int32) {b : Nat} (v : Int32) (hb : b < 200) : p_X10_frames (mh h S) 110 (nI b) 9 v = some (mh h (upd S (276 + 12 * b + 9) v)) := by
  obtain ⟨e1, e2⟩ := ixL (lin3 276 12 b 9) (by omega)
  show (if ib ((nI 276 + nI 12 * nI b) + nI 9) 3715 then some (hp (mh h S) (110 + 6) (Int32.toNatClampNeg ((nI 276 + nI 12 * nI b) + nI 9)) v) else none) = _
  rw [if_pos e1, e2, mh_hp]
theorem m_frames_10 (h : Hp) (S : Nat → Int32) {b : Nat} (v : Int32) (hb : b < 200) : p_X10_frames (mh h S) 110 (nI b) 10 v = some (mh h (upd S (276 + 12 * b + 10) v)) := by
  obtain ⟨e1, e2⟩ := ixL (lin3 276 12 b 10) (by omega)
  show (if ib ((nI 276 + nI 12 * nI b) + nI 10) 3715 then some (hp (mh h S) (110 + 6) (Int32.toNatClampNeg ((nI 276 + nI 12 * nI b) + nI 10)) v) else none) = _
  rw [if_pos e1, e2, mh_hp]
theorem m_frames_11 (h : Hp) (S : Nat → Int32) {b : Nat} (v : Int32) (hb : b < 200) : p_X10_frames (mh h S) 110 (nI b) 11 v = some (mh h (upd S (276 + 12 * b + 11) v)) := by
  obtain ⟨e1, e2⟩ := ixL (lin3 276 12 b 11) (by omega)
  show (if ib ((nI 276 + nI 12 * nI b) + nI 11) 3715 then some (hp (mh h S) (110 + 6) (Int32.toNatClampNeg ((nI 276 + nI 12 * nI b) + nI 11)) v) else none) = _
  rw [if_pos e1, e2, mh_hp]
theorem m_sends0_0 (h : Hp) (S : Nat → Int32) {b : Nat} (v : Int32) (hb : b < 4) : p_X10_sends0 (mh h S) 110 (nI b) 0 v = some (mh h (upd S (3478 + 9 * b + 0) v)) := by
  obtain ⟨e1, e2⟩ := ixL (lin3 3478 9 b 0) (by omega)
  show (if ib ((nI 3478 + nI 9 * nI b) + nI 0) 3715 then some (hp (mh h S) (110 + 6) (Int32.toNatClampNeg ((nI 3478 + nI 9 * nI b) + nI 0)) v) else none) = _
  rw [if_pos e1, e2, mh_hp]
theorem m_sends0_1 (h : Hp) (S : Nat → Int32) {b : Nat} (v : Int32) (hb : b < 4) : p_X10_sends0 (mh h S) 110 (nI b) 1 v = some (mh h (upd S (3478 + 9 * b + 1) v)) := by
  obtain ⟨e1, e2⟩ := ixL (lin3 3478 9 b 1) (by omega)
  show (if ib ((nI 3478 + nI 9 * nI b) + nI 1) 3715 then some (hp (mh h S) (110 + 6) (Int32.toNatClampNeg ((nI 3478 + nI 9 * nI b) + nI 1)) v) else none) = _
  rw [if_pos e1, e2, mh_hp]
theorem m_sends0_2 (h : Hp) (S : Nat → Int32) {b : Nat} (v : Int32) (hb : b < 4) : p_X10_sends0 (mh h S) 110 (nI b) 2 v = some (mh h (upd S (3478 + 9 * b + 2) v)) := by
  obtain ⟨e1, e2⟩ := ixL (lin3 3478 9 b 2) (by omega)
  show (if ib ((nI 3478 + nI 9 * nI b) + nI 2) 3715 then some (hp (mh h S) (110 + 6) (Int32.toNatClampNeg ((nI 3478 + nI 9 * nI b) + nI 2)) v) else none) = _
  rw [if_pos e1, e2, mh_hp]
theorem m_sends0_3 (h : Hp) (S : Nat → Int32) {b : Nat} (v : Int32) (hb : b < 4) : p_X10_sends0 (mh h S) 110 (nI b) 3 v = some (mh h (upd S (3478 + 9 * b + 3) v)) := by
  obtain ⟨e1, e2⟩ := ixL (lin3 3478 9 b 3) (by omega)
  show (if ib ((nI 3478 + nI 9 * nI b) + nI 3) 3715 then some (hp (mh h S) (110 + 6) (Int32.toNatClampNeg ((nI 3478 + nI 9 * nI b) + nI 3)) v) else none) = _
  rw [if_pos e1, e2, mh_hp]
theorem m_sends0_4 (h : Hp) (S : Nat → Int32) {b : Nat} (v : Int32) (hb : b < 4) : p_X10_sends0 (mh h S) 110 (nI b) 4 v = some (mh h (upd S (3478 + 9 * b + 4) v)) := by
  obtain ⟨e1, e2⟩ := ixL (lin3 3478 9 b 4) (by omega)
  show (if ib ((nI 3478 + nI 9 * nI b) + nI 4) 3715 then some (hp (mh h S) (110 + 6) (Int32.toNatClampNeg ((nI 3478 + nI 9 * nI b) + nI 4)) v) else none) = _
  rw [if_pos e1, e2, mh_hp]
theorem m_sends0_5 (h : Hp) (S : Nat → Int32) {b : Nat} (v : Int32) (hb : b < 4) : p_X10_sends0 (mh h S) 110 (nI b) 5 v = some (mh h (upd S (3478 + 9 * b + 5) v)) := by
  obtain ⟨e1, e2⟩ := ixL (lin3 3478 9 b 5) (by omega)
  show (if ib ((nI 3478 + nI 9 * nI b) + nI 5) 3715 then some (hp (mh h S) (110 + 6) (Int32.toNatClampNeg ((nI 3478 + nI 9 * nI b) + nI 5)) v) else none) = _
  rw [if_pos e1, e2, mh_hp]
theorem m_sends0_6 (h : Hp) (S : Nat → Int32) {b : Nat} (v : Int32) (hb : b < 4) : p_X10_sends0 (mh h S) 110 (nI b) 6 v = some (mh h (upd S (3478 + 9 * b + 6) v)) := by
  obtain ⟨e1, e2⟩ := ixL (lin3 3478 9 b 6) (by omega)
  show (if ib ((nI 3478 + nI 9 * nI b) + nI 6) 3715 then some (hp (mh h S) (110 + 6) (Int32.toNatClampNeg ((nI 3478 + nI 9 * nI b) + nI 6)) v) else none) = _
  rw [if_pos e1, e2, mh_hp]
theorem m_sends0_7 (h : Hp) (S : Nat → Int32) {b : Nat} (v : Int32) (hb : b < 4) : p_X10_sends0 (mh h S) 110 (nI b) 7 v = some (mh h (upd S (3478 + 9 * b + 7) v)) := by
  obtain ⟨e1, e2⟩ := ixL (lin3 3478 9 b 7) (by omega)
  show (if ib ((nI 3478 + nI 9 * nI b) + nI 7) 3715 then some (hp (mh h S) (110 + 6) (Int32.toNatClampNeg ((nI 3478 + nI 9 * nI b) + nI 7)) v) else none) = _
  rw [if_pos e1, e2, mh_hp]
theorem m_sends0_8 (h : Hp) (S : Nat → Int32) {b : Nat} (v : Int32) (hb : b < 4) : p_X10_sends0 (mh h S) 110 (nI b) 8 v = some (mh h (upd S (3478 + 9 * b + 8) v)) := by
  obtain ⟨e1, e2⟩ := ixL (lin3 3478 9 b 8) (by omega)
  show (if ib ((nI 3478 + nI 9 * nI b) + nI 8) 3715 then some (hp (mh h S) (110 + 6) (Int32.toNatClampNeg ((nI 3478 + nI 9 * nI b) + nI 8)) v) else none) = _
  rw [if_pos e1, e2, mh_hp]
theorem m_target (h : Hp) (S : Nat → Int32) : p_X10_target (mh h S) 110 = some (S 4, mh h S) := by
  show some (mh h S (110 + 6) 4, mh h S) = _
  rw [mh_r]
theorem m_interval (h : Hp) (S : Nat → Int32) : p_X10_interval (mh h S) 110 = some (S 5, mh h S) := by
  show some (mh h S (110 + 6) 5, mh h S) = _
  rw [mh_r]
theorem m_quantum (h : Hp) (S : Nat → Int32) : p_X10_quantum (mh h S) 110 = some (S 6, mh h S) := by
  show some (mh h S (110 + 6) 6, mh h S) = _
  rw [mh_r]
theorem m_buckets (h : Hp) (S : Nat → Int32) : p_X10_buckets (mh h S) 110 = some (S 10 * S 11, mh h S) := by
  show some (mh h S (110 + 6) 10 * mh h S (110 + 6) 11, mh h S) = _
  rw [mh_r]
/-- the list's number as the reference has it: 1 new, 2 old -/
theorem ix_many {l : Nat} (hl : l < 2) : ib ((12 + nI (l + 1)) - 1) 3715 ∧ Int32.toNatClampNeg ((12 + nI (l + 1)) - 1) = 12 + l := by
  have e : (12 + nI (l + 1)) - 1 = nI (12 + l) := by
    show (nI 12 + nI (l + 1)) - 1 = _
    rw [nI_add, ← Nat.add_assoc, nI_pred]
  rw [e]
  exact ⟨ib_n (by omega) (by omega), nI_clamp (by omega)⟩
theorem ix_list {l i : Nat} (hl : l < 2) (hi : i < 17) : ib ((18 + (16 * (nI (l + 1) - 1))) + nI i) 3715 ∧ Int32.toNatClampNeg ((18 + (16 * (nI (l + 1) - 1))) + nI i) = 18 + 16 * l + i := by
  have e : (18 + (16 * (nI (l + 1) - 1))) + nI i = nI (18 + 16 * l + i) := by
    rw [nI_pred]
    exact lin3 18 16 l i
  rw [e]
  exact ⟨ib_n (by omega) (by omega), nI_clamp (by omega)⟩
theorem m_manyIn (h : Hp) (S : Nat → Int32) {l : Nat} (hl : l < 2) : p_X10_manyIn (mh h S) 110 (nI (l + 1)) = some (S (12 + l), mh h S) := by
  obtain ⟨e1, e2⟩ := ix_many hl
  unfold p_X10_manyIn
  rw [if_pos e1, e2, mh_r]
theorem m_inList (h : Hp) (S : Nat → Int32) {l i : Nat} (hl : l < 2) (hi : i < 16) : p_X10_inList (mh h S) 110 (nI (l + 1)) (nI i) = some (S (18 + 16 * l + i), mh h S) := by
  obtain ⟨e1, e2⟩ := ix_list hl (show i < 17 by omega)
  unfold p_X10_inList
  rw [if_pos e1, e2, mh_r]
/-- entering a list -/
def sEn (S : Nat → Int32) (b l n : Nat) : Nat → Int32 := upd (upd (upd S (18 + 16 * l + n) (nI b)) (12 + l) (S (12 + l) + 1)) (68 + 13 * b + 2) (nI (l + 1))
theorem m_enters (h : Hp) (S : Nat → Int32) {b l n : Nat} (hb : b < 16) (hl : l < 2) (hn : n < 16) (hc : S (12 + l) = nI n) : p_X10_enters (mh h S) 110 (nI b) (nI (l + 1)) = some (mh h (sEn S b l n)) := by
  obtain ⟨e1, e2⟩ := ix_many hl
  obtain ⟨e3, e4⟩ := ix_list hl (show n < 17 by omega)
  unfold p_X10_enters sEn
  rw [m_manyIn h S hl, Option.bind_some, hc, if_pos e3, e4, mh_hp, nv_eq, if_pos e1, if_pos e1, e2, mh_hp, mh_r, nv_eq]
  rw [upd_n _ _ (show 12 + l ≠ 18 + 16 * l + n by omega), hc]
  show Option.bind (p_X10_puts (mh h _) 110 (nI b) 2 (nI (l + 1))) _ = _
  rw [m_puts_2 h _ _ hb]
  rfl
def shf (S : Nat → Int32) (a i : Nat) : Nat → Int32 := fun j => if a ≤ j ∧ j < a + i then S (j + 1) else S j
theorem shf_0 (S : Nat → Int32) (a : Nat) : shf S a 0 = S := funext fun j => if_neg (by omega)
theorem shf_s (S : Nat → Int32) (a i : Nat) : upd (shf S a i) (a + i) (shf S a i (a + i + 1)) = shf S a (i + 1) := by
  funext j
  unfold upd shf
  by_cases e : j = a + i
  · rw [if_pos e, if_neg (by omega), if_pos (by omega), e]
  · rw [if_neg e]
    by_cases e2 : a ≤ j ∧ j < a + i
    · rw [if_pos e2, if_pos (by omega)]
    · rw [if_neg e2, if_neg (by omega)]
/-- leaving a list at its head, which is b -/
def sLv (S : Nat → Int32) (b l n : Nat) : Nat → Int32 := upd (shf (upd S (12 + l) (nI n)) (18 + 16 * l) n) (68 + 13 * b + 2) 0
theorem lv_lp (h : Hp) (S : Nat → Int32) {b l n : Nat} (hb : b < 16) (hl : l < 2) (hn : n < 16) (hc : S (12 + l) = nI n) (k : Nat) : ∀ (i m : Nat), i + k = n → k < m → lp (b_X10_leaves_24 110 (nI (l + 1)) (nI b)) m (mh h (shf S (18 + 16 * l) i), nI i) = some (mh h (upd (shf S (18 + 16 * l) n) (68 + 13 * b + 2) 0)) := by
  induction k with
  | zero =>
    intro i m h1 h2
    obtain ⟨m', rfl⟩ : ∃ m', m = m' + 1 := ⟨m - 1, by omega⟩
    have e : i = n := by omega
    subst e
    have er : shf S (18 + 16 * l) i (12 + l) = nI i := by
      unfold shf
      rw [if_neg (by omega), hc]
    rw [lp_s]
    simp only [b_X10_leaves_24]
    rw [m_manyIn h _ hl, Option.bind_some, er, if_pos (nI_le (Nat.le_refl i) (by omega)), m_puts_2 h _ _ hb]
    rfl
  | succ k ih =>
    intro i m h1 h2
    obtain ⟨m', rfl⟩ : ∃ m', m = m' + 1 := ⟨m - 1, by omega⟩
    have ih' := ih (i + 1) m' (by omega) (by omega)
    have er : shf S (18 + 16 * l) i (12 + l) = nI n := by
      unfold shf
      rw [if_neg (by omega), hc]
    obtain ⟨e1, e2⟩ := ix_list hl (show i < 17 by omega)
    obtain ⟨e3, e4⟩ := ix_list hl (show i + 1 < 17 by omega)
    have e5 : ((18 + (16 * (nI (l + 1) - 1))) + nI i) + 1 = (18 + (16 * (nI (l + 1) - 1))) + nI (i + 1) := by rw [Int32.add_assoc, nI_1]
    rw [lp_s]
    have e6 : ¬ nI n ≤ nI i := nI_ge (by omega) (by omega)
    simp only [b_X10_leaves_24, m_manyIn h _ hl, Option.bind_some, er, if_neg e6, e5, if_pos e3, if_pos e1, e2, e4, mh_r, mh_hp, nv_eq, nI_1, ← Nat.add_assoc, shf_s]
    exact ih'
theorem mA (h : Hp) (S : Nat → Int32) {b l n : Nat} (hb : b < 16) (hl : l < 2) (hn : n < 16) (hc : S (12 + l) = nI (n + 1)) (hh : S (18 + 16 * l) = nI b) : p_X10_inList (mh h S) 110 (nI (l + 1)) 0 = some (nI b, mh h S) := by
    have := m_inList h S hl (show 0 < 16 by omega)
    rw [show 18 + 16 * l + 0 = 18 + 16 * l from rfl, hh] at this
    exact this
theorem mB (h : Hp) (S : Nat → Int32) {b l n : Nat} (hb : b < 16) (hl : l < 2) (hn : n < 16) (hc : S (12 + l) = nI (n + 1)) (hh : S (18 + 16 * l) = nI b) : p_X10_leaves (mh h S) 110 (nI (l + 1)) = some (mh h (sLv S b l n)) := by
  obtain ⟨e1, e2⟩ := ix_many hl
  have e0 := mA h S hb hl hn hc hh
  have hf : n < FU := FU_gt (by omega)
  unfold p_X10_leaves sLv
  generalize FU = fu at hf ⊢
  sorry
theorem mC (fu : Nat) (hf : n < fu) (h : Hp) (S : Nat → Int32) {b l n : Nat} (hb : b < 16) (hl : l < 2) (hn : n < 16) (hc : S (12 + l) = nI (n + 1)) (hh : S (18 + 16 * l) = nI b) : (Option.bind (p_X10_inList (mh h S) 110 (nI (l + 1)) 0) fun r6 => if ib ((12 + nI (l + 1)) - 1) 3715 then (if ib ((12 + nI (l + 1)) - 1) 3715 then (nv (hp r6.2 (110 + 6) (Int32.toNatClampNeg ((12 + nI (l + 1)) - 1)) ((r6.2 (110 + 6) (Int32.toNatClampNeg ((12 + nI (l + 1)) - 1))) - 1)) fun h9 => lp (b_X10_leaves_24 110 (nI (l + 1)) r6.1) fu (h9, 0)) else none) else none) = some (mh h (sLv S b l n)) := by
  obtain ⟨e1, e2⟩ := ix_many hl
  have e0 := mA h S hb hl hn hc hh
  simp only [e0, Option.bind_some, if_pos e1, e2, mh_hp, mh_r, hc, nI_pred, nv_eq]
  sorry
theorem mD (fu : Nat) (hf : n < fu) (h : Hp) (S : Nat → Int32) {b l n : Nat} (hb : b < 16) (hl : l < 2) (hn : n < 16) (hc : S (12 + l) = nI (n + 1)) (hh : S (18 + 16 * l) = nI b) : lp (b_X10_leaves_24 110 (nI (l + 1)) (nI b)) fu (mh h (upd S (12 + l) (nI n)), 0) = some (mh h (upd (shf (upd S (12 + l) (nI n)) (18 + 16 * l) n) (68 + 13 * b + 2) 0)) := by
  have := lv_lp h (upd S (12 + l) (nI n)) hb hl hn (upd_s _ _ _) n 0 fu (by omega) hf
  rw [shf_0] at this
  exact this
