/-! the reference's array, told by itself; its target and its limit stand apart -/
theorem upd_s (S : Nat → Int32) (k : Nat) (v : Int32) : upd S k v k = v := if_pos rfl
theorem upd_e (S : Nat → Int32) {k j : Nat} (v : Int32) (e : j = k) : upd S k v j = v := if_pos e
theorem upd_n (S : Nat → Int32) {k j : Nat} (v : Int32) (e : j ≠ k) : upd S k v j = S j := if_neg e
theorem hp_s (h : Hp) (o k : Nat) (v : Int32) : hp h o k v o k = v := by rw [hp_at, if_pos ⟨rfl, rfl⟩]
theorem hp_e (h : Hp) {o k o' j : Nat} (v : Int32) (e1 : o' = o) (e2 : j = k) : hp h o k v o' j = v := by rw [hp_at, if_pos ⟨e1, e2⟩]
theorem hp_o' (h : Hp) {o k o' j : Nat} (v : Int32) (e : o' ≠ o) : hp h o k v o' j = h o' j := by rw [hp_at, if_neg (fun z => e z.1)]
theorem hp_k (h : Hp) {o k o' j : Nat} (v : Int32) (e : j ≠ k) : hp h o k v o' j = h o' j := by rw [hp_at, if_neg (fun z => e z.2)]
theorem vu_o (h : Hp) {o o' : Nat} (d : Nat → Int32) (e : o' ≠ o) : va_up h o d o' = h o' := va_up_ne h d e
def mt (h : Hp) (S : Nat → Int32) (t l : Int32) : Hp := va_up h 116 (upd (upd S 4 t) 7 l)
theorem mt_r (h : Hp) (S : Nat → Int32) (t l : Int32) {k : Nat} (h4 : k ≠ 4) (h7 : k ≠ 7) : mt h S t l (110 + 6) k = S k := by
  show va_up h 116 (upd (upd S 4 t) 7 l) 116 k = S k
  rw [va_up_self, upd_n _ _ h7, upd_n _ _ h4]
theorem mt_4 (h : Hp) (S : Nat → Int32) (t l : Int32) : mt h S t l (110 + 6) 4 = t := by
  show va_up h 116 (upd (upd S 4 t) 7 l) 116 4 = t
  rw [va_up_self, upd_n _ _ (by decide), upd_s]
theorem mt_7 (h : Hp) (S : Nat → Int32) (t l : Int32) : mt h S t l (110 + 6) 7 = l := by
  show va_up h 116 (upd (upd S 4 t) 7 l) 116 7 = l
  rw [va_up_self, upd_s]
theorem mt_n (h : Hp) (S : Nat → Int32) (t l : Int32) {o : Nat} (n : o ≠ 116) : mt h S t l o = h o := va_up_ne h _ n
theorem mt_ext {h h' : Hp} (h1 : ∀ k, h (110 + 6) k = h' (110 + 6) k) (h2 : ∀ o, o ≠ 116 → ∀ k, h o k = h' o k) : h = h' := by
  funext o k
  by_cases e : o = 116
  · subst e
    exact h1 k
  · exact h2 o e k
theorem mt_hp (h : Hp) (S : Nat → Int32) (t l : Int32) {k : Nat} (v : Int32) (h4 : k ≠ 4) (h7 : k ≠ 7) : hp (mt h S t l) (110 + 6) k v = mt h (upd S k v) t l := by
  apply mt_ext
  · intro j
    by_cases e : j = k
    · subst e
      rw [hp_s, mt_r _ _ _ _ h4 h7, upd_s]
    · rw [hp_k _ _ e]
      by_cases e4 : j = 4
      · subst e4
        rw [mt_4, mt_4]
      · by_cases e7 : j = 7
        · subst e7
          rw [mt_7, mt_7]
        · rw [mt_r _ _ _ _ e4 e7, mt_r _ _ _ _ e4 e7, upd_n _ _ e]
  · intro o e j
    rw [hp_o' _ _ (show o ≠ 110 + 6 from e), mt_n _ _ _ _ e, mt_n _ _ _ _ e]
theorem mt_h4 (h : Hp) (S : Nat → Int32) (t l v : Int32) : hp (mt h S t l) (110 + 6) 4 v = mt h S v l := by
  apply mt_ext
  · intro j
    by_cases e : j = 4
    · subst e
      rw [hp_s, mt_4]
    · rw [hp_k _ _ e]
      by_cases e7 : j = 7
      · subst e7
        rw [mt_7, mt_7]
      · rw [mt_r _ _ _ _ e e7, mt_r _ _ _ _ e e7]
  · intro o e j
    rw [hp_o' _ _ (show o ≠ 110 + 6 from e), mt_n _ _ _ _ e, mt_n _ _ _ _ e]
theorem mt_h7 (h : Hp) (S : Nat → Int32) (t l v : Int32) : hp (mt h S t l) (110 + 6) 7 v = mt h S t v := by
  apply mt_ext
  · intro j
    by_cases e : j = 7
    · subst e
      rw [hp_s, mt_7]
    · rw [hp_k _ _ e]
      by_cases e7 : j = 4
      · subst e7
        rw [mt_4, mt_4]
      · rw [mt_r _ _ _ _ e7 e, mt_r _ _ _ _ e7 e]
  · intro o e j
    rw [hp_o' _ _ (show o ≠ 110 + 6 from e), mt_n _ _ _ _ e, mt_n _ _ _ _ e]
theorem mt_ho (h : Hp) (S : Nat → Int32) (t l : Int32) {o : Nat} (n : o ≠ 116) (k : Nat) (v : Int32) : hp (mt h S t l) o k v = mt (hp h o k v) S t l := by
  funext o' j
  rw [hp_at]
  by_cases e : o' = 116
  · subst e
    rw [if_neg (fun z => n z.1.symm)]
    show va_up h 116 (upd (upd S 4 t) 7 l) 116 j = va_up (hp h o k v) 116 (upd (upd S 4 t) 7 l) 116 j
    rw [va_up_self, va_up_self]
  · rw [mt_n _ _ _ _ e, mt_n _ _ _ _ e, hp_at]
theorem mt_eta (h : Hp) : mt h (h 116) (h 116 4) (h 116 7) = h := by
  funext o
  by_cases e : o = 116
  · subst e
    show va_up h 116 _ 116 = h 116
    rw [va_up_self, fa_upd_same rfl, fa_upd_same rfl]
  · rw [mt_n _ _ _ _ e]
theorem ixL {x : Int32} {k : Nat} (e : x = nI k) (h : k < 3715) : ib x 3715 ∧ Int32.toNatClampNeg x = k := by
  subst e
  exact ⟨ib_n h (by omega), nI_clamp (by omega)⟩
theorem lin3 (a m b j : Nat) : (nI a + nI m * nI b) + nI j = nI (a + m * b + j) := by rw [nI_mul, nI_add, nI_add]
theorem lin2 (a m b : Nat) : nI a + nI m * nI b = nI (a + m * b) := by rw [nI_mul, nI_add]

theorem m_of_0 (h : Hp) (S : Nat → Int32) (t l : Int32) {b : Nat} (hb : b < 16) : p_X10_of (mt h S t l) 110 (nI b) 0 = some (S (68 + 13 * b + 0), mt h S t l) := by
  obtain ⟨e1, e2⟩ := ixL (lin3 68 13 b 0) (by omega)
  show (if ib ((nI 68 + nI 13 * nI b) + nI 0) 3715 then some (mt h S t l (110 + 6) (Int32.toNatClampNeg ((nI 68 + nI 13 * nI b) + nI 0)), mt h S t l) else none) = _
  rw [if_pos e1, e2, mt_r _ _ _ _ (by omega) (by omega)]
theorem m_of_1 (h : Hp) (S : Nat → Int32) (t l : Int32) {b : Nat} (hb : b < 16) : p_X10_of (mt h S t l) 110 (nI b) 1 = some (S (68 + 13 * b + 1), mt h S t l) := by
  obtain ⟨e1, e2⟩ := ixL (lin3 68 13 b 1) (by omega)
  show (if ib ((nI 68 + nI 13 * nI b) + nI 1) 3715 then some (mt h S t l (110 + 6) (Int32.toNatClampNeg ((nI 68 + nI 13 * nI b) + nI 1)), mt h S t l) else none) = _
  rw [if_pos e1, e2, mt_r _ _ _ _ (by omega) (by omega)]
theorem m_of_2 (h : Hp) (S : Nat → Int32) (t l : Int32) {b : Nat} (hb : b < 16) : p_X10_of (mt h S t l) 110 (nI b) 2 = some (S (68 + 13 * b + 2), mt h S t l) := by
  obtain ⟨e1, e2⟩ := ixL (lin3 68 13 b 2) (by omega)
  show (if ib ((nI 68 + nI 13 * nI b) + nI 2) 3715 then some (mt h S t l (110 + 6) (Int32.toNatClampNeg ((nI 68 + nI 13 * nI b) + nI 2)), mt h S t l) else none) = _
  rw [if_pos e1, e2, mt_r _ _ _ _ (by omega) (by omega)]
theorem m_of_3 (h : Hp) (S : Nat → Int32) (t l : Int32) {b : Nat} (hb : b < 16) : p_X10_of (mt h S t l) 110 (nI b) 3 = some (S (68 + 13 * b + 3), mt h S t l) := by
  obtain ⟨e1, e2⟩ := ixL (lin3 68 13 b 3) (by omega)
  show (if ib ((nI 68 + nI 13 * nI b) + nI 3) 3715 then some (mt h S t l (110 + 6) (Int32.toNatClampNeg ((nI 68 + nI 13 * nI b) + nI 3)), mt h S t l) else none) = _
  rw [if_pos e1, e2, mt_r _ _ _ _ (by omega) (by omega)]
theorem m_of_4 (h : Hp) (S : Nat → Int32) (t l : Int32) {b : Nat} (hb : b < 16) : p_X10_of (mt h S t l) 110 (nI b) 4 = some (S (68 + 13 * b + 4), mt h S t l) := by
  obtain ⟨e1, e2⟩ := ixL (lin3 68 13 b 4) (by omega)
  show (if ib ((nI 68 + nI 13 * nI b) + nI 4) 3715 then some (mt h S t l (110 + 6) (Int32.toNatClampNeg ((nI 68 + nI 13 * nI b) + nI 4)), mt h S t l) else none) = _
  rw [if_pos e1, e2, mt_r _ _ _ _ (by omega) (by omega)]
theorem m_of_5 (h : Hp) (S : Nat → Int32) (t l : Int32) {b : Nat} (hb : b < 16) : p_X10_of (mt h S t l) 110 (nI b) 5 = some (S (68 + 13 * b + 5), mt h S t l) := by
  obtain ⟨e1, e2⟩ := ixL (lin3 68 13 b 5) (by omega)
  show (if ib ((nI 68 + nI 13 * nI b) + nI 5) 3715 then some (mt h S t l (110 + 6) (Int32.toNatClampNeg ((nI 68 + nI 13 * nI b) + nI 5)), mt h S t l) else none) = _
  rw [if_pos e1, e2, mt_r _ _ _ _ (by omega) (by omega)]
theorem m_of_6 (h : Hp) (S : Nat → Int32) (t l : Int32) {b : Nat} (hb : b < 16) : p_X10_of (mt h S t l) 110 (nI b) 6 = some (S (68 + 13 * b + 6), mt h S t l) := by
  obtain ⟨e1, e2⟩ := ixL (lin3 68 13 b 6) (by omega)
  show (if ib ((nI 68 + nI 13 * nI b) + nI 6) 3715 then some (mt h S t l (110 + 6) (Int32.toNatClampNeg ((nI 68 + nI 13 * nI b) + nI 6)), mt h S t l) else none) = _
  rw [if_pos e1, e2, mt_r _ _ _ _ (by omega) (by omega)]
theorem m_of_7 (h : Hp) (S : Nat → Int32) (t l : Int32) {b : Nat} (hb : b < 16) : p_X10_of (mt h S t l) 110 (nI b) 7 = some (S (68 + 13 * b + 7), mt h S t l) := by
  obtain ⟨e1, e2⟩ := ixL (lin3 68 13 b 7) (by omega)
  show (if ib ((nI 68 + nI 13 * nI b) + nI 7) 3715 then some (mt h S t l (110 + 6) (Int32.toNatClampNeg ((nI 68 + nI 13 * nI b) + nI 7)), mt h S t l) else none) = _
  rw [if_pos e1, e2, mt_r _ _ _ _ (by omega) (by omega)]
theorem m_of_8 (h : Hp) (S : Nat → Int32) (t l : Int32) {b : Nat} (hb : b < 16) : p_X10_of (mt h S t l) 110 (nI b) 8 = some (S (68 + 13 * b + 8), mt h S t l) := by
  obtain ⟨e1, e2⟩ := ixL (lin3 68 13 b 8) (by omega)
  show (if ib ((nI 68 + nI 13 * nI b) + nI 8) 3715 then some (mt h S t l (110 + 6) (Int32.toNatClampNeg ((nI 68 + nI 13 * nI b) + nI 8)), mt h S t l) else none) = _
  rw [if_pos e1, e2, mt_r _ _ _ _ (by omega) (by omega)]
theorem m_of_9 (h : Hp) (S : Nat → Int32) (t l : Int32) {b : Nat} (hb : b < 16) : p_X10_of (mt h S t l) 110 (nI b) 9 = some (S (68 + 13 * b + 9), mt h S t l) := by
  obtain ⟨e1, e2⟩ := ixL (lin3 68 13 b 9) (by omega)
  show (if ib ((nI 68 + nI 13 * nI b) + nI 9) 3715 then some (mt h S t l (110 + 6) (Int32.toNatClampNeg ((nI 68 + nI 13 * nI b) + nI 9)), mt h S t l) else none) = _
  rw [if_pos e1, e2, mt_r _ _ _ _ (by omega) (by omega)]
theorem m_of_10 (h : Hp) (S : Nat → Int32) (t l : Int32) {b : Nat} (hb : b < 16) : p_X10_of (mt h S t l) 110 (nI b) 10 = some (S (68 + 13 * b + 10), mt h S t l) := by
  obtain ⟨e1, e2⟩ := ixL (lin3 68 13 b 10) (by omega)
  show (if ib ((nI 68 + nI 13 * nI b) + nI 10) 3715 then some (mt h S t l (110 + 6) (Int32.toNatClampNeg ((nI 68 + nI 13 * nI b) + nI 10)), mt h S t l) else none) = _
  rw [if_pos e1, e2, mt_r _ _ _ _ (by omega) (by omega)]
theorem m_of_11 (h : Hp) (S : Nat → Int32) (t l : Int32) {b : Nat} (hb : b < 16) : p_X10_of (mt h S t l) 110 (nI b) 11 = some (S (68 + 13 * b + 11), mt h S t l) := by
  obtain ⟨e1, e2⟩ := ixL (lin3 68 13 b 11) (by omega)
  show (if ib ((nI 68 + nI 13 * nI b) + nI 11) 3715 then some (mt h S t l (110 + 6) (Int32.toNatClampNeg ((nI 68 + nI 13 * nI b) + nI 11)), mt h S t l) else none) = _
  rw [if_pos e1, e2, mt_r _ _ _ _ (by omega) (by omega)]
theorem m_of_12 (h : Hp) (S : Nat → Int32) (t l : Int32) {b : Nat} (hb : b < 16) : p_X10_of (mt h S t l) 110 (nI b) 12 = some (S (68 + 13 * b + 12), mt h S t l) := by
  obtain ⟨e1, e2⟩ := ixL (lin3 68 13 b 12) (by omega)
  show (if ib ((nI 68 + nI 13 * nI b) + nI 12) 3715 then some (mt h S t l (110 + 6) (Int32.toNatClampNeg ((nI 68 + nI 13 * nI b) + nI 12)), mt h S t l) else none) = _
  rw [if_pos e1, e2, mt_r _ _ _ _ (by omega) (by omega)]
theorem m_frameOf_0 (h : Hp) (S : Nat → Int32) (t l : Int32) {b : Nat} (hb : b < 200) : p_X10_frameOf (mt h S t l) 110 (nI b) 0 = some (S (276 + 12 * b + 0), mt h S t l) := by
  obtain ⟨e1, e2⟩ := ixL (lin3 276 12 b 0) (by omega)
  show (if ib ((nI 276 + nI 12 * nI b) + nI 0) 3715 then some (mt h S t l (110 + 6) (Int32.toNatClampNeg ((nI 276 + nI 12 * nI b) + nI 0)), mt h S t l) else none) = _
  rw [if_pos e1, e2, mt_r _ _ _ _ (by omega) (by omega)]
theorem m_frameOf_1 (h : Hp) (S : Nat → Int32) (t l : Int32) {b : Nat} (hb : b < 200) : p_X10_frameOf (mt h S t l) 110 (nI b) 1 = some (S (276 + 12 * b + 1), mt h S t l) := by
  obtain ⟨e1, e2⟩ := ixL (lin3 276 12 b 1) (by omega)
  show (if ib ((nI 276 + nI 12 * nI b) + nI 1) 3715 then some (mt h S t l (110 + 6) (Int32.toNatClampNeg ((nI 276 + nI 12 * nI b) + nI 1)), mt h S t l) else none) = _
  rw [if_pos e1, e2, mt_r _ _ _ _ (by omega) (by omega)]
theorem m_frameOf_2 (h : Hp) (S : Nat → Int32) (t l : Int32) {b : Nat} (hb : b < 200) : p_X10_frameOf (mt h S t l) 110 (nI b) 2 = some (S (276 + 12 * b + 2), mt h S t l) := by
  obtain ⟨e1, e2⟩ := ixL (lin3 276 12 b 2) (by omega)
  show (if ib ((nI 276 + nI 12 * nI b) + nI 2) 3715 then some (mt h S t l (110 + 6) (Int32.toNatClampNeg ((nI 276 + nI 12 * nI b) + nI 2)), mt h S t l) else none) = _
  rw [if_pos e1, e2, mt_r _ _ _ _ (by omega) (by omega)]
theorem m_frameOf_3 (h : Hp) (S : Nat → Int32) (t l : Int32) {b : Nat} (hb : b < 200) : p_X10_frameOf (mt h S t l) 110 (nI b) 3 = some (S (276 + 12 * b + 3), mt h S t l) := by
  obtain ⟨e1, e2⟩ := ixL (lin3 276 12 b 3) (by omega)
  show (if ib ((nI 276 + nI 12 * nI b) + nI 3) 3715 then some (mt h S t l (110 + 6) (Int32.toNatClampNeg ((nI 276 + nI 12 * nI b) + nI 3)), mt h S t l) else none) = _
  rw [if_pos e1, e2, mt_r _ _ _ _ (by omega) (by omega)]
theorem m_frameOf_4 (h : Hp) (S : Nat → Int32) (t l : Int32) {b : Nat} (hb : b < 200) : p_X10_frameOf (mt h S t l) 110 (nI b) 4 = some (S (276 + 12 * b + 4), mt h S t l) := by
  obtain ⟨e1, e2⟩ := ixL (lin3 276 12 b 4) (by omega)
  show (if ib ((nI 276 + nI 12 * nI b) + nI 4) 3715 then some (mt h S t l (110 + 6) (Int32.toNatClampNeg ((nI 276 + nI 12 * nI b) + nI 4)), mt h S t l) else none) = _
  rw [if_pos e1, e2, mt_r _ _ _ _ (by omega) (by omega)]
theorem m_frameOf_5 (h : Hp) (S : Nat → Int32) (t l : Int32) {b : Nat} (hb : b < 200) : p_X10_frameOf (mt h S t l) 110 (nI b) 5 = some (S (276 + 12 * b + 5), mt h S t l) := by
  obtain ⟨e1, e2⟩ := ixL (lin3 276 12 b 5) (by omega)
  show (if ib ((nI 276 + nI 12 * nI b) + nI 5) 3715 then some (mt h S t l (110 + 6) (Int32.toNatClampNeg ((nI 276 + nI 12 * nI b) + nI 5)), mt h S t l) else none) = _
  rw [if_pos e1, e2, mt_r _ _ _ _ (by omega) (by omega)]
theorem m_frameOf_6 (h : Hp) (S : Nat → Int32) (t l : Int32) {b : Nat} (hb : b < 200) : p_X10_frameOf (mt h S t l) 110 (nI b) 6 = some (S (276 + 12 * b + 6), mt h S t l) := by
  obtain ⟨e1, e2⟩ := ixL (lin3 276 12 b 6) (by omega)
  show (if ib ((nI 276 + nI 12 * nI b) + nI 6) 3715 then some (mt h S t l (110 + 6) (Int32.toNatClampNeg ((nI 276 + nI 12 * nI b) + nI 6)), mt h S t l) else none) = _
  rw [if_pos e1, e2, mt_r _ _ _ _ (by omega) (by omega)]
theorem m_frameOf_7 (h : Hp) (S : Nat → Int32) (t l : Int32) {b : Nat} (hb : b < 200) : p_X10_frameOf (mt h S t l) 110 (nI b) 7 = some (S (276 + 12 * b + 7), mt h S t l) := by
  obtain ⟨e1, e2⟩ := ixL (lin3 276 12 b 7) (by omega)
  show (if ib ((nI 276 + nI 12 * nI b) + nI 7) 3715 then some (mt h S t l (110 + 6) (Int32.toNatClampNeg ((nI 276 + nI 12 * nI b) + nI 7)), mt h S t l) else none) = _
  rw [if_pos e1, e2, mt_r _ _ _ _ (by omega) (by omega)]
theorem m_frameOf_8 (h : Hp) (S : Nat → Int32) (t l : Int32) {b : Nat} (hb : b < 200) : p_X10_frameOf (mt h S t l) 110 (nI b) 8 = some (S (276 + 12 * b + 8), mt h S t l) := by
  obtain ⟨e1, e2⟩ := ixL (lin3 276 12 b 8) (by omega)
  show (if ib ((nI 276 + nI 12 * nI b) + nI 8) 3715 then some (mt h S t l (110 + 6) (Int32.toNatClampNeg ((nI 276 + nI 12 * nI b) + nI 8)), mt h S t l) else none) = _
  rw [if_pos e1, e2, mt_r _ _ _ _ (by omega) (by omega)]
theorem m_frameOf_9 (h : Hp) (S : Nat → Int32) (t l : Int32) {b : Nat} (hb : b < 200) : p_X10_frameOf (mt h S t l) 110 (nI b) 9 = some (S (276 + 12 * b + 9), mt h S t l) := by
  obtain ⟨e1, e2⟩ := ixL (lin3 276 12 b 9) (by omega)
  show (if ib ((nI 276 + nI 12 * nI b) + nI 9) 3715 then some (mt h S t l (110 + 6) (Int32.toNatClampNeg ((nI 276 + nI 12 * nI b) + nI 9)), mt h S t l) else none) = _
  rw [if_pos e1, e2, mt_r _ _ _ _ (by omega) (by omega)]
theorem m_frameOf_10 (h : Hp) (S : Nat → Int32) (t l : Int32) {b : Nat} (hb : b < 200) : p_X10_frameOf (mt h S t l) 110 (nI b) 10 = some (S (276 + 12 * b + 10), mt h S t l) := by
  obtain ⟨e1, e2⟩ := ixL (lin3 276 12 b 10) (by omega)
  show (if ib ((nI 276 + nI 12 * nI b) + nI 10) 3715 then some (mt h S t l (110 + 6) (Int32.toNatClampNeg ((nI 276 + nI 12 * nI b) + nI 10)), mt h S t l) else none) = _
  rw [if_pos e1, e2, mt_r _ _ _ _ (by omega) (by omega)]
theorem m_frameOf_11 (h : Hp) (S : Nat → Int32) (t l : Int32) {b : Nat} (hb : b < 200) : p_X10_frameOf (mt h S t l) 110 (nI b) 11 = some (S (276 + 12 * b + 11), mt h S t l) := by
  obtain ⟨e1, e2⟩ := ixL (lin3 276 12 b 11) (by omega)
  show (if ib ((nI 276 + nI 12 * nI b) + nI 11) 3715 then some (mt h S t l (110 + 6) (Int32.toNatClampNeg ((nI 276 + nI 12 * nI b) + nI 11)), mt h S t l) else none) = _
  rw [if_pos e1, e2, mt_r _ _ _ _ (by omega) (by omega)]
theorem m_senderOf_0 (h : Hp) (S : Nat → Int32) (t l : Int32) {b : Nat} (hb : b < 4) : p_X10_senderOf (mt h S t l) 110 (nI b) 0 = some (S (3478 + 9 * b + 0), mt h S t l) := by
  obtain ⟨e1, e2⟩ := ixL (lin3 3478 9 b 0) (by omega)
  show (if ib ((nI 3478 + nI 9 * nI b) + nI 0) 3715 then some (mt h S t l (110 + 6) (Int32.toNatClampNeg ((nI 3478 + nI 9 * nI b) + nI 0)), mt h S t l) else none) = _
  rw [if_pos e1, e2, mt_r _ _ _ _ (by omega) (by omega)]
theorem m_senderOf_1 (h : Hp) (S : Nat → Int32) (t l : Int32) {b : Nat} (hb : b < 4) : p_X10_senderOf (mt h S t l) 110 (nI b) 1 = some (S (3478 + 9 * b + 1), mt h S t l) := by
  obtain ⟨e1, e2⟩ := ixL (lin3 3478 9 b 1) (by omega)
  show (if ib ((nI 3478 + nI 9 * nI b) + nI 1) 3715 then some (mt h S t l (110 + 6) (Int32.toNatClampNeg ((nI 3478 + nI 9 * nI b) + nI 1)), mt h S t l) else none) = _
  rw [if_pos e1, e2, mt_r _ _ _ _ (by omega) (by omega)]
theorem m_senderOf_2 (h : Hp) (S : Nat → Int32) (t l : Int32) {b : Nat} (hb : b < 4) : p_X10_senderOf (mt h S t l) 110 (nI b) 2 = some (S (3478 + 9 * b + 2), mt h S t l) := by
  obtain ⟨e1, e2⟩ := ixL (lin3 3478 9 b 2) (by omega)
  show (if ib ((nI 3478 + nI 9 * nI b) + nI 2) 3715 then some (mt h S t l (110 + 6) (Int32.toNatClampNeg ((nI 3478 + nI 9 * nI b) + nI 2)), mt h S t l) else none) = _
  rw [if_pos e1, e2, mt_r _ _ _ _ (by omega) (by omega)]
theorem m_senderOf_3 (h : Hp) (S : Nat → Int32) (t l : Int32) {b : Nat} (hb : b < 4) : p_X10_senderOf (mt h S t l) 110 (nI b) 3 = some (S (3478 + 9 * b + 3), mt h S t l) := by
  obtain ⟨e1, e2⟩ := ixL (lin3 3478 9 b 3) (by omega)
  show (if ib ((nI 3478 + nI 9 * nI b) + nI 3) 3715 then some (mt h S t l (110 + 6) (Int32.toNatClampNeg ((nI 3478 + nI 9 * nI b) + nI 3)), mt h S t l) else none) = _
  rw [if_pos e1, e2, mt_r _ _ _ _ (by omega) (by omega)]
theorem m_senderOf_4 (h : Hp) (S : Nat → Int32) (t l : Int32) {b : Nat} (hb : b < 4) : p_X10_senderOf (mt h S t l) 110 (nI b) 4 = some (S (3478 + 9 * b + 4), mt h S t l) := by
  obtain ⟨e1, e2⟩ := ixL (lin3 3478 9 b 4) (by omega)
  show (if ib ((nI 3478 + nI 9 * nI b) + nI 4) 3715 then some (mt h S t l (110 + 6) (Int32.toNatClampNeg ((nI 3478 + nI 9 * nI b) + nI 4)), mt h S t l) else none) = _
  rw [if_pos e1, e2, mt_r _ _ _ _ (by omega) (by omega)]
theorem m_senderOf_5 (h : Hp) (S : Nat → Int32) (t l : Int32) {b : Nat} (hb : b < 4) : p_X10_senderOf (mt h S t l) 110 (nI b) 5 = some (S (3478 + 9 * b + 5), mt h S t l) := by
  obtain ⟨e1, e2⟩ := ixL (lin3 3478 9 b 5) (by omega)
  show (if ib ((nI 3478 + nI 9 * nI b) + nI 5) 3715 then some (mt h S t l (110 + 6) (Int32.toNatClampNeg ((nI 3478 + nI 9 * nI b) + nI 5)), mt h S t l) else none) = _
  rw [if_pos e1, e2, mt_r _ _ _ _ (by omega) (by omega)]
theorem m_senderOf_6 (h : Hp) (S : Nat → Int32) (t l : Int32) {b : Nat} (hb : b < 4) : p_X10_senderOf (mt h S t l) 110 (nI b) 6 = some (S (3478 + 9 * b + 6), mt h S t l) := by
  obtain ⟨e1, e2⟩ := ixL (lin3 3478 9 b 6) (by omega)
  show (if ib ((nI 3478 + nI 9 * nI b) + nI 6) 3715 then some (mt h S t l (110 + 6) (Int32.toNatClampNeg ((nI 3478 + nI 9 * nI b) + nI 6)), mt h S t l) else none) = _
  rw [if_pos e1, e2, mt_r _ _ _ _ (by omega) (by omega)]
theorem m_senderOf_7 (h : Hp) (S : Nat → Int32) (t l : Int32) {b : Nat} (hb : b < 4) : p_X10_senderOf (mt h S t l) 110 (nI b) 7 = some (S (3478 + 9 * b + 7), mt h S t l) := by
  obtain ⟨e1, e2⟩ := ixL (lin3 3478 9 b 7) (by omega)
  show (if ib ((nI 3478 + nI 9 * nI b) + nI 7) 3715 then some (mt h S t l (110 + 6) (Int32.toNatClampNeg ((nI 3478 + nI 9 * nI b) + nI 7)), mt h S t l) else none) = _
  rw [if_pos e1, e2, mt_r _ _ _ _ (by omega) (by omega)]
theorem m_senderOf_8 (h : Hp) (S : Nat → Int32) (t l : Int32) {b : Nat} (hb : b < 4) : p_X10_senderOf (mt h S t l) 110 (nI b) 8 = some (S (3478 + 9 * b + 8), mt h S t l) := by
  obtain ⟨e1, e2⟩ := ixL (lin3 3478 9 b 8) (by omega)
  show (if ib ((nI 3478 + nI 9 * nI b) + nI 8) 3715 then some (mt h S t l (110 + 6) (Int32.toNatClampNeg ((nI 3478 + nI 9 * nI b) + nI 8)), mt h S t l) else none) = _
  rw [if_pos e1, e2, mt_r _ _ _ _ (by omega) (by omega)]
theorem m_puts_0 (h : Hp) (S : Nat → Int32) (t l : Int32) {b : Nat} (v : Int32) (hb : b < 16) : p_X10_puts (mt h S t l) 110 (nI b) 0 v = some (mt h (upd S (68 + 13 * b + 0) v) t l) := by
  obtain ⟨e1, e2⟩ := ixL (lin3 68 13 b 0) (by omega)
  show (if ib ((nI 68 + nI 13 * nI b) + nI 0) 3715 then some (hp (mt h S t l) (110 + 6) (Int32.toNatClampNeg ((nI 68 + nI 13 * nI b) + nI 0)) v) else none) = _
  rw [if_pos e1, e2, mt_hp _ _ _ _ _ (by omega) (by omega)]
theorem m_puts_1 (h : Hp) (S : Nat → Int32) (t l : Int32) {b : Nat} (v : Int32) (hb : b < 16) : p_X10_puts (mt h S t l) 110 (nI b) 1 v = some (mt h (upd S (68 + 13 * b + 1) v) t l) := by
  obtain ⟨e1, e2⟩ := ixL (lin3 68 13 b 1) (by omega)
  show (if ib ((nI 68 + nI 13 * nI b) + nI 1) 3715 then some (hp (mt h S t l) (110 + 6) (Int32.toNatClampNeg ((nI 68 + nI 13 * nI b) + nI 1)) v) else none) = _
  rw [if_pos e1, e2, mt_hp _ _ _ _ _ (by omega) (by omega)]
theorem m_puts_2 (h : Hp) (S : Nat → Int32) (t l : Int32) {b : Nat} (v : Int32) (hb : b < 16) : p_X10_puts (mt h S t l) 110 (nI b) 2 v = some (mt h (upd S (68 + 13 * b + 2) v) t l) := by
  obtain ⟨e1, e2⟩ := ixL (lin3 68 13 b 2) (by omega)
  show (if ib ((nI 68 + nI 13 * nI b) + nI 2) 3715 then some (hp (mt h S t l) (110 + 6) (Int32.toNatClampNeg ((nI 68 + nI 13 * nI b) + nI 2)) v) else none) = _
  rw [if_pos e1, e2, mt_hp _ _ _ _ _ (by omega) (by omega)]
theorem m_puts_3 (h : Hp) (S : Nat → Int32) (t l : Int32) {b : Nat} (v : Int32) (hb : b < 16) : p_X10_puts (mt h S t l) 110 (nI b) 3 v = some (mt h (upd S (68 + 13 * b + 3) v) t l) := by
  obtain ⟨e1, e2⟩ := ixL (lin3 68 13 b 3) (by omega)
  show (if ib ((nI 68 + nI 13 * nI b) + nI 3) 3715 then some (hp (mt h S t l) (110 + 6) (Int32.toNatClampNeg ((nI 68 + nI 13 * nI b) + nI 3)) v) else none) = _
  rw [if_pos e1, e2, mt_hp _ _ _ _ _ (by omega) (by omega)]
theorem m_puts_4 (h : Hp) (S : Nat → Int32) (t l : Int32) {b : Nat} (v : Int32) (hb : b < 16) : p_X10_puts (mt h S t l) 110 (nI b) 4 v = some (mt h (upd S (68 + 13 * b + 4) v) t l) := by
  obtain ⟨e1, e2⟩ := ixL (lin3 68 13 b 4) (by omega)
  show (if ib ((nI 68 + nI 13 * nI b) + nI 4) 3715 then some (hp (mt h S t l) (110 + 6) (Int32.toNatClampNeg ((nI 68 + nI 13 * nI b) + nI 4)) v) else none) = _
  rw [if_pos e1, e2, mt_hp _ _ _ _ _ (by omega) (by omega)]
theorem m_puts_5 (h : Hp) (S : Nat → Int32) (t l : Int32) {b : Nat} (v : Int32) (hb : b < 16) : p_X10_puts (mt h S t l) 110 (nI b) 5 v = some (mt h (upd S (68 + 13 * b + 5) v) t l) := by
  obtain ⟨e1, e2⟩ := ixL (lin3 68 13 b 5) (by omega)
  show (if ib ((nI 68 + nI 13 * nI b) + nI 5) 3715 then some (hp (mt h S t l) (110 + 6) (Int32.toNatClampNeg ((nI 68 + nI 13 * nI b) + nI 5)) v) else none) = _
  rw [if_pos e1, e2, mt_hp _ _ _ _ _ (by omega) (by omega)]
theorem m_puts_6 (h : Hp) (S : Nat → Int32) (t l : Int32) {b : Nat} (v : Int32) (hb : b < 16) : p_X10_puts (mt h S t l) 110 (nI b) 6 v = some (mt h (upd S (68 + 13 * b + 6) v) t l) := by
  obtain ⟨e1, e2⟩ := ixL (lin3 68 13 b 6) (by omega)
  show (if ib ((nI 68 + nI 13 * nI b) + nI 6) 3715 then some (hp (mt h S t l) (110 + 6) (Int32.toNatClampNeg ((nI 68 + nI 13 * nI b) + nI 6)) v) else none) = _
  rw [if_pos e1, e2, mt_hp _ _ _ _ _ (by omega) (by omega)]
theorem m_puts_7 (h : Hp) (S : Nat → Int32) (t l : Int32) {b : Nat} (v : Int32) (hb : b < 16) : p_X10_puts (mt h S t l) 110 (nI b) 7 v = some (mt h (upd S (68 + 13 * b + 7) v) t l) := by
  obtain ⟨e1, e2⟩ := ixL (lin3 68 13 b 7) (by omega)
  show (if ib ((nI 68 + nI 13 * nI b) + nI 7) 3715 then some (hp (mt h S t l) (110 + 6) (Int32.toNatClampNeg ((nI 68 + nI 13 * nI b) + nI 7)) v) else none) = _
  rw [if_pos e1, e2, mt_hp _ _ _ _ _ (by omega) (by omega)]
theorem m_puts_8 (h : Hp) (S : Nat → Int32) (t l : Int32) {b : Nat} (v : Int32) (hb : b < 16) : p_X10_puts (mt h S t l) 110 (nI b) 8 v = some (mt h (upd S (68 + 13 * b + 8) v) t l) := by
  obtain ⟨e1, e2⟩ := ixL (lin3 68 13 b 8) (by omega)
  show (if ib ((nI 68 + nI 13 * nI b) + nI 8) 3715 then some (hp (mt h S t l) (110 + 6) (Int32.toNatClampNeg ((nI 68 + nI 13 * nI b) + nI 8)) v) else none) = _
  rw [if_pos e1, e2, mt_hp _ _ _ _ _ (by omega) (by omega)]
theorem m_puts_9 (h : Hp) (S : Nat → Int32) (t l : Int32) {b : Nat} (v : Int32) (hb : b < 16) : p_X10_puts (mt h S t l) 110 (nI b) 9 v = some (mt h (upd S (68 + 13 * b + 9) v) t l) := by
  obtain ⟨e1, e2⟩ := ixL (lin3 68 13 b 9) (by omega)
  show (if ib ((nI 68 + nI 13 * nI b) + nI 9) 3715 then some (hp (mt h S t l) (110 + 6) (Int32.toNatClampNeg ((nI 68 + nI 13 * nI b) + nI 9)) v) else none) = _
  rw [if_pos e1, e2, mt_hp _ _ _ _ _ (by omega) (by omega)]
theorem m_puts_10 (h : Hp) (S : Nat → Int32) (t l : Int32) {b : Nat} (v : Int32) (hb : b < 16) : p_X10_puts (mt h S t l) 110 (nI b) 10 v = some (mt h (upd S (68 + 13 * b + 10) v) t l) := by
  obtain ⟨e1, e2⟩ := ixL (lin3 68 13 b 10) (by omega)
  show (if ib ((nI 68 + nI 13 * nI b) + nI 10) 3715 then some (hp (mt h S t l) (110 + 6) (Int32.toNatClampNeg ((nI 68 + nI 13 * nI b) + nI 10)) v) else none) = _
  rw [if_pos e1, e2, mt_hp _ _ _ _ _ (by omega) (by omega)]
theorem m_puts_11 (h : Hp) (S : Nat → Int32) (t l : Int32) {b : Nat} (v : Int32) (hb : b < 16) : p_X10_puts (mt h S t l) 110 (nI b) 11 v = some (mt h (upd S (68 + 13 * b + 11) v) t l) := by
  obtain ⟨e1, e2⟩ := ixL (lin3 68 13 b 11) (by omega)
  show (if ib ((nI 68 + nI 13 * nI b) + nI 11) 3715 then some (hp (mt h S t l) (110 + 6) (Int32.toNatClampNeg ((nI 68 + nI 13 * nI b) + nI 11)) v) else none) = _
  rw [if_pos e1, e2, mt_hp _ _ _ _ _ (by omega) (by omega)]
theorem m_puts_12 (h : Hp) (S : Nat → Int32) (t l : Int32) {b : Nat} (v : Int32) (hb : b < 16) : p_X10_puts (mt h S t l) 110 (nI b) 12 v = some (mt h (upd S (68 + 13 * b + 12) v) t l) := by
  obtain ⟨e1, e2⟩ := ixL (lin3 68 13 b 12) (by omega)
  show (if ib ((nI 68 + nI 13 * nI b) + nI 12) 3715 then some (hp (mt h S t l) (110 + 6) (Int32.toNatClampNeg ((nI 68 + nI 13 * nI b) + nI 12)) v) else none) = _
  rw [if_pos e1, e2, mt_hp _ _ _ _ _ (by omega) (by omega)]
theorem m_frames_0 (h : Hp) (S : Nat → Int32) (t l : Int32) {b : Nat} (v : Int32) (hb : b < 200) : p_X10_frames (mt h S t l) 110 (nI b) 0 v = some (mt h (upd S (276 + 12 * b + 0) v) t l) := by
  obtain ⟨e1, e2⟩ := ixL (lin3 276 12 b 0) (by omega)
  show (if ib ((nI 276 + nI 12 * nI b) + nI 0) 3715 then some (hp (mt h S t l) (110 + 6) (Int32.toNatClampNeg ((nI 276 + nI 12 * nI b) + nI 0)) v) else none) = _
  rw [if_pos e1, e2, mt_hp _ _ _ _ _ (by omega) (by omega)]
theorem m_frames_1 (h : Hp) (S : Nat → Int32) (t l : Int32) {b : Nat} (v : Int32) (hb : b < 200) : p_X10_frames (mt h S t l) 110 (nI b) 1 v = some (mt h (upd S (276 + 12 * b + 1) v) t l) := by
  obtain ⟨e1, e2⟩ := ixL (lin3 276 12 b 1) (by omega)
  show (if ib ((nI 276 + nI 12 * nI b) + nI 1) 3715 then some (hp (mt h S t l) (110 + 6) (Int32.toNatClampNeg ((nI 276 + nI 12 * nI b) + nI 1)) v) else none) = _
  rw [if_pos e1, e2, mt_hp _ _ _ _ _ (by omega) (by omega)]
theorem m_frames_2 (h : Hp) (S : Nat → Int32) (t l : Int32) {b : Nat} (v : Int32) (hb : b < 200) : p_X10_frames (mt h S t l) 110 (nI b) 2 v = some (mt h (upd S (276 + 12 * b + 2) v) t l) := by
  obtain ⟨e1, e2⟩ := ixL (lin3 276 12 b 2) (by omega)
  show (if ib ((nI 276 + nI 12 * nI b) + nI 2) 3715 then some (hp (mt h S t l) (110 + 6) (Int32.toNatClampNeg ((nI 276 + nI 12 * nI b) + nI 2)) v) else none) = _
  rw [if_pos e1, e2, mt_hp _ _ _ _ _ (by omega) (by omega)]
theorem m_frames_3 (h : Hp) (S : Nat → Int32) (t l : Int32) {b : Nat} (v : Int32) (hb : b < 200) : p_X10_frames (mt h S t l) 110 (nI b) 3 v = some (mt h (upd S (276 + 12 * b + 3) v) t l) := by
  obtain ⟨e1, e2⟩ := ixL (lin3 276 12 b 3) (by omega)
  show (if ib ((nI 276 + nI 12 * nI b) + nI 3) 3715 then some (hp (mt h S t l) (110 + 6) (Int32.toNatClampNeg ((nI 276 + nI 12 * nI b) + nI 3)) v) else none) = _
  rw [if_pos e1, e2, mt_hp _ _ _ _ _ (by omega) (by omega)]
theorem m_frames_4 (h : Hp) (S : Nat → Int32) (t l : Int32) {b : Nat} (v : Int32) (hb : b < 200) : p_X10_frames (mt h S t l) 110 (nI b) 4 v = some (mt h (upd S (276 + 12 * b + 4) v) t l) := by
  obtain ⟨e1, e2⟩ := ixL (lin3 276 12 b 4) (by omega)
  show (if ib ((nI 276 + nI 12 * nI b) + nI 4) 3715 then some (hp (mt h S t l) (110 + 6) (Int32.toNatClampNeg ((nI 276 + nI 12 * nI b) + nI 4)) v) else none) = _
  rw [if_pos e1, e2, mt_hp _ _ _ _ _ (by omega) (by omega)]
theorem m_frames_5 (h : Hp) (S : Nat → Int32) (t l : Int32) {b : Nat} (v : Int32) (hb : b < 200) : p_X10_frames (mt h S t l) 110 (nI b) 5 v = some (mt h (upd S (276 + 12 * b + 5) v) t l) := by
  obtain ⟨e1, e2⟩ := ixL (lin3 276 12 b 5) (by omega)
  show (if ib ((nI 276 + nI 12 * nI b) + nI 5) 3715 then some (hp (mt h S t l) (110 + 6) (Int32.toNatClampNeg ((nI 276 + nI 12 * nI b) + nI 5)) v) else none) = _
  rw [if_pos e1, e2, mt_hp _ _ _ _ _ (by omega) (by omega)]
theorem m_frames_6 (h : Hp) (S : Nat → Int32) (t l : Int32) {b : Nat} (v : Int32) (hb : b < 200) : p_X10_frames (mt h S t l) 110 (nI b) 6 v = some (mt h (upd S (276 + 12 * b + 6) v) t l) := by
  obtain ⟨e1, e2⟩ := ixL (lin3 276 12 b 6) (by omega)
  show (if ib ((nI 276 + nI 12 * nI b) + nI 6) 3715 then some (hp (mt h S t l) (110 + 6) (Int32.toNatClampNeg ((nI 276 + nI 12 * nI b) + nI 6)) v) else none) = _
  rw [if_pos e1, e2, mt_hp _ _ _ _ _ (by omega) (by omega)]
theorem m_frames_7 (h : Hp) (S : Nat → Int32) (t l : Int32) {b : Nat} (v : Int32) (hb : b < 200) : p_X10_frames (mt h S t l) 110 (nI b) 7 v = some (mt h (upd S (276 + 12 * b + 7) v) t l) := by
  obtain ⟨e1, e2⟩ := ixL (lin3 276 12 b 7) (by omega)
  show (if ib ((nI 276 + nI 12 * nI b) + nI 7) 3715 then some (hp (mt h S t l) (110 + 6) (Int32.toNatClampNeg ((nI 276 + nI 12 * nI b) + nI 7)) v) else none) = _
  rw [if_pos e1, e2, mt_hp _ _ _ _ _ (by omega) (by omega)]
theorem m_frames_8 (h : Hp) (S : Nat → Int32) (t l : Int32) {b : Nat} (v : Int32) (hb : b < 200) : p_X10_frames (mt h S t l) 110 (nI b) 8 v = some (mt h (upd S (276 + 12 * b + 8) v) t l) := by
  obtain ⟨e1, e2⟩ := ixL (lin3 276 12 b 8) (by omega)
  show (if ib ((nI 276 + nI 12 * nI b) + nI 8) 3715 then some (hp (mt h S t l) (110 + 6) (Int32.toNatClampNeg ((nI 276 + nI 12 * nI b) + nI 8)) v) else none) = _
  rw [if_pos e1, e2, mt_hp _ _ _ _ _ (by omega) (by omega)]
theorem m_frames_9 (h : Hp) (S : Nat → Int32) (t l : Int32) {b : Nat} (v : Int32) (hb : b < 200) : p_X10_frames (mt h S t l) 110 (nI b) 9 v = some (mt h (upd S (276 + 12 * b + 9) v) t l) := by
  obtain ⟨e1, e2⟩ := ixL (lin3 276 12 b 9) (by omega)
  show (if ib ((nI 276 + nI 12 * nI b) + nI 9) 3715 then some (hp (mt h S t l) (110 + 6) (Int32.toNatClampNeg ((nI 276 + nI 12 * nI b) + nI 9)) v) else none) = _
  rw [if_pos e1, e2, mt_hp _ _ _ _ _ (by omega) (by omega)]
theorem m_frames_10 (h : Hp) (S : Nat → Int32) (t l : Int32) {b : Nat} (v : Int32) (hb : b < 200) : p_X10_frames (mt h S t l) 110 (nI b) 10 v = some (mt h (upd S (276 + 12 * b + 10) v) t l) := by
  obtain ⟨e1, e2⟩ := ixL (lin3 276 12 b 10) (by omega)
  show (if ib ((nI 276 + nI 12 * nI b) + nI 10) 3715 then some (hp (mt h S t l) (110 + 6) (Int32.toNatClampNeg ((nI 276 + nI 12 * nI b) + nI 10)) v) else none) = _
  rw [if_pos e1, e2, mt_hp _ _ _ _ _ (by omega) (by omega)]
theorem m_frames_11 (h : Hp) (S : Nat → Int32) (t l : Int32) {b : Nat} (v : Int32) (hb : b < 200) : p_X10_frames (mt h S t l) 110 (nI b) 11 v = some (mt h (upd S (276 + 12 * b + 11) v) t l) := by
  obtain ⟨e1, e2⟩ := ixL (lin3 276 12 b 11) (by omega)
  show (if ib ((nI 276 + nI 12 * nI b) + nI 11) 3715 then some (hp (mt h S t l) (110 + 6) (Int32.toNatClampNeg ((nI 276 + nI 12 * nI b) + nI 11)) v) else none) = _
  rw [if_pos e1, e2, mt_hp _ _ _ _ _ (by omega) (by omega)]
theorem m_sends0_0 (h : Hp) (S : Nat → Int32) (t l : Int32) {b : Nat} (v : Int32) (hb : b < 4) : p_X10_sends0 (mt h S t l) 110 (nI b) 0 v = some (mt h (upd S (3478 + 9 * b + 0) v) t l) := by
  obtain ⟨e1, e2⟩ := ixL (lin3 3478 9 b 0) (by omega)
  show (if ib ((nI 3478 + nI 9 * nI b) + nI 0) 3715 then some (hp (mt h S t l) (110 + 6) (Int32.toNatClampNeg ((nI 3478 + nI 9 * nI b) + nI 0)) v) else none) = _
  rw [if_pos e1, e2, mt_hp _ _ _ _ _ (by omega) (by omega)]
theorem m_sends0_1 (h : Hp) (S : Nat → Int32) (t l : Int32) {b : Nat} (v : Int32) (hb : b < 4) : p_X10_sends0 (mt h S t l) 110 (nI b) 1 v = some (mt h (upd S (3478 + 9 * b + 1) v) t l) := by
  obtain ⟨e1, e2⟩ := ixL (lin3 3478 9 b 1) (by omega)
  show (if ib ((nI 3478 + nI 9 * nI b) + nI 1) 3715 then some (hp (mt h S t l) (110 + 6) (Int32.toNatClampNeg ((nI 3478 + nI 9 * nI b) + nI 1)) v) else none) = _
  rw [if_pos e1, e2, mt_hp _ _ _ _ _ (by omega) (by omega)]
theorem m_sends0_2 (h : Hp) (S : Nat → Int32) (t l : Int32) {b : Nat} (v : Int32) (hb : b < 4) : p_X10_sends0 (mt h S t l) 110 (nI b) 2 v = some (mt h (upd S (3478 + 9 * b + 2) v) t l) := by
  obtain ⟨e1, e2⟩ := ixL (lin3 3478 9 b 2) (by omega)
  show (if ib ((nI 3478 + nI 9 * nI b) + nI 2) 3715 then some (hp (mt h S t l) (110 + 6) (Int32.toNatClampNeg ((nI 3478 + nI 9 * nI b) + nI 2)) v) else none) = _
  rw [if_pos e1, e2, mt_hp _ _ _ _ _ (by omega) (by omega)]
theorem m_sends0_3 (h : Hp) (S : Nat → Int32) (t l : Int32) {b : Nat} (v : Int32) (hb : b < 4) : p_X10_sends0 (mt h S t l) 110 (nI b) 3 v = some (mt h (upd S (3478 + 9 * b + 3) v) t l) := by
  obtain ⟨e1, e2⟩ := ixL (lin3 3478 9 b 3) (by omega)
  show (if ib ((nI 3478 + nI 9 * nI b) + nI 3) 3715 then some (hp (mt h S t l) (110 + 6) (Int32.toNatClampNeg ((nI 3478 + nI 9 * nI b) + nI 3)) v) else none) = _
  rw [if_pos e1, e2, mt_hp _ _ _ _ _ (by omega) (by omega)]
theorem m_sends0_4 (h : Hp) (S : Nat → Int32) (t l : Int32) {b : Nat} (v : Int32) (hb : b < 4) : p_X10_sends0 (mt h S t l) 110 (nI b) 4 v = some (mt h (upd S (3478 + 9 * b + 4) v) t l) := by
  obtain ⟨e1, e2⟩ := ixL (lin3 3478 9 b 4) (by omega)
  show (if ib ((nI 3478 + nI 9 * nI b) + nI 4) 3715 then some (hp (mt h S t l) (110 + 6) (Int32.toNatClampNeg ((nI 3478 + nI 9 * nI b) + nI 4)) v) else none) = _
  rw [if_pos e1, e2, mt_hp _ _ _ _ _ (by omega) (by omega)]
theorem m_sends0_5 (h : Hp) (S : Nat → Int32) (t l : Int32) {b : Nat} (v : Int32) (hb : b < 4) : p_X10_sends0 (mt h S t l) 110 (nI b) 5 v = some (mt h (upd S (3478 + 9 * b + 5) v) t l) := by
  obtain ⟨e1, e2⟩ := ixL (lin3 3478 9 b 5) (by omega)
  show (if ib ((nI 3478 + nI 9 * nI b) + nI 5) 3715 then some (hp (mt h S t l) (110 + 6) (Int32.toNatClampNeg ((nI 3478 + nI 9 * nI b) + nI 5)) v) else none) = _
  rw [if_pos e1, e2, mt_hp _ _ _ _ _ (by omega) (by omega)]
theorem m_sends0_6 (h : Hp) (S : Nat → Int32) (t l : Int32) {b : Nat} (v : Int32) (hb : b < 4) : p_X10_sends0 (mt h S t l) 110 (nI b) 6 v = some (mt h (upd S (3478 + 9 * b + 6) v) t l) := by
  obtain ⟨e1, e2⟩ := ixL (lin3 3478 9 b 6) (by omega)
  show (if ib ((nI 3478 + nI 9 * nI b) + nI 6) 3715 then some (hp (mt h S t l) (110 + 6) (Int32.toNatClampNeg ((nI 3478 + nI 9 * nI b) + nI 6)) v) else none) = _
  rw [if_pos e1, e2, mt_hp _ _ _ _ _ (by omega) (by omega)]
theorem m_sends0_7 (h : Hp) (S : Nat → Int32) (t l : Int32) {b : Nat} (v : Int32) (hb : b < 4) : p_X10_sends0 (mt h S t l) 110 (nI b) 7 v = some (mt h (upd S (3478 + 9 * b + 7) v) t l) := by
  obtain ⟨e1, e2⟩ := ixL (lin3 3478 9 b 7) (by omega)
  show (if ib ((nI 3478 + nI 9 * nI b) + nI 7) 3715 then some (hp (mt h S t l) (110 + 6) (Int32.toNatClampNeg ((nI 3478 + nI 9 * nI b) + nI 7)) v) else none) = _
  rw [if_pos e1, e2, mt_hp _ _ _ _ _ (by omega) (by omega)]
theorem m_sends0_8 (h : Hp) (S : Nat → Int32) (t l : Int32) {b : Nat} (v : Int32) (hb : b < 4) : p_X10_sends0 (mt h S t l) 110 (nI b) 8 v = some (mt h (upd S (3478 + 9 * b + 8) v) t l) := by
  obtain ⟨e1, e2⟩ := ixL (lin3 3478 9 b 8) (by omega)
  show (if ib ((nI 3478 + nI 9 * nI b) + nI 8) 3715 then some (hp (mt h S t l) (110 + 6) (Int32.toNatClampNeg ((nI 3478 + nI 9 * nI b) + nI 8)) v) else none) = _
  rw [if_pos e1, e2, mt_hp _ _ _ _ _ (by omega) (by omega)]
theorem m_target (h : Hp) (S : Nat → Int32) (t l : Int32) : p_X10_target (mt h S t l) 110 = some (t, mt h S t l) := by
  show some (mt h S t l (110 + 6) 4, mt h S t l) = _
  rw [mt_4]
theorem m_interval (h : Hp) (S : Nat → Int32) (t l : Int32) : p_X10_interval (mt h S t l) 110 = some (S 5, mt h S t l) := by
  show some (mt h S t l (110 + 6) 5, mt h S t l) = _
  rw [mt_r _ _ _ _ (by omega) (by omega)]
theorem m_quantum (h : Hp) (S : Nat → Int32) (t l : Int32) : p_X10_quantum (mt h S t l) 110 = some (S 6, mt h S t l) := by
  show some (mt h S t l (110 + 6) 6, mt h S t l) = _
  rw [mt_r _ _ _ _ (by omega) (by omega)]
theorem m_buckets (h : Hp) (S : Nat → Int32) (t l : Int32) : p_X10_buckets (mt h S t l) 110 = some (S 10 * S 11, mt h S t l) := by
  show some (mt h S t l (110 + 6) 10 * mt h S t l (110 + 6) 11, mt h S t l) = _
  rw [mt_r _ _ _ _ (by omega) (by omega), mt_r _ _ _ _ (by omega) (by omega)]
/-- the list's number as the reference has it: 1 new, 2 old -/
theorem ix_many {l : Nat} (hl : l < 2) : ib ((12 + nI (l + 1)) - 1) 3715 ∧ Int32.toNatClampNeg ((12 + nI (l + 1)) - 1) = 12 + l := by
  have e : (12 + nI (l + 1)) - 1 = nI (12 + l) := by
    show (nI 12 + nI (l + 1)) - 1 = _
    rw [nI_add, ← Nat.add_assoc, nI_pred]
  rw [e]
  exact ⟨ib_n (by omega) (by omega), nI_clamp (by omega)⟩
theorem ix_list {l i : Nat} (hl : l < 2) (hi : i < 17) : ib ((18 + (16 * (nI (l + 1) - 1))) + nI i) 3715 ∧ Int32.toNatClampNeg ((18 + (16 * (nI (l + 1) - 1))) + nI i) = 18 + 16 * l + i := by
  have e : (18 + (16 * (nI (l + 1) - 1))) + nI i = nI (18 + 16 * l + i) := by
    rw [nI_pred]
    exact lin3 18 16 l i
  rw [e]
  exact ⟨ib_n (by omega) (by omega), nI_clamp (by omega)⟩
theorem m_manyIn (h : Hp) (S : Nat → Int32) (t u : Int32) {l : Nat} (hl : l < 2) : p_X10_manyIn (mt h S t u) 110 (nI (l + 1)) = some (S (12 + l), mt h S t u) := by
  obtain ⟨e1, e2⟩ := ix_many hl
  unfold p_X10_manyIn
  rw [if_pos e1, e2, mt_r _ _ _ _ (by omega) (by omega)]
theorem m_inList (h : Hp) (S : Nat → Int32) (t u : Int32) {l i : Nat} (hl : l < 2) (hi : i < 16) : p_X10_inList (mt h S t u) 110 (nI (l + 1)) (nI i) = some (S (18 + 16 * l + i), mt h S t u) := by
  obtain ⟨e1, e2⟩ := ix_list hl (show i < 17 by omega)
  unfold p_X10_inList
  rw [if_pos e1, e2, mt_r _ _ _ _ (by omega) (by omega)]
/-- entering a list -/
def sEn (S : Nat → Int32) (b l n : Nat) : Nat → Int32 := upd (upd (upd S (18 + 16 * l + n) (nI b)) (12 + l) (nI (n + 1))) (68 + 13 * b + 2) (nI (l + 1))
theorem m_enters (h : Hp) (S : Nat → Int32) (t u : Int32) {b l n : Nat} (hb : b < 16) (hl : l < 2) (hn : n < 16) (hc : S (12 + l) = nI n) : p_X10_enters (mt h S t u) 110 (nI b) (nI (l + 1)) = some (mt h (sEn S b l n) t u) := by
  obtain ⟨e1, e2⟩ := ix_many hl
  obtain ⟨e3, e4⟩ := ix_list hl (show n < 17 by omega)
  unfold p_X10_enters sEn
  rw [m_manyIn h S t u hl, Option.bind_some, hc, if_pos e3, e4, mt_hp _ _ _ _ _ (by omega) (by omega), nv_eq, if_pos e1, if_pos e1, e2, mt_hp _ _ _ _ _ (by omega) (by omega), mt_r _ _ _ _ (by omega) (by omega), nv_eq]
  rw [upd_n _ _ (show 12 + l ≠ 18 + 16 * l + n by omega), hc, nI_1]
  show Option.bind (p_X10_puts (mt h _ t u) 110 (nI b) 2 (nI (l + 1))) _ = _
  rw [m_puts_2 h _ _ _ _ hb]
  rfl
def shf (S : Nat → Int32) (a i : Nat) : Nat → Int32 := fun j => if a ≤ j ∧ j < a + i then S (j + 1) else S j
theorem shf_0 (S : Nat → Int32) (a : Nat) : shf S a 0 = S := funext fun j => if_neg (by omega)
theorem shf_n (S : Nat → Int32) {a i j : Nat} (e : j < a ∨ a + i ≤ j) : shf S a i j = S j := if_neg (by omega)
theorem shf_i (S : Nat → Int32) {a i j : Nat} (e : a ≤ j) (e2 : j < a + i) : shf S a i j = S (j + 1) := if_pos ⟨e, e2⟩
theorem shf_s (S : Nat → Int32) (a i : Nat) : upd (shf S a i) (a + i) (shf S a i (a + i + 1)) = shf S a (i + 1) := by
  funext j
  unfold upd shf
  by_cases e : j = a + i
  · rw [if_pos e, if_neg (by omega), if_pos (by omega), e]
  · rw [if_neg e]
    by_cases e2 : a ≤ j ∧ j < a + i
    · rw [if_pos e2, if_pos (by omega)]
    · rw [if_neg e2, if_neg (by omega)]
/-- leaving a list at its head, which is b -/
def sLv (S : Nat → Int32) (b l n : Nat) : Nat → Int32 := upd (shf (upd S (12 + l) (nI n)) (18 + 16 * l) n) (68 + 13 * b + 2) 0
theorem lv_lp (h : Hp) (S : Nat → Int32) (t u : Int32) {b l n : Nat} (hb : b < 16) (hl : l < 2) (hn : n < 16) (hc : S (12 + l) = nI n) (k : Nat) : ∀ (i m : Nat), i + k = n → k < m → lp (b_X10_leaves_24 110 (nI (l + 1)) (nI b)) m (mt h (shf S (18 + 16 * l) i) t u, nI i) = some (mt h (upd (shf S (18 + 16 * l) n) (68 + 13 * b + 2) 0) t u) := by
  induction k with
  | zero =>
    intro i m h1 h2
    obtain ⟨m', rfl⟩ : ∃ m', m = m' + 1 := ⟨m - 1, by omega⟩
    have e : i = n := by omega
    subst e
    have er : shf S (18 + 16 * l) i (12 + l) = nI i := by rw [shf_n _ (by omega), hc]
    rw [lp_s]
    simp only [b_X10_leaves_24]
    rw [m_manyIn h _ _ _ hl, Option.bind_some, er, if_pos (nI_le (Nat.le_refl i) (by omega)), m_puts_2 h _ _ _ _ hb]
    rfl
  | succ k ih =>
    intro i m h1 h2
    obtain ⟨m', rfl⟩ : ∃ m', m = m' + 1 := ⟨m - 1, by omega⟩
    have ih' := ih (i + 1) m' (by omega) (by omega)
    have er : shf S (18 + 16 * l) i (12 + l) = nI n := by rw [shf_n _ (by omega), hc]
    obtain ⟨e1, e2⟩ := ix_list hl (show i < 17 by omega)
    obtain ⟨e3, e4⟩ := ix_list hl (show i + 1 < 17 by omega)
    have e5 : ((18 + (16 * (nI (l + 1) - 1))) + nI i) + 1 = (18 + (16 * (nI (l + 1) - 1))) + nI (i + 1) := by rw [Int32.add_assoc, nI_1]
    rw [lp_s]
    have e6 : ¬ nI n ≤ nI i := nI_ge (by omega) (by omega)
    have r1 := mt_r h (shf S (18 + 16 * l) i) t u (k := 18 + 16 * l + (i + 1)) (by omega) (by omega)
    have r2 := mt_hp h (shf S (18 + 16 * l) i) t u (k := 18 + 16 * l + i) (shf S (18 + 16 * l) i (18 + 16 * l + i + 1)) (by omega) (by omega)
    rw [← Nat.add_assoc] at r1
    simp only [b_X10_leaves_24, m_manyIn h _ _ _ hl, Option.bind_some, er, if_neg e6, e5, if_pos e3, if_pos e1, e2, e4, nv_eq, nI_1, ← Nat.add_assoc, r1, r2, shf_s]
    exact ih'
theorem m_leaves (h : Hp) (S : Nat → Int32) (t u : Int32) {b l n : Nat} (hb : b < 16) (hl : l < 2) (hn : n < 16) (hc : S (12 + l) = nI (n + 1)) (hh : S (18 + 16 * l) = nI b) : p_X10_leaves (mt h S t u) 110 (nI (l + 1)) = some (mt h (sLv S b l n) t u) := by
  obtain ⟨e1, e2⟩ := ix_many hl
  have e0 : p_X10_inList (mt h S t u) 110 (nI (l + 1)) 0 = some (nI b, mt h S t u) := by
    have := m_inList h S t u hl (show 0 < 16 by omega)
    rw [show 18 + 16 * l + 0 = 18 + 16 * l from rfl, hh] at this
    exact this
  have hf : n < FU := FU_gt (by omega)
  have key := lv_lp h (upd S (12 + l) (nI n)) t u hb hl hn (upd_s _ _ _) n 0 FU (by omega) hf
  rw [shf_0, nI_0] at key
  unfold p_X10_leaves sLv
  have r1 := mt_r h S t u (k := 12 + l) (by omega) (by omega)
  have r2 := mt_hp h S t u (k := 12 + l) (nI n) (by omega) (by omega)
  rw [e0, Option.bind_some]
  generalize lp (b_X10_leaves_24 110 (nI (l + 1)) (nI b)) FU = K at key ⊢
  show (if ib ((12 + nI (l + 1)) - 1) 3715 then (if ib ((12 + nI (l + 1)) - 1) 3715 then (nv (hp (mt h S t u) (110 + 6) (Int32.toNatClampNeg ((12 + nI (l + 1)) - 1)) ((mt h S t u (110 + 6) (Int32.toNatClampNeg ((12 + nI (l + 1)) - 1))) - 1)) fun h9 => K (h9, 0)) else none) else none) = _
  rw [if_pos e1, if_pos e1, e2, r1, hc, nI_pred, r2, nv_eq]
  exact key
/-- what happens to a frame, in its order -/
def sHap (S : Nat → Int32) (k c f : Nat) : Nat → Int32 := upd (upd S (2676 + 200 * k + c) (nI f)) (14 + k) (nI (c + 1))
theorem m_happens (h : Hp) (S : Nat → Int32) (t l : Int32) {k c f : Nat} (hk : k < 4) (hc : c < 200) (he : S (14 + k) = nI c) : p_X10_happens (mt h S t l) 110 (nI k) (nI f) = some (mt h (sHap S k c f) t l) := by
  have e0 : (14 : Int32) + nI k = nI (14 + k) := nI_add 14 k
  obtain ⟨e1, e2⟩ := ixL (x := 14 + nI k) (k := 14 + k) e0 (by omega)
  obtain ⟨e3, e4⟩ := ixL (x := (2676 + 200 * nI k) + nI c) (lin3 2676 200 k c) (by omega)
  have e5 : 14 + k ≠ 2676 + 200 * k + c := by omega
  have r1 := mt_r h S t l (k := 14 + k) (by omega) (by omega)
  have r2 := mt_hp h S t l (k := 2676 + 200 * k + c) (nI f) (by omega) (by omega)
  have r3 := mt_r h (upd S (2676 + 200 * k + c) (nI f)) t l (k := 14 + k) (by omega) (by omega)
  have r4 := mt_hp h (upd S (2676 + 200 * k + c) (nI f)) t l (k := 14 + k) (nI (c + 1)) (by omega) (by omega)
  unfold p_X10_happens sHap
  simp only [if_pos e1, e2, r1, he, if_pos e3, e4, r2, r3, nv_eq, upd_n _ _ e5, nI_1, r4]
/-! rows of numbers as lists -/
def AL (a : Nat → Int32) (o : Nat) (l : List Nat) : Prop := ∀ i x, l[i]? = some x → a (o + i) = nI x
theorem AL.nil (a : Nat → Int32) (o : Nat) : AL a o [] := fun i x h => by simp at h
theorem AL.cong {a a' : Nat → Int32} {o : Nat} {l : List Nat} (H : AL a o l) (e : ∀ i, i < l.length → a' (o + i) = a (o + i)) : AL a' o l := fun i x h => by
  rw [e i (List.getElem?_eq_some_iff.mp h).1]
  exact H i x h
theorem AL.snoc {a : Nat → Int32} {o : Nat} {l : List Nat} {x : Nat} (H : AL a o l) (e : a (o + l.length) = nI x) : AL a o (l ++ [x]) := fun i y h => by
  by_cases hi : i < l.length
  · rw [List.getElem?_append_left hi] at h
    exact H i y h
  · rw [List.getElem?_append_right (by omega)] at h
    have h2 : i - l.length = 0 := by
      have := (List.getElem?_eq_some_iff.mp h).1
      simp at this
      omega
    rw [h2] at h
    simp at h
    rw [show i = l.length by omega, e, h]
theorem AL.snoc_u {a : Nat → Int32} {o : Nat} {l : List Nat} {x : Nat} (H : AL a o l) : AL (upd a (o + l.length) (nI x)) o (l ++ [x]) :=
  AL.snoc (H.cong fun i hi => upd_n _ _ (by omega)) (upd_s _ _ _)
theorem AL.head {a : Nat → Int32} {o x : Nat} {l : List Nat} (H : AL a o (x :: l)) : a o = nI x := H 0 x rfl
theorem AL.tail {a a' : Nat → Int32} {o x : Nat} {l : List Nat} (H : AL a o (x :: l)) (e : ∀ i, i < l.length → a' (o + i) = a (o + i + 1)) : AL a' o l := fun i y h => by
  rw [e i (List.getElem?_eq_some_iff.mp h).1]
  exact H (i + 1) y (by simpa using h)
theorem AL.left {a : Nat → Int32} {o : Nat} {l l' : List Nat} (H : AL a o (l ++ l')) : AL a o l := fun i x h => H i x (by rw [List.getElem?_append_left (List.getElem?_eq_some_iff.mp h).1]; exact h)
theorem AL.right {a : Nat → Int32} {o : Nat} {l l' : List Nat} (H : AL a o (l ++ l')) : AL a (o + l.length) l' := fun i x h => by
  have := H (l.length + i) x (by rw [List.getElem?_append_right (by omega)]; simpa using h)
  rw [← Nat.add_assoc] at this
  exact this
theorem AL.join {a : Nat → Int32} {o : Nat} {l l' : List Nat} (H : AL a o l) (H' : AL a (o + l.length) l') : AL a o (l ++ l') := fun i x h => by
  by_cases hi : i < l.length
  · rw [List.getElem?_append_left hi] at h
    exact H i x h
  · rw [List.getElem?_append_right (by omega)] at h
    have := H' _ x h
    rwa [show o + l.length + (i - l.length) = o + i by omega] at this
/-- a list of different numbers below k is no longer than k -/
theorem nd_len : ∀ (k : Nat) (l : List Nat), l.Nodup → (∀ x ∈ l, x < k) → l.length ≤ k
  | 0, l, _, h => by
    cases l with
    | nil => exact Nat.le_refl 0
    | cons x l => exact absurd (h x List.mem_cons_self) (Nat.not_lt_zero x)
  | k + 1, l, hd, h => by
    by_cases hk : k ∈ l
    · have h1 := nd_len k (l.erase k) (hd.erase k) (fun x hx => by
        have h2 := (List.Nodup.mem_erase_iff hd).mp hx
        have h3 := h x h2.2
        have h4 := h2.1
        omega)
      have h5 := List.length_erase_of_mem hk
      omega
    · have h1 := nd_len k l hd (fun x hx => by
        have h3 := h x hx
        have h4 : x ≠ k := fun e => hk (e ▸ hx)
        omega)
      omega
/-! a while-loop by a measure -/
theorem lp_w {β α : Type} {b : (β → Option α) → β → Option α} (P : Nat → β → Prop) (Q : α → Prop)
    (H : ∀ (K : β → Option α) (k : Nat) (q : β), P k q → (∃ k' q', k' < k ∧ P k' q' ∧ b K q = K q') ∨ (∃ r, Q r ∧ b K q = some r)) : ∀ (m k : Nat) (q : β), P k q → k < m → ∃ r, lp b m q = some r ∧ Q r
  | 0, k, q, _, h => absurd h (Nat.not_lt_zero k)
  | m + 1, k, q, hP, h => by
    rw [lp_s]
    rcases H (lp b m) k q hP with ⟨k', q', h1, h2, h3⟩ | ⟨r, h1, h2⟩
    · rw [h3]
      exact lp_w P Q H m k' q' h2 (by omega)
    · exact ⟨r, h2, h1⟩
/-- for i from i0 up to N, with a state told by a function of i -/
theorem lp_for {β α : Type} {b : (β → Option α) → β → Option α} (e : Nat → β) (N : Nat) (r : α)
    (h1 : ∀ (K : β → Option α) (i : Nat), i < N → b K (e i) = K (e (i + 1))) (h2 : ∀ K : β → Option α, b K (e N) = some r) : ∀ (k i m : Nat), i + k = N → k < m → lp b m (e i) = some r
  | 0, i, m, hi, hm => by
    obtain ⟨m', rfl⟩ : ∃ m', m = m' + 1 := ⟨m - 1, by omega⟩
    rw [lp_s, show i = N by omega, h2]
  | k + 1, i, m, hi, hm => by
    obtain ⟨m', rfl⟩ : ∃ m', m = m' + 1 := ⟨m - 1, by omega⟩
    rw [lp_s, h1 _ i (by omega)]
    exact lp_for e N r h1 h2 k (i + 1) m' (by omega) (by omega)
/-- the first i from i0 on below N with a hit: there the loop ends -/
theorem lp_hit {β α : Type} {b : (β → Option α) → β → Option α} (e : Nat → β) (N : Nat) (r : α)
    (h1 : ∀ (K : β → Option α) (i : Nat), i < N → b K (e i) = K (e (i + 1))) (h2 : ∀ K : β → Option α, b K (e N) = some r) (i m : Nat) (hi : i ≤ N) (hm : N - i < m) : lp b m (e i) = some r :=
  lp_for e N r h1 h2 (N - i) i m (by omega) hm
