/-! the reader: its objects; tokens -/
def cH (h : Hp) (c O Q : Nat → Int32) : Hp := va_up (va_up (va_up h 1 c) 3 O) 4 Q
theorem cH_1 (h : Hp) (c O Q : Nat → Int32) : cH h c O Q (0 + 1) = c := by
  unfold cH
  rw [va_up_ne _ _ (by omega), va_up_ne _ _ (by omega)]
  exact va_up_self h 1 c
theorem cH_3 (h : Hp) (c O Q : Nat → Int32) : cH h c O Q (0 + 1 + 2) = O := by
  unfold cH
  rw [va_up_ne _ _ (by omega)]
  exact va_up_self _ 3 O
theorem cH_4 (h : Hp) (c O Q : Nat → Int32) : cH h c O Q (0 + 1 + 3) = Q := va_up_self _ 4 Q
theorem cH_n (h : Hp) (c O Q : Nat → Int32) {o : Nat} (h1 : o ≠ 1) (h3 : o ≠ 3) (h4 : o ≠ 4) : cH h c O Q o = h o := by
  unfold cH
  rw [va_up_ne _ _ h4, va_up_ne _ _ h3, va_up_ne _ _ h1]
theorem cH_2 (h : Hp) (c O Q : Nat → Int32) : cH h c O Q (0 + 1 + 1) = h 2 := cH_n h c O Q (by omega) (by omega) (by omega)
theorem hp_ext {h h' : Hp} (e : ∀ o, h o = h' o) : h = h' := funext e
theorem cH_w1 (h : Hp) (c O Q : Nat → Int32) (j : Nat) (v : Int32) : hp (cH h c O Q) (0 + 1) j v = cH h (upd c j v) O Q := by
  refine hp_ext fun o => ?_
  by_cases e1 : o = 1
  · subst e1
    rw [show (1 : Nat) = 0 + 1 from rfl, cH_1]
    unfold hp
    rw [va_up_self, cH_1]
  · rw [hp_n (show o ≠ 0 + 1 from e1)]
    by_cases e3 : o = 3
    · subst e3
      rw [show (3 : Nat) = 0 + 1 + 2 from rfl, cH_3, cH_3]
    · by_cases e4 : o = 4
      · subst e4
        rw [show (4 : Nat) = 0 + 1 + 3 from rfl, cH_4, cH_4]
      · rw [cH_n _ _ _ _ e1 e3 e4, cH_n _ _ _ _ e1 e3 e4]
theorem cH_w3 (h : Hp) (c O Q : Nat → Int32) (j : Nat) (v : Int32) : hp (cH h c O Q) (0 + 1 + 2) j v = cH h c (upd O j v) Q := by
  refine hp_ext fun o => ?_
  by_cases e3 : o = 3
  · subst e3
    rw [show (3 : Nat) = 0 + 1 + 2 from rfl, cH_3]
    unfold hp
    rw [va_up_self, cH_3]
  · rw [hp_n (show o ≠ 0 + 1 + 2 from e3)]
    by_cases e1 : o = 1
    · subst e1
      rw [show (1 : Nat) = 0 + 1 from rfl, cH_1, cH_1]
    · by_cases e4 : o = 4
      · subst e4
        rw [show (4 : Nat) = 0 + 1 + 3 from rfl, cH_4, cH_4]
      · rw [cH_n _ _ _ _ e1 e3 e4, cH_n _ _ _ _ e1 e3 e4]
theorem cH_w4 (h : Hp) (c O Q : Nat → Int32) (j : Nat) (v : Int32) : hp (cH h c O Q) (0 + 1 + 3) j v = cH h c O (upd Q j v) := by
  refine hp_ext fun o => ?_
  by_cases e4 : o = 4
  · subst e4
    rw [show (4 : Nat) = 0 + 1 + 3 from rfl, cH_4]
    unfold hp
    rw [va_up_self, cH_4]
  · rw [hp_n (show o ≠ 0 + 1 + 3 from e4)]
    by_cases e1 : o = 1
    · subst e1
      rw [show (1 : Nat) = 0 + 1 from rfl, cH_1, cH_1]
    · by_cases e3 : o = 3
      · subst e3
        rw [show (3 : Nat) = 0 + 1 + 2 from rfl, cH_3, cH_3]
      · rw [cH_n _ _ _ _ e1 e3 e4, cH_n _ _ _ _ e1 e3 e4]
theorem cH_eta (h : Hp) : cH h (h 1) (h 3) (h 4) = h := by
  refine hp_ext fun o => ?_
  by_cases e1 : o = 1
  · subst e1
    exact cH_1 h _ _ _
  · by_cases e3 : o = 3
    · subst e3
      exact cH_3 h _ _ _
    · by_cases e4 : o = 4
      · subst e4
        exact cH_4 h _ _ _
      · exact cH_n h _ _ _ e1 e3 e4
/-- the reference's reader: 110 itself, told 112, isTold 113, senders 114, acts 115 -/
def mH (h : Hp) (d T I Z A : Nat → Int32) : Hp := va_up (va_up (va_up (va_up (va_up h 110 d) 112 T) 113 I) 114 Z) 115 A
theorem mH_n (h : Hp) (d T I Z A : Nat → Int32) {o : Nat} (h1 : o ≠ 110) (h2 : o < 112 ∨ 115 < o) : mH h d T I Z A o = h o := by
  unfold mH
  rw [va_up_ne _ _ (by omega), va_up_ne _ _ (by omega), va_up_ne _ _ (by omega), va_up_ne _ _ (by omega), va_up_ne _ _ h1]
theorem mH_0 (h : Hp) (d T I Z A : Nat → Int32) : mH h d T I Z A 110 = d := by
  unfold mH
  rw [va_up_ne _ _ (by omega), va_up_ne _ _ (by omega), va_up_ne _ _ (by omega), va_up_ne _ _ (by omega), va_up_self]
theorem mH_2 (h : Hp) (d T I Z A : Nat → Int32) : mH h d T I Z A (110 + 2) = T := by
  unfold mH
  rw [va_up_ne _ _ (by omega), va_up_ne _ _ (by omega), va_up_ne _ _ (by omega)]
  exact va_up_self _ 112 T
theorem mH_3 (h : Hp) (d T I Z A : Nat → Int32) : mH h d T I Z A (110 + 3) = I := by
  unfold mH
  rw [va_up_ne _ _ (by omega), va_up_ne _ _ (by omega)]
  exact va_up_self _ 113 I
theorem mH_4 (h : Hp) (d T I Z A : Nat → Int32) : mH h d T I Z A (110 + 4) = Z := by
  unfold mH
  rw [va_up_ne _ _ (by omega)]
  exact va_up_self _ 114 Z
theorem mH_5 (h : Hp) (d T I Z A : Nat → Int32) : mH h d T I Z A (110 + 5) = A := va_up_self _ 115 A
theorem mH_1 (h : Hp) (d T I Z A : Nat → Int32) : mH h d T I Z A (110 + 1) = h 111 := mH_n h d T I Z A (by omega) (by omega)
theorem mH_ext {h : Hp} {g : Hp} {d T I Z A : Nat → Int32} (e0 : g 110 = d) (e2 : g (110 + 2) = T) (e3 : g (110 + 3) = I) (e4 : g (110 + 4) = Z) (e5 : g (110 + 5) = A) (en : ∀ o, o ≠ 110 → (o < 112 ∨ 115 < o) → g o = h o) : g = mH h d T I Z A := by
  refine hp_ext fun o => ?_
  by_cases c0 : o = 110
  · subst c0
    rw [e0, mH_0]
  · by_cases c : o < 112 ∨ 115 < o
    · rw [en o c0 c, mH_n _ _ _ _ _ _ c0 c]
    · rcases (show o = 110 + 2 ∨ o = 110 + 3 ∨ o = 110 + 4 ∨ o = 110 + 5 by omega) with rfl | rfl | rfl | rfl
      · rw [e2, mH_2]
      · rw [e3, mH_3]
      · rw [e4, mH_4]
      · rw [e5, mH_5]
theorem hp_self (h : Hp) (o k : Nat) (v : Int32) : hp h o k v o = upd (h o) k v := va_up_self h o _
theorem mH_w0 (h : Hp) (d T I Z A : Nat → Int32) (j : Nat) (v : Int32) : hp (mH h d T I Z A) 110 j v = mH h (upd d j v) T I Z A := by
  refine mH_ext ?_ ?_ ?_ ?_ ?_ (fun o h1 h2 => ?_)
  · rw [hp_self, mH_0]
  · rw [hp_n (by omega), mH_2]
  · rw [hp_n (by omega), mH_3]
  · rw [hp_n (by omega), mH_4]
  · rw [hp_n (by omega), mH_5]
  · rw [hp_n h1, mH_n _ _ _ _ _ _ h1 h2]
theorem mH_w2 (h : Hp) (d T I Z A : Nat → Int32) (j : Nat) (v : Int32) : hp (mH h d T I Z A) (110 + 2) j v = mH h d (upd T j v) I Z A := by
  refine mH_ext ?_ ?_ ?_ ?_ ?_ (fun o h1 h2 => ?_)
  · rw [hp_n (by omega), mH_0]
  · rw [hp_self, mH_2]
  · rw [hp_n (by omega), mH_3]
  · rw [hp_n (by omega), mH_4]
  · rw [hp_n (by omega), mH_5]
  · rw [hp_n (by omega), mH_n _ _ _ _ _ _ h1 h2]
theorem mH_w3 (h : Hp) (d T I Z A : Nat → Int32) (j : Nat) (v : Int32) : hp (mH h d T I Z A) (110 + 3) j v = mH h d T (upd I j v) Z A := by
  refine mH_ext ?_ ?_ ?_ ?_ ?_ (fun o h1 h2 => ?_)
  · rw [hp_n (by omega), mH_0]
  · rw [hp_n (by omega), mH_2]
  · rw [hp_self, mH_3]
  · rw [hp_n (by omega), mH_4]
  · rw [hp_n (by omega), mH_5]
  · rw [hp_n (by omega), mH_n _ _ _ _ _ _ h1 h2]
theorem mH_w4 (h : Hp) (d T I Z A : Nat → Int32) (j : Nat) (v : Int32) : hp (mH h d T I Z A) (110 + 4) j v = mH h d T I (upd Z j v) A := by
  refine mH_ext ?_ ?_ ?_ ?_ ?_ (fun o h1 h2 => ?_)
  · rw [hp_n (by omega), mH_0]
  · rw [hp_n (by omega), mH_2]
  · rw [hp_n (by omega), mH_3]
  · rw [hp_self, mH_4]
  · rw [hp_n (by omega), mH_5]
  · rw [hp_n (by omega), mH_n _ _ _ _ _ _ h1 h2]
theorem mH_w5 (h : Hp) (d T I Z A : Nat → Int32) (j : Nat) (v : Int32) : hp (mH h d T I Z A) (110 + 5) j v = mH h d T I Z (upd A j v) := by
  refine mH_ext ?_ ?_ ?_ ?_ ?_ (fun o h1 h2 => ?_)
  · rw [hp_n (by omega), mH_0]
  · rw [hp_n (by omega), mH_2]
  · rw [hp_n (by omega), mH_3]
  · rw [hp_n (by omega), mH_4]
  · rw [hp_self, mH_5]
  · rw [hp_n (by omega), mH_n _ _ _ _ _ _ h1 h2]
theorem mH_eta (h : Hp) : mH h (h 110) (h 112) (h 113) (h 114) (h 115) = h := (mH_ext rfl rfl rfl rfl rfl (fun _ _ _ => rfl)).symm
