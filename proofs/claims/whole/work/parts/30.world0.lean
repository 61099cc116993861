def gdT (a : Nat) (u : Nat → Nat) (am : Nat) (um : Nat → Nat) (ao : Nat) : Nat → Nat := fun o => [a, u 0, u 1, u 2, u 3, 0, 0, 0, 0, 0, u 4, u 5, u 6, u 7, u 8, u 9, u 10, u 11, u 12, u 13, u 14, u 15, u 16, u 17, u 18, u 19, u 20, u 28, u 29, u 30, u 31, u 32, u 33, u 34, u 35, u 36, u 37, u 38, u 39, u 40, u 41, u 42, u 43, u 21, u 22, u 23, u 44, u 45, u 46, u 47, u 24, u 25, u 26, u 27, 0, 0, 0, 0, 0, u 48, u 49, u 50, u 51, u 52, u 53, u 54, u 55, u 56, u 57, u 58, u 59, u 60, u 61, u 62, u 63, u 64, u 65, u 73, u 74, u 75, u 76, u 77, u 78, u 79, u 80, u 81, u 82, u 83, u 84, u 85, u 86, u 87, u 88, u 66, u 67, u 68, u 89, u 90, u 91, u 92, u 69, u 70, u 71, u 72, 0, 0, 0, 0, 0, 0, am, um 0, um 1, um 2, um 3, um 4, um 5, um 6, 0, 0, ao].getD o 0
def GG (G : GT) (a : Nat) (u : Nat → Nat) (am : Nat) (um : Nat → Nat) (ao : Nat) : GT := (G.1, gdT a u am um ao, G.2.2)
def HQ (o k : Nat) : Int32 := if kd o = 0 then [-2, -2, -2, 0, 0, 0, 0, 0, 0, 0, -2, 65535, 0, 0].getD k 0 else if kd o = 4 then [0, 0, 100, 0, 0, 0, 0, -2, 0, 0].getD k 0 else if kd o = 7 then (if k = 12 then 99999999 else 0) else if kd o = 10008 then tbv 3 k else if kd o = 3 then (if k = 11 then -1 else 0) else 0
def H0 (h2 : Hp) : Hp := fun o k => if o < 110 then HQ o k else if o = 120 then 0 else h2 o k
theorem H0_q {h2 : Hp} {o : Nat} (h : o < 110) : H0 h2 o = HQ o := by
  funext k
  exact if_pos h
theorem HQ_0 {o : Nat} (h : kd o = 0) : HQ o = fun k => [-2, -2, -2, 0, 0, 0, 0, 0, 0, 0, -2, 65535, 0, 0].getD k 0 := by
  funext k
  exact if_pos h
theorem HQ_4 {o : Nat} (h : kd o = 4) : HQ o = fun k => [0, 0, 100, 0, 0, 0, 0, -2, 0, 0].getD k 0 := by
  funext k
  unfold HQ
  rw [h]
  rfl
theorem HQ_7 {o : Nat} (h : kd o = 7) : HQ o = fun k => if k = 12 then 99999999 else 0 := by
  funext k
  unfold HQ
  rw [h]
  rfl
theorem HQ_s {o : Nat} (h : kd o = 10008) : HQ o = tbv 3 := by
  funext k
  unfold HQ
  rw [h]
  rfl
theorem HQ_3 {o : Nat} (h : kd o = 3) : HQ o = fun k => if k = 11 then -1 else 0 := by
  funext k
  unfold HQ
  rw [h]
  rfl
theorem HQ_z {o : Nat} (h0 : kd o ≠ 0) (h4 : kd o ≠ 4) (h7 : kd o ≠ 7) (hs : kd o ≠ 10008) (h3 : kd o ≠ 3) : HQ o = fun _ => 0 := by
  funext k
  unfold HQ
  rw [if_neg h0, if_neg h4, if_neg h7, if_neg hs, if_neg h3]
theorem arrV_cg (c : ClassId) (n : Nat) {f g : Nat → Value} (h : ∀ j, j < n → f j = g j) : arrV c n f = arrV c n g := by
  unfold arrV
  congr 1
  exact congrArg (Array.ofFn (n := n)) (funext fun j => h j.val j.isLt)
theorem at_i {D : va_G} {a n : Nat} {c : ClassId} {f g : Nat → Int32} {H : Heap} (h : ∀ j, j < n → f j = g j) (k : va_at D vwCl (a, .inl (c, n, .inl f)) H) : va_at D vwCl (a, .inl (c, n, .inl g)) H := by
  have e : arrV c n (fun j => .int (f j)) = arrV c n (fun j => .int (g j)) := arrV_cg c n (fun j hj => by rw [h j hj])
  have k1 : H[a]? = some (arrV c n (fun j => .int (f j))) := k
  rw [e] at k1
  exact k1
theorem at_r {D : va_G} {a n : Nat} {c : ClassId} {f g : Nat → Option Nat} {H : Heap} (h : ∀ j, j < n → f j = g j) (k : va_at D vwCl (a, .inl (c, n, .inr (.inr (.inr (.inr f))))) H) : va_at D vwCl (a, .inl (c, n, .inr (.inr (.inr (.inr g))))) H := by
  have e : arrV c n (fun j => va_rf (f j)) = arrV c n (fun j => va_rf (g j)) := arrV_cg c n (fun j hj => by rw [h j hj])
  have k1 : H[a]? = some (arrV c n (fun j => va_rf (f j))) := k
  rw [e] at k1
  exact k1
def W3 (G : GT) (a : Nat) (u : Nat → Nat) (am : Nat) (um : Nat → Nat) (ao : Nat) (h2 : Hp) : va_W := (wN_X9 G a u ++ wN_X10 G am h2 um) ++ [(ao, .inl (gca G 4, 1, .inr (.inl (fun _ => 0))))]
theorem fk_0 {G : GT} {a : Nat} {u : Nat → Nat} {am : Nat} {um : Nat → Nat} {ao : Nat} {h2 : Hp} {H : Heap} (hP : va_P G.1 vwCl (W3 G a u am um ao h2) H) : va_at G.1 vwCl (gad (GG G a u am um ao) 0, ce (GG G a u am um ao) (H0 h2) 0) H := by
  have e : H0 h2 0 = _ := (H0_q (by decide)).trans (HQ_z (by decide +kernel) (by decide +kernel) (by decide +kernel) (by decide +kernel) (by decide +kernel))
  rw [ce_o (c := 8) (by decide +kernel) (by decide)]
  simp only [flds, e]
  exact hP 0 _ rfl
theorem fk_1 {G : GT} {a : Nat} {u : Nat → Nat} {am : Nat} {um : Nat → Nat} {ao : Nat} {h2 : Hp} {H : Heap} (hP : va_P G.1 vwCl (W3 G a u am um ao h2) H) : va_at G.1 vwCl (gad (GG G a u am um ao) 1, ce (GG G a u am um ao) (H0 h2) 1) H := by
  have e : H0 h2 1 = _ := (H0_q (by decide)).trans (HQ_3 (by decide +kernel))
  rw [ce_o (c := 3) (by decide +kernel) (by decide)]
  simp only [flds, e]
  exact hP 1 _ rfl
theorem fk_2 {G : GT} {a : Nat} {u : Nat → Nat} {am : Nat} {um : Nat → Nat} {ao : Nat} {h2 : Hp} {H : Heap} (hP : va_P G.1 vwCl (W3 G a u am um ao h2) H) : va_at G.1 vwCl (gad (GG G a u am um ao) 2, ce (GG G a u am um ao) (H0 h2) 2) H := by
  rw [ce_i (n := 900) (by decide +kernel) (by decide), H0_q (by decide), HQ_z (by decide +kernel) (by decide +kernel) (by decide +kernel) (by decide +kernel) (by decide +kernel)]
  exact hP 2 _ rfl
theorem fk_3 {G : GT} {a : Nat} {u : Nat → Nat} {am : Nat} {um : Nat → Nat} {ao : Nat} {h2 : Hp} {H : Heap} (hP : va_P G.1 vwCl (W3 G a u am um ao h2) H) : va_at G.1 vwCl (gad (GG G a u am um ao) 3, ce (GG G a u am um ao) (H0 h2) 3) H := by
  rw [ce_i (n := 900) (by decide +kernel) (by decide), H0_q (by decide), HQ_z (by decide +kernel) (by decide +kernel) (by decide +kernel) (by decide +kernel) (by decide +kernel)]
  exact hP 3 _ rfl
theorem fk_4 {G : GT} {a : Nat} {u : Nat → Nat} {am : Nat} {um : Nat → Nat} {ao : Nat} {h2 : Hp} {H : Heap} (hP : va_P G.1 vwCl (W3 G a u am um ao h2) H) : va_at G.1 vwCl (gad (GG G a u am um ao) 4, ce (GG G a u am um ao) (H0 h2) 4) H := by
  rw [ce_i (n := 4) (by decide +kernel) (by decide), H0_q (by decide), HQ_z (by decide +kernel) (by decide +kernel) (by decide +kernel) (by decide +kernel) (by decide +kernel)]
  exact hP 4 _ rfl
theorem fk_10 {G : GT} {a : Nat} {u : Nat → Nat} {am : Nat} {um : Nat → Nat} {ao : Nat} {h2 : Hp} {H : Heap} (hP : va_P G.1 vwCl (W3 G a u am um ao h2) H) : va_at G.1 vwCl (gad (GG G a u am um ao) 10, ce (GG G a u am um ao) (H0 h2) 10) H := by
  have e : H0 h2 10 = _ := (H0_q (by decide)).trans (HQ_7 (by decide +kernel))
  rw [ce_o (c := 7) (by decide +kernel) (by decide)]
  simp only [flds, e]
  exact hP 5 _ rfl
theorem fk_11 {G : GT} {a : Nat} {u : Nat → Nat} {am : Nat} {um : Nat → Nat} {ao : Nat} {h2 : Hp} {H : Heap} (hP : va_P G.1 vwCl (W3 G a u am um ao h2) H) : va_at G.1 vwCl (gad (GG G a u am um ao) 11, ce (GG G a u am um ao) (H0 h2) 11) H := by
  rw [ce_i (n := 8) (by decide +kernel) (by decide), H0_q (by decide), HQ_s (by decide +kernel)]
  refine at_i (fun j hj => ?_) (hP 6 _ rfl)
  match j, hj with
  | 0, _ => rfl
  | 1, _ => rfl
  | 2, _ => rfl
  | 3, _ => rfl
  | 4, _ => rfl
  | 5, _ => rfl
  | 6, _ => rfl
  | 7, _ => rfl
  | j + 8, hj => omega
theorem fk_12 {G : GT} {a : Nat} {u : Nat → Nat} {am : Nat} {um : Nat → Nat} {ao : Nat} {h2 : Hp} {H : Heap} (hP : va_P G.1 vwCl (W3 G a u am um ao h2) H) : va_at G.1 vwCl (gad (GG G a u am um ao) 12, ce (GG G a u am um ao) (H0 h2) 12) H := by
  have e : H0 h2 12 = _ := (H0_q (by decide)).trans (HQ_z (by decide +kernel) (by decide +kernel) (by decide +kernel) (by decide +kernel) (by decide +kernel))
  rw [ce_o (c := 1) (by decide +kernel) (by decide)]
  simp only [flds, e]
  exact hP 7 _ rfl
theorem fk_13 {G : GT} {a : Nat} {u : Nat → Nat} {am : Nat} {um : Nat → Nat} {ao : Nat} {h2 : Hp} {H : Heap} (hP : va_P G.1 vwCl (W3 G a u am um ao h2) H) : va_at G.1 vwCl (gad (GG G a u am um ao) 13, ce (GG G a u am um ao) (H0 h2) 13) H := by
  rw [ce_i (n := 200) (by decide +kernel) (by decide), H0_q (by decide), HQ_z (by decide +kernel) (by decide +kernel) (by decide +kernel) (by decide +kernel) (by decide +kernel)]
  exact hP 8 _ rfl
theorem fk_14 {G : GT} {a : Nat} {u : Nat → Nat} {am : Nat} {um : Nat → Nat} {ao : Nat} {h2 : Hp} {H : Heap} (hP : va_P G.1 vwCl (W3 G a u am um ao h2) H) : va_at G.1 vwCl (gad (GG G a u am um ao) 14, ce (GG G a u am um ao) (H0 h2) 14) H := by
  rw [ce_i (n := 200) (by decide +kernel) (by decide), H0_q (by decide), HQ_z (by decide +kernel) (by decide +kernel) (by decide +kernel) (by decide +kernel) (by decide +kernel)]
  exact hP 9 _ rfl
theorem fk_15 {G : GT} {a : Nat} {u : Nat → Nat} {am : Nat} {um : Nat → Nat} {ao : Nat} {h2 : Hp} {H : Heap} (hP : va_P G.1 vwCl (W3 G a u am um ao h2) H) : va_at G.1 vwCl (gad (GG G a u am um ao) 15, ce (GG G a u am um ao) (H0 h2) 15) H := by
  rw [ce_i (n := 200) (by decide +kernel) (by decide), H0_q (by decide), HQ_z (by decide +kernel) (by decide +kernel) (by decide +kernel) (by decide +kernel) (by decide +kernel)]
  exact hP 10 _ rfl
theorem fk_16 {G : GT} {a : Nat} {u : Nat → Nat} {am : Nat} {um : Nat → Nat} {ao : Nat} {h2 : Hp} {H : Heap} (hP : va_P G.1 vwCl (W3 G a u am um ao h2) H) : va_at G.1 vwCl (gad (GG G a u am um ao) 16, ce (GG G a u am um ao) (H0 h2) 16) H := by
  rw [ce_i (n := 200) (by decide +kernel) (by decide), H0_q (by decide), HQ_z (by decide +kernel) (by decide +kernel) (by decide +kernel) (by decide +kernel) (by decide +kernel)]
  exact hP 11 _ rfl
theorem fk_17 {G : GT} {a : Nat} {u : Nat → Nat} {am : Nat} {um : Nat → Nat} {ao : Nat} {h2 : Hp} {H : Heap} (hP : va_P G.1 vwCl (W3 G a u am um ao h2) H) : va_at G.1 vwCl (gad (GG G a u am um ao) 17, ce (GG G a u am um ao) (H0 h2) 17) H := by
  rw [ce_i (n := 200) (by decide +kernel) (by decide), H0_q (by decide), HQ_z (by decide +kernel) (by decide +kernel) (by decide +kernel) (by decide +kernel) (by decide +kernel)]
  exact hP 12 _ rfl
theorem fk_18 {G : GT} {a : Nat} {u : Nat → Nat} {am : Nat} {um : Nat → Nat} {ao : Nat} {h2 : Hp} {H : Heap} (hP : va_P G.1 vwCl (W3 G a u am um ao h2) H) : va_at G.1 vwCl (gad (GG G a u am um ao) 18, ce (GG G a u am um ao) (H0 h2) 18) H := by
  rw [ce_i (n := 200) (by decide +kernel) (by decide), H0_q (by decide), HQ_z (by decide +kernel) (by decide +kernel) (by decide +kernel) (by decide +kernel) (by decide +kernel)]
  exact hP 13 _ rfl
theorem fk_19 {G : GT} {a : Nat} {u : Nat → Nat} {am : Nat} {um : Nat → Nat} {ao : Nat} {h2 : Hp} {H : Heap} (hP : va_P G.1 vwCl (W3 G a u am um ao h2) H) : va_at G.1 vwCl (gad (GG G a u am um ao) 19, ce (GG G a u am um ao) (H0 h2) 19) H := by
  rw [ce_i (n := 200) (by decide +kernel) (by decide), H0_q (by decide), HQ_z (by decide +kernel) (by decide +kernel) (by decide +kernel) (by decide +kernel) (by decide +kernel)]
  exact hP 14 _ rfl
theorem fk_20 {G : GT} {a : Nat} {u : Nat → Nat} {am : Nat} {um : Nat → Nat} {ao : Nat} {h2 : Hp} {H : Heap} (hP : va_P G.1 vwCl (W3 G a u am um ao h2) H) : va_at G.1 vwCl (gad (GG G a u am um ao) 20, ce (GG G a u am um ao) (H0 h2) 20) H := by
  rw [ce_i (n := 200) (by decide +kernel) (by decide), H0_q (by decide), HQ_z (by decide +kernel) (by decide +kernel) (by decide +kernel) (by decide +kernel) (by decide +kernel)]
  exact hP 15 _ rfl
theorem fk_21 {G : GT} {a : Nat} {u : Nat → Nat} {am : Nat} {um : Nat → Nat} {ao : Nat} {h2 : Hp} {H : Heap} (hP : va_P G.1 vwCl (W3 G a u am um ao h2) H) : va_at G.1 vwCl (gad (GG G a u am um ao) 21, ce (GG G a u am um ao) (H0 h2) 21) H := by
  rw [ce_i (n := 200) (by decide +kernel) (by decide), H0_q (by decide), HQ_z (by decide +kernel) (by decide +kernel) (by decide +kernel) (by decide +kernel) (by decide +kernel)]
  exact hP 16 _ rfl
theorem fk_22 {G : GT} {a : Nat} {u : Nat → Nat} {am : Nat} {um : Nat → Nat} {ao : Nat} {h2 : Hp} {H : Heap} (hP : va_P G.1 vwCl (W3 G a u am um ao h2) H) : va_at G.1 vwCl (gad (GG G a u am um ao) 22, ce (GG G a u am um ao) (H0 h2) 22) H := by
  rw [ce_i (n := 200) (by decide +kernel) (by decide), H0_q (by decide), HQ_z (by decide +kernel) (by decide +kernel) (by decide +kernel) (by decide +kernel) (by decide +kernel)]
  exact hP 17 _ rfl
theorem fk_23 {G : GT} {a : Nat} {u : Nat → Nat} {am : Nat} {um : Nat → Nat} {ao : Nat} {h2 : Hp} {H : Heap} (hP : va_P G.1 vwCl (W3 G a u am um ao h2) H) : va_at G.1 vwCl (gad (GG G a u am um ao) 23, ce (GG G a u am um ao) (H0 h2) 23) H := by
  rw [ce_i (n := 200) (by decide +kernel) (by decide), H0_q (by decide), HQ_z (by decide +kernel) (by decide +kernel) (by decide +kernel) (by decide +kernel) (by decide +kernel)]
  exact hP 18 _ rfl
theorem fk_24 {G : GT} {a : Nat} {u : Nat → Nat} {am : Nat} {um : Nat → Nat} {ao : Nat} {h2 : Hp} {H : Heap} (hP : va_P G.1 vwCl (W3 G a u am um ao h2) H) : va_at G.1 vwCl (gad (GG G a u am um ao) 24, ce (GG G a u am um ao) (H0 h2) 24) H := by
  rw [ce_i (n := 200) (by decide +kernel) (by decide), H0_q (by decide), HQ_z (by decide +kernel) (by decide +kernel) (by decide +kernel) (by decide +kernel) (by decide +kernel)]
  exact hP 19 _ rfl
theorem fk_25 {G : GT} {a : Nat} {u : Nat → Nat} {am : Nat} {um : Nat → Nat} {ao : Nat} {h2 : Hp} {H : Heap} (hP : va_P G.1 vwCl (W3 G a u am um ao h2) H) : va_at G.1 vwCl (gad (GG G a u am um ao) 25, ce (GG G a u am um ao) (H0 h2) 25) H := by
  rw [ce_i (n := 5) (by decide +kernel) (by decide), H0_q (by decide), HQ_z (by decide +kernel) (by decide +kernel) (by decide +kernel) (by decide +kernel) (by decide +kernel)]
  exact hP 20 _ rfl
theorem fk_26 {G : GT} {a : Nat} {u : Nat → Nat} {am : Nat} {um : Nat → Nat} {ao : Nat} {h2 : Hp} {H : Heap} (hP : va_P G.1 vwCl (W3 G a u am um ao h2) H) : va_at G.1 vwCl (gad (GG G a u am um ao) 26, ce (GG G a u am um ao) (H0 h2) 26) H := by
  rw [ce_b (by decide +kernel)]
  refine at_r (fun j hj => ?_) (hP 21 _ rfl)
  match j, hj with
  | 0, _ => rfl
  | 1, _ => rfl
  | 2, _ => rfl
  | 3, _ => rfl
  | 4, _ => rfl
  | 5, _ => rfl
  | 6, _ => rfl
  | 7, _ => rfl
  | 8, _ => rfl
  | 9, _ => rfl
  | 10, _ => rfl
  | 11, _ => rfl
  | 12, _ => rfl
  | 13, _ => rfl
  | 14, _ => rfl
  | 15, _ => rfl
  | j + 16, hj => omega
theorem fk_27 {G : GT} {a : Nat} {u : Nat → Nat} {am : Nat} {um : Nat → Nat} {ao : Nat} {h2 : Hp} {H : Heap} (hP : va_P G.1 vwCl (W3 G a u am um ao h2) H) : va_at G.1 vwCl (gad (GG G a u am um ao) 27, ce (GG G a u am um ao) (H0 h2) 27) H := by
  have e : H0 h2 27 = _ := (H0_q (by decide)).trans (HQ_0 (by decide +kernel))
  rw [ce_o (c := 0) (by decide +kernel) (by decide)]
  simp only [flds, e]
  exact hP 29 _ rfl
theorem fk_28 {G : GT} {a : Nat} {u : Nat → Nat} {am : Nat} {um : Nat → Nat} {ao : Nat} {h2 : Hp} {H : Heap} (hP : va_P G.1 vwCl (W3 G a u am um ao h2) H) : va_at G.1 vwCl (gad (GG G a u am um ao) 28, ce (GG G a u am um ao) (H0 h2) 28) H := by
  have e : H0 h2 28 = _ := (H0_q (by decide)).trans (HQ_0 (by decide +kernel))
  rw [ce_o (c := 0) (by decide +kernel) (by decide)]
  simp only [flds, e]
  exact hP 30 _ rfl
theorem fk_29 {G : GT} {a : Nat} {u : Nat → Nat} {am : Nat} {um : Nat → Nat} {ao : Nat} {h2 : Hp} {H : Heap} (hP : va_P G.1 vwCl (W3 G a u am um ao h2) H) : va_at G.1 vwCl (gad (GG G a u am um ao) 29, ce (GG G a u am um ao) (H0 h2) 29) H := by
  have e : H0 h2 29 = _ := (H0_q (by decide)).trans (HQ_0 (by decide +kernel))
  rw [ce_o (c := 0) (by decide +kernel) (by decide)]
  simp only [flds, e]
  exact hP 31 _ rfl
theorem fk_30 {G : GT} {a : Nat} {u : Nat → Nat} {am : Nat} {um : Nat → Nat} {ao : Nat} {h2 : Hp} {H : Heap} (hP : va_P G.1 vwCl (W3 G a u am um ao h2) H) : va_at G.1 vwCl (gad (GG G a u am um ao) 30, ce (GG G a u am um ao) (H0 h2) 30) H := by
  have e : H0 h2 30 = _ := (H0_q (by decide)).trans (HQ_0 (by decide +kernel))
  rw [ce_o (c := 0) (by decide +kernel) (by decide)]
  simp only [flds, e]
  exact hP 32 _ rfl
theorem fk_31 {G : GT} {a : Nat} {u : Nat → Nat} {am : Nat} {um : Nat → Nat} {ao : Nat} {h2 : Hp} {H : Heap} (hP : va_P G.1 vwCl (W3 G a u am um ao h2) H) : va_at G.1 vwCl (gad (GG G a u am um ao) 31, ce (GG G a u am um ao) (H0 h2) 31) H := by
  have e : H0 h2 31 = _ := (H0_q (by decide)).trans (HQ_0 (by decide +kernel))
  rw [ce_o (c := 0) (by decide +kernel) (by decide)]
  simp only [flds, e]
  exact hP 33 _ rfl
theorem fk_32 {G : GT} {a : Nat} {u : Nat → Nat} {am : Nat} {um : Nat → Nat} {ao : Nat} {h2 : Hp} {H : Heap} (hP : va_P G.1 vwCl (W3 G a u am um ao h2) H) : va_at G.1 vwCl (gad (GG G a u am um ao) 32, ce (GG G a u am um ao) (H0 h2) 32) H := by
  have e : H0 h2 32 = _ := (H0_q (by decide)).trans (HQ_0 (by decide +kernel))
  rw [ce_o (c := 0) (by decide +kernel) (by decide)]
  simp only [flds, e]
  exact hP 34 _ rfl
theorem fk_33 {G : GT} {a : Nat} {u : Nat → Nat} {am : Nat} {um : Nat → Nat} {ao : Nat} {h2 : Hp} {H : Heap} (hP : va_P G.1 vwCl (W3 G a u am um ao h2) H) : va_at G.1 vwCl (gad (GG G a u am um ao) 33, ce (GG G a u am um ao) (H0 h2) 33) H := by
  have e : H0 h2 33 = _ := (H0_q (by decide)).trans (HQ_0 (by decide +kernel))
  rw [ce_o (c := 0) (by decide +kernel) (by decide)]
  simp only [flds, e]
  exact hP 35 _ rfl
theorem fk_34 {G : GT} {a : Nat} {u : Nat → Nat} {am : Nat} {um : Nat → Nat} {ao : Nat} {h2 : Hp} {H : Heap} (hP : va_P G.1 vwCl (W3 G a u am um ao h2) H) : va_at G.1 vwCl (gad (GG G a u am um ao) 34, ce (GG G a u am um ao) (H0 h2) 34) H := by
  have e : H0 h2 34 = _ := (H0_q (by decide)).trans (HQ_0 (by decide +kernel))
  rw [ce_o (c := 0) (by decide +kernel) (by decide)]
  simp only [flds, e]
  exact hP 36 _ rfl
theorem fk_35 {G : GT} {a : Nat} {u : Nat → Nat} {am : Nat} {um : Nat → Nat} {ao : Nat} {h2 : Hp} {H : Heap} (hP : va_P G.1 vwCl (W3 G a u am um ao h2) H) : va_at G.1 vwCl (gad (GG G a u am um ao) 35, ce (GG G a u am um ao) (H0 h2) 35) H := by
  have e : H0 h2 35 = _ := (H0_q (by decide)).trans (HQ_0 (by decide +kernel))
  rw [ce_o (c := 0) (by decide +kernel) (by decide)]
  simp only [flds, e]
  exact hP 37 _ rfl
theorem fk_36 {G : GT} {a : Nat} {u : Nat → Nat} {am : Nat} {um : Nat → Nat} {ao : Nat} {h2 : Hp} {H : Heap} (hP : va_P G.1 vwCl (W3 G a u am um ao h2) H) : va_at G.1 vwCl (gad (GG G a u am um ao) 36, ce (GG G a u am um ao) (H0 h2) 36) H := by
  have e : H0 h2 36 = _ := (H0_q (by decide)).trans (HQ_0 (by decide +kernel))
  rw [ce_o (c := 0) (by decide +kernel) (by decide)]
  simp only [flds, e]
  exact hP 38 _ rfl
theorem fk_37 {G : GT} {a : Nat} {u : Nat → Nat} {am : Nat} {um : Nat → Nat} {ao : Nat} {h2 : Hp} {H : Heap} (hP : va_P G.1 vwCl (W3 G a u am um ao h2) H) : va_at G.1 vwCl (gad (GG G a u am um ao) 37, ce (GG G a u am um ao) (H0 h2) 37) H := by
  have e : H0 h2 37 = _ := (H0_q (by decide)).trans (HQ_0 (by decide +kernel))
  rw [ce_o (c := 0) (by decide +kernel) (by decide)]
  simp only [flds, e]
  exact hP 39 _ rfl
theorem fk_38 {G : GT} {a : Nat} {u : Nat → Nat} {am : Nat} {um : Nat → Nat} {ao : Nat} {h2 : Hp} {H : Heap} (hP : va_P G.1 vwCl (W3 G a u am um ao h2) H) : va_at G.1 vwCl (gad (GG G a u am um ao) 38, ce (GG G a u am um ao) (H0 h2) 38) H := by
  have e : H0 h2 38 = _ := (H0_q (by decide)).trans (HQ_0 (by decide +kernel))
  rw [ce_o (c := 0) (by decide +kernel) (by decide)]
  simp only [flds, e]
  exact hP 40 _ rfl
theorem fk_39 {G : GT} {a : Nat} {u : Nat → Nat} {am : Nat} {um : Nat → Nat} {ao : Nat} {h2 : Hp} {H : Heap} (hP : va_P G.1 vwCl (W3 G a u am um ao h2) H) : va_at G.1 vwCl (gad (GG G a u am um ao) 39, ce (GG G a u am um ao) (H0 h2) 39) H := by
  have e : H0 h2 39 = _ := (H0_q (by decide)).trans (HQ_0 (by decide +kernel))
  rw [ce_o (c := 0) (by decide +kernel) (by decide)]
  simp only [flds, e]
  exact hP 41 _ rfl
theorem fk_40 {G : GT} {a : Nat} {u : Nat → Nat} {am : Nat} {um : Nat → Nat} {ao : Nat} {h2 : Hp} {H : Heap} (hP : va_P G.1 vwCl (W3 G a u am um ao h2) H) : va_at G.1 vwCl (gad (GG G a u am um ao) 40, ce (GG G a u am um ao) (H0 h2) 40) H := by
  have e : H0 h2 40 = _ := (H0_q (by decide)).trans (HQ_0 (by decide +kernel))
  rw [ce_o (c := 0) (by decide +kernel) (by decide)]
  simp only [flds, e]
  exact hP 42 _ rfl
theorem fk_41 {G : GT} {a : Nat} {u : Nat → Nat} {am : Nat} {um : Nat → Nat} {ao : Nat} {h2 : Hp} {H : Heap} (hP : va_P G.1 vwCl (W3 G a u am um ao h2) H) : va_at G.1 vwCl (gad (GG G a u am um ao) 41, ce (GG G a u am um ao) (H0 h2) 41) H := by
  have e : H0 h2 41 = _ := (H0_q (by decide)).trans (HQ_0 (by decide +kernel))
  rw [ce_o (c := 0) (by decide +kernel) (by decide)]
  simp only [flds, e]
  exact hP 43 _ rfl
theorem fk_42 {G : GT} {a : Nat} {u : Nat → Nat} {am : Nat} {um : Nat → Nat} {ao : Nat} {h2 : Hp} {H : Heap} (hP : va_P G.1 vwCl (W3 G a u am um ao h2) H) : va_at G.1 vwCl (gad (GG G a u am um ao) 42, ce (GG G a u am um ao) (H0 h2) 42) H := by
  have e : H0 h2 42 = _ := (H0_q (by decide)).trans (HQ_0 (by decide +kernel))
  rw [ce_o (c := 0) (by decide +kernel) (by decide)]
  simp only [flds, e]
  exact hP 44 _ rfl
theorem fk_43 {G : GT} {a : Nat} {u : Nat → Nat} {am : Nat} {um : Nat → Nat} {ao : Nat} {h2 : Hp} {H : Heap} (hP : va_P G.1 vwCl (W3 G a u am um ao h2) H) : va_at G.1 vwCl (gad (GG G a u am um ao) 43, ce (GG G a u am um ao) (H0 h2) 43) H := by
  have e : H0 h2 43 = _ := (H0_q (by decide)).trans (HQ_z (by decide +kernel) (by decide +kernel) (by decide +kernel) (by decide +kernel) (by decide +kernel))
  rw [ce_o (c := 2) (by decide +kernel) (by decide)]
  simp only [flds, e]
  exact hP 22 _ rfl
theorem fk_44 {G : GT} {a : Nat} {u : Nat → Nat} {am : Nat} {um : Nat → Nat} {ao : Nat} {h2 : Hp} {H : Heap} (hP : va_P G.1 vwCl (W3 G a u am um ao h2) H) : va_at G.1 vwCl (gad (GG G a u am um ao) 44, ce (GG G a u am um ao) (H0 h2) 44) H := by
  rw [ce_i (n := 16) (by decide +kernel) (by decide), H0_q (by decide), HQ_z (by decide +kernel) (by decide +kernel) (by decide +kernel) (by decide +kernel) (by decide +kernel)]
  exact hP 23 _ rfl
theorem fk_45 {G : GT} {a : Nat} {u : Nat → Nat} {am : Nat} {um : Nat → Nat} {ao : Nat} {h2 : Hp} {H : Heap} (hP : va_P G.1 vwCl (W3 G a u am um ao h2) H) : va_at G.1 vwCl (gad (GG G a u am um ao) 45, ce (GG G a u am um ao) (H0 h2) 45) H := by
  rw [ce_s (by decide +kernel)]
  refine at_r (fun j hj => ?_) (hP 24 _ rfl)
  match j, hj with
  | 0, _ => rfl
  | 1, _ => rfl
  | 2, _ => rfl
  | 3, _ => rfl
  | j + 4, hj => omega
theorem fk_46 {G : GT} {a : Nat} {u : Nat → Nat} {am : Nat} {um : Nat → Nat} {ao : Nat} {h2 : Hp} {H : Heap} (hP : va_P G.1 vwCl (W3 G a u am um ao h2) H) : va_at G.1 vwCl (gad (GG G a u am um ao) 46, ce (GG G a u am um ao) (H0 h2) 46) H := by
  have e : H0 h2 46 = _ := (H0_q (by decide)).trans (HQ_4 (by decide +kernel))
  rw [ce_o (c := 4) (by decide +kernel) (by decide)]
  simp only [flds, e]
  exact hP 45 _ rfl
theorem fk_47 {G : GT} {a : Nat} {u : Nat → Nat} {am : Nat} {um : Nat → Nat} {ao : Nat} {h2 : Hp} {H : Heap} (hP : va_P G.1 vwCl (W3 G a u am um ao h2) H) : va_at G.1 vwCl (gad (GG G a u am um ao) 47, ce (GG G a u am um ao) (H0 h2) 47) H := by
  have e : H0 h2 47 = _ := (H0_q (by decide)).trans (HQ_4 (by decide +kernel))
  rw [ce_o (c := 4) (by decide +kernel) (by decide)]
  simp only [flds, e]
  exact hP 46 _ rfl
theorem fk_48 {G : GT} {a : Nat} {u : Nat → Nat} {am : Nat} {um : Nat → Nat} {ao : Nat} {h2 : Hp} {H : Heap} (hP : va_P G.1 vwCl (W3 G a u am um ao h2) H) : va_at G.1 vwCl (gad (GG G a u am um ao) 48, ce (GG G a u am um ao) (H0 h2) 48) H := by
  have e : H0 h2 48 = _ := (H0_q (by decide)).trans (HQ_4 (by decide +kernel))
  rw [ce_o (c := 4) (by decide +kernel) (by decide)]
  simp only [flds, e]
  exact hP 47 _ rfl
theorem fk_49 {G : GT} {a : Nat} {u : Nat → Nat} {am : Nat} {um : Nat → Nat} {ao : Nat} {h2 : Hp} {H : Heap} (hP : va_P G.1 vwCl (W3 G a u am um ao h2) H) : va_at G.1 vwCl (gad (GG G a u am um ao) 49, ce (GG G a u am um ao) (H0 h2) 49) H := by
  have e : H0 h2 49 = _ := (H0_q (by decide)).trans (HQ_4 (by decide +kernel))
  rw [ce_o (c := 4) (by decide +kernel) (by decide)]
  simp only [flds, e]
  exact hP 48 _ rfl
theorem fk_50 {G : GT} {a : Nat} {u : Nat → Nat} {am : Nat} {um : Nat → Nat} {ao : Nat} {h2 : Hp} {H : Heap} (hP : va_P G.1 vwCl (W3 G a u am um ao h2) H) : va_at G.1 vwCl (gad (GG G a u am um ao) 50, ce (GG G a u am um ao) (H0 h2) 50) H := by
  have e : H0 h2 50 = _ := (H0_q (by decide)).trans (HQ_z (by decide +kernel) (by decide +kernel) (by decide +kernel) (by decide +kernel) (by decide +kernel))
  rw [ce_o (c := 6) (by decide +kernel) (by decide)]
  simp only [flds, e]
  exact hP 25 _ rfl
theorem fk_51 {G : GT} {a : Nat} {u : Nat → Nat} {am : Nat} {um : Nat → Nat} {ao : Nat} {h2 : Hp} {H : Heap} (hP : va_P G.1 vwCl (W3 G a u am um ao h2) H) : va_at G.1 vwCl (gad (GG G a u am um ao) 51, ce (GG G a u am um ao) (H0 h2) 51) H := by
  rw [ce_i (n := 6) (by decide +kernel) (by decide), H0_q (by decide), HQ_z (by decide +kernel) (by decide +kernel) (by decide +kernel) (by decide +kernel) (by decide +kernel)]
  exact hP 26 _ rfl
theorem fk_52 {G : GT} {a : Nat} {u : Nat → Nat} {am : Nat} {um : Nat → Nat} {ao : Nat} {h2 : Hp} {H : Heap} (hP : va_P G.1 vwCl (W3 G a u am um ao h2) H) : va_at G.1 vwCl (gad (GG G a u am um ao) 52, ce (GG G a u am um ao) (H0 h2) 52) H := by
  rw [ce_i (n := 6) (by decide +kernel) (by decide), H0_q (by decide), HQ_z (by decide +kernel) (by decide +kernel) (by decide +kernel) (by decide +kernel) (by decide +kernel)]
  exact hP 27 _ rfl
theorem fk_53 {G : GT} {a : Nat} {u : Nat → Nat} {am : Nat} {um : Nat → Nat} {ao : Nat} {h2 : Hp} {H : Heap} (hP : va_P G.1 vwCl (W3 G a u am um ao h2) H) : va_at G.1 vwCl (gad (GG G a u am um ao) 53, ce (GG G a u am um ao) (H0 h2) 53) H := by
  rw [ce_i (n := 6) (by decide +kernel) (by decide), H0_q (by decide), HQ_z (by decide +kernel) (by decide +kernel) (by decide +kernel) (by decide +kernel) (by decide +kernel)]
  exact hP 28 _ rfl
theorem fk_59 {G : GT} {a : Nat} {u : Nat → Nat} {am : Nat} {um : Nat → Nat} {ao : Nat} {h2 : Hp} {H : Heap} (hP : va_P G.1 vwCl (W3 G a u am um ao h2) H) : va_at G.1 vwCl (gad (GG G a u am um ao) 59, ce (GG G a u am um ao) (H0 h2) 59) H := by
  have e : H0 h2 59 = _ := (H0_q (by decide)).trans (HQ_z (by decide +kernel) (by decide +kernel) (by decide +kernel) (by decide +kernel) (by decide +kernel))
  rw [ce_o (c := 5) (by decide +kernel) (by decide)]
  simp only [flds, e]
  exact hP 49 _ rfl
theorem fk_60 {G : GT} {a : Nat} {u : Nat → Nat} {am : Nat} {um : Nat → Nat} {ao : Nat} {h2 : Hp} {H : Heap} (hP : va_P G.1 vwCl (W3 G a u am um ao h2) H) : va_at G.1 vwCl (gad (GG G a u am um ao) 60, ce (GG G a u am um ao) (H0 h2) 60) H := by
  have e : H0 h2 60 = _ := (H0_q (by decide)).trans (HQ_7 (by decide +kernel))
  rw [ce_o (c := 7) (by decide +kernel) (by decide)]
  simp only [flds, e]
  exact hP 50 _ rfl
theorem fk_61 {G : GT} {a : Nat} {u : Nat → Nat} {am : Nat} {um : Nat → Nat} {ao : Nat} {h2 : Hp} {H : Heap} (hP : va_P G.1 vwCl (W3 G a u am um ao h2) H) : va_at G.1 vwCl (gad (GG G a u am um ao) 61, ce (GG G a u am um ao) (H0 h2) 61) H := by
  rw [ce_i (n := 8) (by decide +kernel) (by decide), H0_q (by decide), HQ_s (by decide +kernel)]
  refine at_i (fun j hj => ?_) (hP 51 _ rfl)
  match j, hj with
  | 0, _ => rfl
  | 1, _ => rfl
  | 2, _ => rfl
  | 3, _ => rfl
  | 4, _ => rfl
  | 5, _ => rfl
  | 6, _ => rfl
  | 7, _ => rfl
  | j + 8, hj => omega
theorem fk_62 {G : GT} {a : Nat} {u : Nat → Nat} {am : Nat} {um : Nat → Nat} {ao : Nat} {h2 : Hp} {H : Heap} (hP : va_P G.1 vwCl (W3 G a u am um ao h2) H) : va_at G.1 vwCl (gad (GG G a u am um ao) 62, ce (GG G a u am um ao) (H0 h2) 62) H := by
  have e : H0 h2 62 = _ := (H0_q (by decide)).trans (HQ_z (by decide +kernel) (by decide +kernel) (by decide +kernel) (by decide +kernel) (by decide +kernel))
  rw [ce_o (c := 1) (by decide +kernel) (by decide)]
  simp only [flds, e]
  exact hP 52 _ rfl
theorem fk_63 {G : GT} {a : Nat} {u : Nat → Nat} {am : Nat} {um : Nat → Nat} {ao : Nat} {h2 : Hp} {H : Heap} (hP : va_P G.1 vwCl (W3 G a u am um ao h2) H) : va_at G.1 vwCl (gad (GG G a u am um ao) 63, ce (GG G a u am um ao) (H0 h2) 63) H := by
  rw [ce_i (n := 200) (by decide +kernel) (by decide), H0_q (by decide), HQ_z (by decide +kernel) (by decide +kernel) (by decide +kernel) (by decide +kernel) (by decide +kernel)]
  exact hP 53 _ rfl
theorem fk_64 {G : GT} {a : Nat} {u : Nat → Nat} {am : Nat} {um : Nat → Nat} {ao : Nat} {h2 : Hp} {H : Heap} (hP : va_P G.1 vwCl (W3 G a u am um ao h2) H) : va_at G.1 vwCl (gad (GG G a u am um ao) 64, ce (GG G a u am um ao) (H0 h2) 64) H := by
  rw [ce_i (n := 200) (by decide +kernel) (by decide), H0_q (by decide), HQ_z (by decide +kernel) (by decide +kernel) (by decide +kernel) (by decide +kernel) (by decide +kernel)]
  exact hP 54 _ rfl
theorem fk_65 {G : GT} {a : Nat} {u : Nat → Nat} {am : Nat} {um : Nat → Nat} {ao : Nat} {h2 : Hp} {H : Heap} (hP : va_P G.1 vwCl (W3 G a u am um ao h2) H) : va_at G.1 vwCl (gad (GG G a u am um ao) 65, ce (GG G a u am um ao) (H0 h2) 65) H := by
  rw [ce_i (n := 200) (by decide +kernel) (by decide), H0_q (by decide), HQ_z (by decide +kernel) (by decide +kernel) (by decide +kernel) (by decide +kernel) (by decide +kernel)]
  exact hP 55 _ rfl
theorem fk_66 {G : GT} {a : Nat} {u : Nat → Nat} {am : Nat} {um : Nat → Nat} {ao : Nat} {h2 : Hp} {H : Heap} (hP : va_P G.1 vwCl (W3 G a u am um ao h2) H) : va_at G.1 vwCl (gad (GG G a u am um ao) 66, ce (GG G a u am um ao) (H0 h2) 66) H := by
  rw [ce_i (n := 200) (by decide +kernel) (by decide), H0_q (by decide), HQ_z (by decide +kernel) (by decide +kernel) (by decide +kernel) (by decide +kernel) (by decide +kernel)]
  exact hP 56 _ rfl
theorem fk_67 {G : GT} {a : Nat} {u : Nat → Nat} {am : Nat} {um : Nat → Nat} {ao : Nat} {h2 : Hp} {H : Heap} (hP : va_P G.1 vwCl (W3 G a u am um ao h2) H) : va_at G.1 vwCl (gad (GG G a u am um ao) 67, ce (GG G a u am um ao) (H0 h2) 67) H := by
  rw [ce_i (n := 200) (by decide +kernel) (by decide), H0_q (by decide), HQ_z (by decide +kernel) (by decide +kernel) (by decide +kernel) (by decide +kernel) (by decide +kernel)]
  exact hP 57 _ rfl
theorem fk_68 {G : GT} {a : Nat} {u : Nat → Nat} {am : Nat} {um : Nat → Nat} {ao : Nat} {h2 : Hp} {H : Heap} (hP : va_P G.1 vwCl (W3 G a u am um ao h2) H) : va_at G.1 vwCl (gad (GG G a u am um ao) 68, ce (GG G a u am um ao) (H0 h2) 68) H := by
  rw [ce_i (n := 200) (by decide +kernel) (by decide), H0_q (by decide), HQ_z (by decide +kernel) (by decide +kernel) (by decide +kernel) (by decide +kernel) (by decide +kernel)]
  exact hP 58 _ rfl
theorem fk_69 {G : GT} {a : Nat} {u : Nat → Nat} {am : Nat} {um : Nat → Nat} {ao : Nat} {h2 : Hp} {H : Heap} (hP : va_P G.1 vwCl (W3 G a u am um ao h2) H) : va_at G.1 vwCl (gad (GG G a u am um ao) 69, ce (GG G a u am um ao) (H0 h2) 69) H := by
  rw [ce_i (n := 200) (by decide +kernel) (by decide), H0_q (by decide), HQ_z (by decide +kernel) (by decide +kernel) (by decide +kernel) (by decide +kernel) (by decide +kernel)]
  exact hP 59 _ rfl
theorem fk_70 {G : GT} {a : Nat} {u : Nat → Nat} {am : Nat} {um : Nat → Nat} {ao : Nat} {h2 : Hp} {H : Heap} (hP : va_P G.1 vwCl (W3 G a u am um ao h2) H) : va_at G.1 vwCl (gad (GG G a u am um ao) 70, ce (GG G a u am um ao) (H0 h2) 70) H := by
  rw [ce_i (n := 200) (by decide +kernel) (by decide), H0_q (by decide), HQ_z (by decide +kernel) (by decide +kernel) (by decide +kernel) (by decide +kernel) (by decide +kernel)]
  exact hP 60 _ rfl
theorem fk_71 {G : GT} {a : Nat} {u : Nat → Nat} {am : Nat} {um : Nat → Nat} {ao : Nat} {h2 : Hp} {H : Heap} (hP : va_P G.1 vwCl (W3 G a u am um ao h2) H) : va_at G.1 vwCl (gad (GG G a u am um ao) 71, ce (GG G a u am um ao) (H0 h2) 71) H := by
  rw [ce_i (n := 200) (by decide +kernel) (by decide), H0_q (by decide), HQ_z (by decide +kernel) (by decide +kernel) (by decide +kernel) (by decide +kernel) (by decide +kernel)]
  exact hP 61 _ rfl
theorem fk_72 {G : GT} {a : Nat} {u : Nat → Nat} {am : Nat} {um : Nat → Nat} {ao : Nat} {h2 : Hp} {H : Heap} (hP : va_P G.1 vwCl (W3 G a u am um ao h2) H) : va_at G.1 vwCl (gad (GG G a u am um ao) 72, ce (GG G a u am um ao) (H0 h2) 72) H := by
  rw [ce_i (n := 200) (by decide +kernel) (by decide), H0_q (by decide), HQ_z (by decide +kernel) (by decide +kernel) (by decide +kernel) (by decide +kernel) (by decide +kernel)]
  exact hP 62 _ rfl
theorem fk_73 {G : GT} {a : Nat} {u : Nat → Nat} {am : Nat} {um : Nat → Nat} {ao : Nat} {h2 : Hp} {H : Heap} (hP : va_P G.1 vwCl (W3 G a u am um ao h2) H) : va_at G.1 vwCl (gad (GG G a u am um ao) 73, ce (GG G a u am um ao) (H0 h2) 73) H := by
  rw [ce_i (n := 200) (by decide +kernel) (by decide), H0_q (by decide), HQ_z (by decide +kernel) (by decide +kernel) (by decide +kernel) (by decide +kernel) (by decide +kernel)]
  exact hP 63 _ rfl
theorem fk_74 {G : GT} {a : Nat} {u : Nat → Nat} {am : Nat} {um : Nat → Nat} {ao : Nat} {h2 : Hp} {H : Heap} (hP : va_P G.1 vwCl (W3 G a u am um ao h2) H) : va_at G.1 vwCl (gad (GG G a u am um ao) 74, ce (GG G a u am um ao) (H0 h2) 74) H := by
  rw [ce_i (n := 200) (by decide +kernel) (by decide), H0_q (by decide), HQ_z (by decide +kernel) (by decide +kernel) (by decide +kernel) (by decide +kernel) (by decide +kernel)]
  exact hP 64 _ rfl
theorem fk_75 {G : GT} {a : Nat} {u : Nat → Nat} {am : Nat} {um : Nat → Nat} {ao : Nat} {h2 : Hp} {H : Heap} (hP : va_P G.1 vwCl (W3 G a u am um ao h2) H) : va_at G.1 vwCl (gad (GG G a u am um ao) 75, ce (GG G a u am um ao) (H0 h2) 75) H := by
  rw [ce_i (n := 5) (by decide +kernel) (by decide), H0_q (by decide), HQ_z (by decide +kernel) (by decide +kernel) (by decide +kernel) (by decide +kernel) (by decide +kernel)]
  exact hP 65 _ rfl
theorem fk_76 {G : GT} {a : Nat} {u : Nat → Nat} {am : Nat} {um : Nat → Nat} {ao : Nat} {h2 : Hp} {H : Heap} (hP : va_P G.1 vwCl (W3 G a u am um ao h2) H) : va_at G.1 vwCl (gad (GG G a u am um ao) 76, ce (GG G a u am um ao) (H0 h2) 76) H := by
  rw [ce_b (by decide +kernel)]
  refine at_r (fun j hj => ?_) (hP 66 _ rfl)
  match j, hj with
  | 0, _ => rfl
  | 1, _ => rfl
  | 2, _ => rfl
  | 3, _ => rfl
  | 4, _ => rfl
  | 5, _ => rfl
  | 6, _ => rfl
  | 7, _ => rfl
  | 8, _ => rfl
  | 9, _ => rfl
  | 10, _ => rfl
  | 11, _ => rfl
  | 12, _ => rfl
  | 13, _ => rfl
  | 14, _ => rfl
  | 15, _ => rfl
  | j + 16, hj => omega
theorem fk_77 {G : GT} {a : Nat} {u : Nat → Nat} {am : Nat} {um : Nat → Nat} {ao : Nat} {h2 : Hp} {H : Heap} (hP : va_P G.1 vwCl (W3 G a u am um ao h2) H) : va_at G.1 vwCl (gad (GG G a u am um ao) 77, ce (GG G a u am um ao) (H0 h2) 77) H := by
  have e : H0 h2 77 = _ := (H0_q (by decide)).trans (HQ_0 (by decide +kernel))
  rw [ce_o (c := 0) (by decide +kernel) (by decide)]
  simp only [flds, e]
  exact hP 74 _ rfl
theorem fk_78 {G : GT} {a : Nat} {u : Nat → Nat} {am : Nat} {um : Nat → Nat} {ao : Nat} {h2 : Hp} {H : Heap} (hP : va_P G.1 vwCl (W3 G a u am um ao h2) H) : va_at G.1 vwCl (gad (GG G a u am um ao) 78, ce (GG G a u am um ao) (H0 h2) 78) H := by
  have e : H0 h2 78 = _ := (H0_q (by decide)).trans (HQ_0 (by decide +kernel))
  rw [ce_o (c := 0) (by decide +kernel) (by decide)]
  simp only [flds, e]
  exact hP 75 _ rfl
theorem fk_79 {G : GT} {a : Nat} {u : Nat → Nat} {am : Nat} {um : Nat → Nat} {ao : Nat} {h2 : Hp} {H : Heap} (hP : va_P G.1 vwCl (W3 G a u am um ao h2) H) : va_at G.1 vwCl (gad (GG G a u am um ao) 79, ce (GG G a u am um ao) (H0 h2) 79) H := by
  have e : H0 h2 79 = _ := (H0_q (by decide)).trans (HQ_0 (by decide +kernel))
  rw [ce_o (c := 0) (by decide +kernel) (by decide)]
  simp only [flds, e]
  exact hP 76 _ rfl
theorem fk_80 {G : GT} {a : Nat} {u : Nat → Nat} {am : Nat} {um : Nat → Nat} {ao : Nat} {h2 : Hp} {H : Heap} (hP : va_P G.1 vwCl (W3 G a u am um ao h2) H) : va_at G.1 vwCl (gad (GG G a u am um ao) 80, ce (GG G a u am um ao) (H0 h2) 80) H := by
  have e : H0 h2 80 = _ := (H0_q (by decide)).trans (HQ_0 (by decide +kernel))
  rw [ce_o (c := 0) (by decide +kernel) (by decide)]
  simp only [flds, e]
  exact hP 77 _ rfl
theorem fk_81 {G : GT} {a : Nat} {u : Nat → Nat} {am : Nat} {um : Nat → Nat} {ao : Nat} {h2 : Hp} {H : Heap} (hP : va_P G.1 vwCl (W3 G a u am um ao h2) H) : va_at G.1 vwCl (gad (GG G a u am um ao) 81, ce (GG G a u am um ao) (H0 h2) 81) H := by
  have e : H0 h2 81 = _ := (H0_q (by decide)).trans (HQ_0 (by decide +kernel))
  rw [ce_o (c := 0) (by decide +kernel) (by decide)]
  simp only [flds, e]
  exact hP 78 _ rfl
theorem fk_82 {G : GT} {a : Nat} {u : Nat → Nat} {am : Nat} {um : Nat → Nat} {ao : Nat} {h2 : Hp} {H : Heap} (hP : va_P G.1 vwCl (W3 G a u am um ao h2) H) : va_at G.1 vwCl (gad (GG G a u am um ao) 82, ce (GG G a u am um ao) (H0 h2) 82) H := by
  have e : H0 h2 82 = _ := (H0_q (by decide)).trans (HQ_0 (by decide +kernel))
  rw [ce_o (c := 0) (by decide +kernel) (by decide)]
  simp only [flds, e]
  exact hP 79 _ rfl
theorem fk_83 {G : GT} {a : Nat} {u : Nat → Nat} {am : Nat} {um : Nat → Nat} {ao : Nat} {h2 : Hp} {H : Heap} (hP : va_P G.1 vwCl (W3 G a u am um ao h2) H) : va_at G.1 vwCl (gad (GG G a u am um ao) 83, ce (GG G a u am um ao) (H0 h2) 83) H := by
  have e : H0 h2 83 = _ := (H0_q (by decide)).trans (HQ_0 (by decide +kernel))
  rw [ce_o (c := 0) (by decide +kernel) (by decide)]
  simp only [flds, e]
  exact hP 80 _ rfl
theorem fk_84 {G : GT} {a : Nat} {u : Nat → Nat} {am : Nat} {um : Nat → Nat} {ao : Nat} {h2 : Hp} {H : Heap} (hP : va_P G.1 vwCl (W3 G a u am um ao h2) H) : va_at G.1 vwCl (gad (GG G a u am um ao) 84, ce (GG G a u am um ao) (H0 h2) 84) H := by
  have e : H0 h2 84 = _ := (H0_q (by decide)).trans (HQ_0 (by decide +kernel))
  rw [ce_o (c := 0) (by decide +kernel) (by decide)]
  simp only [flds, e]
  exact hP 81 _ rfl
theorem fk_85 {G : GT} {a : Nat} {u : Nat → Nat} {am : Nat} {um : Nat → Nat} {ao : Nat} {h2 : Hp} {H : Heap} (hP : va_P G.1 vwCl (W3 G a u am um ao h2) H) : va_at G.1 vwCl (gad (GG G a u am um ao) 85, ce (GG G a u am um ao) (H0 h2) 85) H := by
  have e : H0 h2 85 = _ := (H0_q (by decide)).trans (HQ_0 (by decide +kernel))
  rw [ce_o (c := 0) (by decide +kernel) (by decide)]
  simp only [flds, e]
  exact hP 82 _ rfl
theorem fk_86 {G : GT} {a : Nat} {u : Nat → Nat} {am : Nat} {um : Nat → Nat} {ao : Nat} {h2 : Hp} {H : Heap} (hP : va_P G.1 vwCl (W3 G a u am um ao h2) H) : va_at G.1 vwCl (gad (GG G a u am um ao) 86, ce (GG G a u am um ao) (H0 h2) 86) H := by
  have e : H0 h2 86 = _ := (H0_q (by decide)).trans (HQ_0 (by decide +kernel))
  rw [ce_o (c := 0) (by decide +kernel) (by decide)]
  simp only [flds, e]
  exact hP 83 _ rfl
theorem fk_87 {G : GT} {a : Nat} {u : Nat → Nat} {am : Nat} {um : Nat → Nat} {ao : Nat} {h2 : Hp} {H : Heap} (hP : va_P G.1 vwCl (W3 G a u am um ao h2) H) : va_at G.1 vwCl (gad (GG G a u am um ao) 87, ce (GG G a u am um ao) (H0 h2) 87) H := by
  have e : H0 h2 87 = _ := (H0_q (by decide)).trans (HQ_0 (by decide +kernel))
  rw [ce_o (c := 0) (by decide +kernel) (by decide)]
  simp only [flds, e]
  exact hP 84 _ rfl
theorem fk_88 {G : GT} {a : Nat} {u : Nat → Nat} {am : Nat} {um : Nat → Nat} {ao : Nat} {h2 : Hp} {H : Heap} (hP : va_P G.1 vwCl (W3 G a u am um ao h2) H) : va_at G.1 vwCl (gad (GG G a u am um ao) 88, ce (GG G a u am um ao) (H0 h2) 88) H := by
  have e : H0 h2 88 = _ := (H0_q (by decide)).trans (HQ_0 (by decide +kernel))
  rw [ce_o (c := 0) (by decide +kernel) (by decide)]
  simp only [flds, e]
  exact hP 85 _ rfl
theorem fk_89 {G : GT} {a : Nat} {u : Nat → Nat} {am : Nat} {um : Nat → Nat} {ao : Nat} {h2 : Hp} {H : Heap} (hP : va_P G.1 vwCl (W3 G a u am um ao h2) H) : va_at G.1 vwCl (gad (GG G a u am um ao) 89, ce (GG G a u am um ao) (H0 h2) 89) H := by
  have e : H0 h2 89 = _ := (H0_q (by decide)).trans (HQ_0 (by decide +kernel))
  rw [ce_o (c := 0) (by decide +kernel) (by decide)]
  simp only [flds, e]
  exact hP 86 _ rfl
theorem fk_90 {G : GT} {a : Nat} {u : Nat → Nat} {am : Nat} {um : Nat → Nat} {ao : Nat} {h2 : Hp} {H : Heap} (hP : va_P G.1 vwCl (W3 G a u am um ao h2) H) : va_at G.1 vwCl (gad (GG G a u am um ao) 90, ce (GG G a u am um ao) (H0 h2) 90) H := by
  have e : H0 h2 90 = _ := (H0_q (by decide)).trans (HQ_0 (by decide +kernel))
  rw [ce_o (c := 0) (by decide +kernel) (by decide)]
  simp only [flds, e]
  exact hP 87 _ rfl
theorem fk_91 {G : GT} {a : Nat} {u : Nat → Nat} {am : Nat} {um : Nat → Nat} {ao : Nat} {h2 : Hp} {H : Heap} (hP : va_P G.1 vwCl (W3 G a u am um ao h2) H) : va_at G.1 vwCl (gad (GG G a u am um ao) 91, ce (GG G a u am um ao) (H0 h2) 91) H := by
  have e : H0 h2 91 = _ := (H0_q (by decide)).trans (HQ_0 (by decide +kernel))
  rw [ce_o (c := 0) (by decide +kernel) (by decide)]
  simp only [flds, e]
  exact hP 88 _ rfl
theorem fk_92 {G : GT} {a : Nat} {u : Nat → Nat} {am : Nat} {um : Nat → Nat} {ao : Nat} {h2 : Hp} {H : Heap} (hP : va_P G.1 vwCl (W3 G a u am um ao h2) H) : va_at G.1 vwCl (gad (GG G a u am um ao) 92, ce (GG G a u am um ao) (H0 h2) 92) H := by
  have e : H0 h2 92 = _ := (H0_q (by decide)).trans (HQ_0 (by decide +kernel))
  rw [ce_o (c := 0) (by decide +kernel) (by decide)]
  simp only [flds, e]
  exact hP 89 _ rfl
theorem fk_93 {G : GT} {a : Nat} {u : Nat → Nat} {am : Nat} {um : Nat → Nat} {ao : Nat} {h2 : Hp} {H : Heap} (hP : va_P G.1 vwCl (W3 G a u am um ao h2) H) : va_at G.1 vwCl (gad (GG G a u am um ao) 93, ce (GG G a u am um ao) (H0 h2) 93) H := by
  have e : H0 h2 93 = _ := (H0_q (by decide)).trans (HQ_z (by decide +kernel) (by decide +kernel) (by decide +kernel) (by decide +kernel) (by decide +kernel))
  rw [ce_o (c := 2) (by decide +kernel) (by decide)]
  simp only [flds, e]
  exact hP 67 _ rfl
theorem fk_94 {G : GT} {a : Nat} {u : Nat → Nat} {am : Nat} {um : Nat → Nat} {ao : Nat} {h2 : Hp} {H : Heap} (hP : va_P G.1 vwCl (W3 G a u am um ao h2) H) : va_at G.1 vwCl (gad (GG G a u am um ao) 94, ce (GG G a u am um ao) (H0 h2) 94) H := by
  rw [ce_i (n := 16) (by decide +kernel) (by decide), H0_q (by decide), HQ_z (by decide +kernel) (by decide +kernel) (by decide +kernel) (by decide +kernel) (by decide +kernel)]
  exact hP 68 _ rfl
theorem fk_95 {G : GT} {a : Nat} {u : Nat → Nat} {am : Nat} {um : Nat → Nat} {ao : Nat} {h2 : Hp} {H : Heap} (hP : va_P G.1 vwCl (W3 G a u am um ao h2) H) : va_at G.1 vwCl (gad (GG G a u am um ao) 95, ce (GG G a u am um ao) (H0 h2) 95) H := by
  rw [ce_s (by decide +kernel)]
  refine at_r (fun j hj => ?_) (hP 69 _ rfl)
  match j, hj with
  | 0, _ => rfl
  | 1, _ => rfl
  | 2, _ => rfl
  | 3, _ => rfl
  | j + 4, hj => omega
theorem fk_96 {G : GT} {a : Nat} {u : Nat → Nat} {am : Nat} {um : Nat → Nat} {ao : Nat} {h2 : Hp} {H : Heap} (hP : va_P G.1 vwCl (W3 G a u am um ao h2) H) : va_at G.1 vwCl (gad (GG G a u am um ao) 96, ce (GG G a u am um ao) (H0 h2) 96) H := by
  have e : H0 h2 96 = _ := (H0_q (by decide)).trans (HQ_4 (by decide +kernel))
  rw [ce_o (c := 4) (by decide +kernel) (by decide)]
  simp only [flds, e]
  exact hP 90 _ rfl
theorem fk_97 {G : GT} {a : Nat} {u : Nat → Nat} {am : Nat} {um : Nat → Nat} {ao : Nat} {h2 : Hp} {H : Heap} (hP : va_P G.1 vwCl (W3 G a u am um ao h2) H) : va_at G.1 vwCl (gad (GG G a u am um ao) 97, ce (GG G a u am um ao) (H0 h2) 97) H := by
  have e : H0 h2 97 = _ := (H0_q (by decide)).trans (HQ_4 (by decide +kernel))
  rw [ce_o (c := 4) (by decide +kernel) (by decide)]
  simp only [flds, e]
  exact hP 91 _ rfl
theorem fk_98 {G : GT} {a : Nat} {u : Nat → Nat} {am : Nat} {um : Nat → Nat} {ao : Nat} {h2 : Hp} {H : Heap} (hP : va_P G.1 vwCl (W3 G a u am um ao h2) H) : va_at G.1 vwCl (gad (GG G a u am um ao) 98, ce (GG G a u am um ao) (H0 h2) 98) H := by
  have e : H0 h2 98 = _ := (H0_q (by decide)).trans (HQ_4 (by decide +kernel))
  rw [ce_o (c := 4) (by decide +kernel) (by decide)]
  simp only [flds, e]
  exact hP 92 _ rfl
theorem fk_99 {G : GT} {a : Nat} {u : Nat → Nat} {am : Nat} {um : Nat → Nat} {ao : Nat} {h2 : Hp} {H : Heap} (hP : va_P G.1 vwCl (W3 G a u am um ao h2) H) : va_at G.1 vwCl (gad (GG G a u am um ao) 99, ce (GG G a u am um ao) (H0 h2) 99) H := by
  have e : H0 h2 99 = _ := (H0_q (by decide)).trans (HQ_4 (by decide +kernel))
  rw [ce_o (c := 4) (by decide +kernel) (by decide)]
  simp only [flds, e]
  exact hP 93 _ rfl
theorem fk_100 {G : GT} {a : Nat} {u : Nat → Nat} {am : Nat} {um : Nat → Nat} {ao : Nat} {h2 : Hp} {H : Heap} (hP : va_P G.1 vwCl (W3 G a u am um ao h2) H) : va_at G.1 vwCl (gad (GG G a u am um ao) 100, ce (GG G a u am um ao) (H0 h2) 100) H := by
  have e : H0 h2 100 = _ := (H0_q (by decide)).trans (HQ_z (by decide +kernel) (by decide +kernel) (by decide +kernel) (by decide +kernel) (by decide +kernel))
  rw [ce_o (c := 6) (by decide +kernel) (by decide)]
  simp only [flds, e]
  exact hP 70 _ rfl
theorem fk_101 {G : GT} {a : Nat} {u : Nat → Nat} {am : Nat} {um : Nat → Nat} {ao : Nat} {h2 : Hp} {H : Heap} (hP : va_P G.1 vwCl (W3 G a u am um ao h2) H) : va_at G.1 vwCl (gad (GG G a u am um ao) 101, ce (GG G a u am um ao) (H0 h2) 101) H := by
  rw [ce_i (n := 6) (by decide +kernel) (by decide), H0_q (by decide), HQ_z (by decide +kernel) (by decide +kernel) (by decide +kernel) (by decide +kernel) (by decide +kernel)]
  exact hP 71 _ rfl
theorem fk_102 {G : GT} {a : Nat} {u : Nat → Nat} {am : Nat} {um : Nat → Nat} {ao : Nat} {h2 : Hp} {H : Heap} (hP : va_P G.1 vwCl (W3 G a u am um ao h2) H) : va_at G.1 vwCl (gad (GG G a u am um ao) 102, ce (GG G a u am um ao) (H0 h2) 102) H := by
  rw [ce_i (n := 6) (by decide +kernel) (by decide), H0_q (by decide), HQ_z (by decide +kernel) (by decide +kernel) (by decide +kernel) (by decide +kernel) (by decide +kernel)]
  exact hP 72 _ rfl
theorem fk_103 {G : GT} {a : Nat} {u : Nat → Nat} {am : Nat} {um : Nat → Nat} {ao : Nat} {h2 : Hp} {H : Heap} (hP : va_P G.1 vwCl (W3 G a u am um ao h2) H) : va_at G.1 vwCl (gad (GG G a u am um ao) 103, ce (GG G a u am um ao) (H0 h2) 103) H := by
  rw [ce_i (n := 6) (by decide +kernel) (by decide), H0_q (by decide), HQ_z (by decide +kernel) (by decide +kernel) (by decide +kernel) (by decide +kernel) (by decide +kernel)]
  exact hP 73 _ rfl
theorem fk_110 {G : GT} {a : Nat} {u : Nat → Nat} {am : Nat} {um : Nat → Nat} {ao : Nat} {h2 : Hp} {H : Heap} (hP : va_P G.1 vwCl (W3 G a u am um ao h2) H) : va_at G.1 vwCl (gad (GG G a u am um ao) 110, ce (GG G a u am um ao) (H0 h2) 110) H := by
  rw [ce_o (c := 9) (by decide +kernel) (by decide)]
  have h := hP 94 (gad (G.1, (fun o => if o = 110 then am else um (o - 111)), G.2.2) 110, M2.ce (G.1, (fun o => if o = 110 then am else um (o - 111)), G.2.2) h2 110) rfl
  rw [M2.ce_o (c := 9) (by decide +kernel) (by decide)] at h
  exact h
theorem fk_111 {G : GT} {a : Nat} {u : Nat → Nat} {am : Nat} {um : Nat → Nat} {ao : Nat} {h2 : Hp} {H : Heap} (hP : va_P G.1 vwCl (W3 G a u am um ao h2) H) : va_at G.1 vwCl (gad (GG G a u am um ao) 111, ce (GG G a u am um ao) (H0 h2) 111) H := by
  rw [ce_i (n := 900) (by decide +kernel) (by decide)]
  have h := hP 95 (gad (G.1, (fun o => if o = 110 then am else um (o - 111)), G.2.2) 111, M2.ce (G.1, (fun o => if o = 110 then am else um (o - 111)), G.2.2) h2 111) rfl
  rw [M2.ce_i (n := 900) (by decide +kernel) (by decide)] at h
  exact h
theorem fk_112 {G : GT} {a : Nat} {u : Nat → Nat} {am : Nat} {um : Nat → Nat} {ao : Nat} {h2 : Hp} {H : Heap} (hP : va_P G.1 vwCl (W3 G a u am um ao h2) H) : va_at G.1 vwCl (gad (GG G a u am um ao) 112, ce (GG G a u am um ao) (H0 h2) 112) H := by
  rw [ce_i (n := 8) (by decide +kernel) (by decide)]
  have h := hP 96 (gad (G.1, (fun o => if o = 110 then am else um (o - 111)), G.2.2) 112, M2.ce (G.1, (fun o => if o = 110 then am else um (o - 111)), G.2.2) h2 112) rfl
  rw [M2.ce_i (n := 8) (by decide +kernel) (by decide)] at h
  exact h
theorem fk_113 {G : GT} {a : Nat} {u : Nat → Nat} {am : Nat} {um : Nat → Nat} {ao : Nat} {h2 : Hp} {H : Heap} (hP : va_P G.1 vwCl (W3 G a u am um ao h2) H) : va_at G.1 vwCl (gad (GG G a u am um ao) 113, ce (GG G a u am um ao) (H0 h2) 113) H := by
  rw [ce_z (n := 8) (by decide +kernel)]
  have h := hP 97 (gad (G.1, (fun o => if o = 110 then am else um (o - 111)), G.2.2) 113, M2.ce (G.1, (fun o => if o = 110 then am else um (o - 111)), G.2.2) h2 113) rfl
  rw [M2.ce_z (n := 8) (by decide +kernel)] at h
  exact h
theorem fk_114 {G : GT} {a : Nat} {u : Nat → Nat} {am : Nat} {um : Nat → Nat} {ao : Nat} {h2 : Hp} {H : Heap} (hP : va_P G.1 vwCl (W3 G a u am um ao h2) H) : va_at G.1 vwCl (gad (GG G a u am um ao) 114, ce (GG G a u am um ao) (H0 h2) 114) H := by
  rw [ce_i (n := 20) (by decide +kernel) (by decide)]
  have h := hP 98 (gad (G.1, (fun o => if o = 110 then am else um (o - 111)), G.2.2) 114, M2.ce (G.1, (fun o => if o = 110 then am else um (o - 111)), G.2.2) h2 114) rfl
  rw [M2.ce_i (n := 20) (by decide +kernel) (by decide)] at h
  exact h
theorem fk_115 {G : GT} {a : Nat} {u : Nat → Nat} {am : Nat} {um : Nat → Nat} {ao : Nat} {h2 : Hp} {H : Heap} (hP : va_P G.1 vwCl (W3 G a u am um ao h2) H) : va_at G.1 vwCl (gad (GG G a u am um ao) 115, ce (GG G a u am um ao) (H0 h2) 115) H := by
  rw [ce_i (n := 900) (by decide +kernel) (by decide)]
  have h := hP 99 (gad (G.1, (fun o => if o = 110 then am else um (o - 111)), G.2.2) 115, M2.ce (G.1, (fun o => if o = 110 then am else um (o - 111)), G.2.2) h2 115) rfl
  rw [M2.ce_i (n := 900) (by decide +kernel) (by decide)] at h
  exact h
theorem fk_116 {G : GT} {a : Nat} {u : Nat → Nat} {am : Nat} {um : Nat → Nat} {ao : Nat} {h2 : Hp} {H : Heap} (hP : va_P G.1 vwCl (W3 G a u am um ao h2) H) : va_at G.1 vwCl (gad (GG G a u am um ao) 116, ce (GG G a u am um ao) (H0 h2) 116) H := by
  rw [ce_i (n := 3715) (by decide +kernel) (by decide)]
  have h := hP 100 (gad (G.1, (fun o => if o = 110 then am else um (o - 111)), G.2.2) 116, M2.ce (G.1, (fun o => if o = 110 then am else um (o - 111)), G.2.2) h2 116) rfl
  rw [M2.ce_i (n := 3715) (by decide +kernel) (by decide)] at h
  exact h
theorem fk_117 {G : GT} {a : Nat} {u : Nat → Nat} {am : Nat} {um : Nat → Nat} {ao : Nat} {h2 : Hp} {H : Heap} (hP : va_P G.1 vwCl (W3 G a u am um ao h2) H) : va_at G.1 vwCl (gad (GG G a u am um ao) 117, ce (GG G a u am um ao) (H0 h2) 117) H := by
  rw [ce_i (n := 3715) (by decide +kernel) (by decide)]
  have h := hP 101 (gad (G.1, (fun o => if o = 110 then am else um (o - 111)), G.2.2) 117, M2.ce (G.1, (fun o => if o = 110 then am else um (o - 111)), G.2.2) h2 117) rfl
  rw [M2.ce_i (n := 3715) (by decide +kernel) (by decide)] at h
  exact h
theorem fk_120 {G : GT} {a : Nat} {u : Nat → Nat} {am : Nat} {um : Nat → Nat} {ao : Nat} {h2 : Hp} {H : Heap} (hP : va_P G.1 vwCl (W3 G a u am um ao h2) H) : va_at G.1 vwCl (gad (GG G a u am um ao) 120, ce (GG G a u am um ao) (H0 h2) 120) H := by
  rw [ce_l (by decide +kernel)]
  exact hP 102 _ rfl
set_option maxRecDepth 20000 in
theorem fin_key {G : GT} {a : Nat} {u : Nat → Nat} {am : Nat} {um : Nat → Nat} {ao : Nat} {h2 : Hp} {H : Heap} (hP : va_P G.1 vwCl (W3 G a u am um ao h2) H) : ∀ q ∈ obk, va_at G.1 vwCl (gad (GG G a u am um ao) q.1, ce (GG G a u am um ao) (H0 h2) q.1) H :=
  List.forall_mem_cons.mpr ⟨fk_0 hP, List.forall_mem_cons.mpr ⟨fk_1 hP, List.forall_mem_cons.mpr ⟨fk_2 hP, List.forall_mem_cons.mpr ⟨fk_3 hP, List.forall_mem_cons.mpr ⟨fk_4 hP, List.forall_mem_cons.mpr ⟨fk_10 hP, List.forall_mem_cons.mpr ⟨fk_11 hP, List.forall_mem_cons.mpr ⟨fk_12 hP, List.forall_mem_cons.mpr ⟨fk_13 hP, List.forall_mem_cons.mpr ⟨fk_14 hP, List.forall_mem_cons.mpr ⟨fk_15 hP, List.forall_mem_cons.mpr ⟨fk_16 hP, List.forall_mem_cons.mpr ⟨fk_17 hP, List.forall_mem_cons.mpr ⟨fk_18 hP, List.forall_mem_cons.mpr ⟨fk_19 hP, List.forall_mem_cons.mpr ⟨fk_20 hP, List.forall_mem_cons.mpr ⟨fk_21 hP, List.forall_mem_cons.mpr ⟨fk_22 hP, List.forall_mem_cons.mpr ⟨fk_23 hP, List.forall_mem_cons.mpr ⟨fk_24 hP, List.forall_mem_cons.mpr ⟨fk_25 hP, List.forall_mem_cons.mpr ⟨fk_26 hP, List.forall_mem_cons.mpr ⟨fk_27 hP, List.forall_mem_cons.mpr ⟨fk_28 hP, List.forall_mem_cons.mpr ⟨fk_29 hP, List.forall_mem_cons.mpr ⟨fk_30 hP, List.forall_mem_cons.mpr ⟨fk_31 hP, List.forall_mem_cons.mpr ⟨fk_32 hP, List.forall_mem_cons.mpr ⟨fk_33 hP, List.forall_mem_cons.mpr ⟨fk_34 hP, List.forall_mem_cons.mpr ⟨fk_35 hP, List.forall_mem_cons.mpr ⟨fk_36 hP, List.forall_mem_cons.mpr ⟨fk_37 hP, List.forall_mem_cons.mpr ⟨fk_38 hP, List.forall_mem_cons.mpr ⟨fk_39 hP, List.forall_mem_cons.mpr ⟨fk_40 hP, List.forall_mem_cons.mpr ⟨fk_41 hP, List.forall_mem_cons.mpr ⟨fk_42 hP, List.forall_mem_cons.mpr ⟨fk_43 hP, List.forall_mem_cons.mpr ⟨fk_44 hP, List.forall_mem_cons.mpr ⟨fk_45 hP, List.forall_mem_cons.mpr ⟨fk_46 hP, List.forall_mem_cons.mpr ⟨fk_47 hP, List.forall_mem_cons.mpr ⟨fk_48 hP, List.forall_mem_cons.mpr ⟨fk_49 hP, List.forall_mem_cons.mpr ⟨fk_50 hP, List.forall_mem_cons.mpr ⟨fk_51 hP, List.forall_mem_cons.mpr ⟨fk_52 hP, List.forall_mem_cons.mpr ⟨fk_53 hP, List.forall_mem_cons.mpr ⟨fk_59 hP, List.forall_mem_cons.mpr ⟨fk_60 hP, List.forall_mem_cons.mpr ⟨fk_61 hP, List.forall_mem_cons.mpr ⟨fk_62 hP, List.forall_mem_cons.mpr ⟨fk_63 hP, List.forall_mem_cons.mpr ⟨fk_64 hP, List.forall_mem_cons.mpr ⟨fk_65 hP, List.forall_mem_cons.mpr ⟨fk_66 hP, List.forall_mem_cons.mpr ⟨fk_67 hP, List.forall_mem_cons.mpr ⟨fk_68 hP, List.forall_mem_cons.mpr ⟨fk_69 hP, List.forall_mem_cons.mpr ⟨fk_70 hP, List.forall_mem_cons.mpr ⟨fk_71 hP, List.forall_mem_cons.mpr ⟨fk_72 hP, List.forall_mem_cons.mpr ⟨fk_73 hP, List.forall_mem_cons.mpr ⟨fk_74 hP, List.forall_mem_cons.mpr ⟨fk_75 hP, List.forall_mem_cons.mpr ⟨fk_76 hP, List.forall_mem_cons.mpr ⟨fk_77 hP, List.forall_mem_cons.mpr ⟨fk_78 hP, List.forall_mem_cons.mpr ⟨fk_79 hP, List.forall_mem_cons.mpr ⟨fk_80 hP, List.forall_mem_cons.mpr ⟨fk_81 hP, List.forall_mem_cons.mpr ⟨fk_82 hP, List.forall_mem_cons.mpr ⟨fk_83 hP, List.forall_mem_cons.mpr ⟨fk_84 hP, List.forall_mem_cons.mpr ⟨fk_85 hP, List.forall_mem_cons.mpr ⟨fk_86 hP, List.forall_mem_cons.mpr ⟨fk_87 hP, List.forall_mem_cons.mpr ⟨fk_88 hP, List.forall_mem_cons.mpr ⟨fk_89 hP, List.forall_mem_cons.mpr ⟨fk_90 hP, List.forall_mem_cons.mpr ⟨fk_91 hP, List.forall_mem_cons.mpr ⟨fk_92 hP, List.forall_mem_cons.mpr ⟨fk_93 hP, List.forall_mem_cons.mpr ⟨fk_94 hP, List.forall_mem_cons.mpr ⟨fk_95 hP, List.forall_mem_cons.mpr ⟨fk_96 hP, List.forall_mem_cons.mpr ⟨fk_97 hP, List.forall_mem_cons.mpr ⟨fk_98 hP, List.forall_mem_cons.mpr ⟨fk_99 hP, List.forall_mem_cons.mpr ⟨fk_100 hP, List.forall_mem_cons.mpr ⟨fk_101 hP, List.forall_mem_cons.mpr ⟨fk_102 hP, List.forall_mem_cons.mpr ⟨fk_103 hP, List.forall_mem_cons.mpr ⟨fk_110 hP, List.forall_mem_cons.mpr ⟨fk_111 hP, List.forall_mem_cons.mpr ⟨fk_112 hP, List.forall_mem_cons.mpr ⟨fk_113 hP, List.forall_mem_cons.mpr ⟨fk_114 hP, List.forall_mem_cons.mpr ⟨fk_115 hP, List.forall_mem_cons.mpr ⟨fk_116 hP, List.forall_mem_cons.mpr ⟨fk_117 hP, List.forall_mem_cons.mpr ⟨fk_120 hP, fun _ h => absurd h List.not_mem_nil⟩⟩⟩⟩⟩⟩⟩⟩⟩⟩⟩⟩⟩⟩⟩⟩⟩⟩⟩⟩⟩⟩⟩⟩⟩⟩⟩⟩⟩⟩⟩⟩⟩⟩⟩⟩⟩⟩⟩⟩⟩⟩⟩⟩⟩⟩⟩⟩⟩⟩⟩⟩⟩⟩⟩⟩⟩⟩⟩⟩⟩⟩⟩⟩⟩⟩⟩⟩⟩⟩⟩⟩⟩⟩⟩⟩⟩⟩⟩⟩⟩⟩⟩⟩⟩⟩⟩⟩⟩⟩⟩⟩⟩⟩⟩⟩⟩⟩⟩⟩⟩⟩⟩
theorem fin_P {G : GT} {a : Nat} {u : Nat → Nat} {am : Nat} {um : Nat → Nat} {ao : Nat} {h2 : Hp} {H : Heap} (hP : va_P G.1 vwCl (W3 G a u am um ao h2) H) : va_P G.1 vwCl (wd (GG G a u am um ao) (H0 h2)) H := by
  intro k q hq
  unfold wd at hq
  rw [List.getElem?_map] at hq
  cases hz : obk[k]? with
  | none => rw [hz] at hq; cases hq
  | some z =>
    rw [hz] at hq
    cases hq
    exact fin_key hP z (List.mem_of_getElem? hz)
theorem D_fst {A : Nat → Prop} {ws ws' : va_W} (h : ws.map Prod.fst = ws'.map Prod.fst) (hD : va_D A ws) : va_D A ws' := by
  have g : ∀ (i : Nat) (q : Nat × va_E), ws'[i]? = some q → ∃ z, ws[i]? = some z ∧ z.1 = q.1 := by
    intro i q hq
    have h1 : (ws'.map Prod.fst)[i]? = some q.1 := by rw [List.getElem?_map, hq]; rfl
    rw [← h, List.getElem?_map] at h1
    cases hz : ws[i]? with
    | none => rw [hz] at h1; cases h1
    | some z => rw [hz] at h1; exact ⟨z, rfl, Option.some.inj h1⟩
  refine ⟨fun i j p q hp hq e => ?_, fun k q hq => ?_⟩
  · obtain ⟨z, g1, g2⟩ := g i p hp
    obtain ⟨y, g3, g4⟩ := g j q hq
    exact hD.1 i j z y g1 g3 (by rw [g2, g4, e])
  · obtain ⟨z, g1, g2⟩ := g k q hq
    rw [← g2]
    exact hD.2 k z g1
set_option maxRecDepth 20000 in
theorem fin_D {A : Nat → Prop} {G : GT} {a : Nat} {u : Nat → Nat} {am : Nat} {um : Nat → Nat} {ao : Nat} {h2 : Hp} (hD : va_D A (W3 G a u am um ao h2)) : va_D A (wd (GG G a u am um ao) (H0 h2)) :=
  D_fst (ws := [0, 1, 2, 3, 4, 5, 6, 7, 8, 9, 10, 11, 12, 13, 14, 15, 16, 17, 18, 19, 20, 21, 29, 30, 31, 32, 33, 34, 35, 36, 37, 38, 39, 40, 41, 42, 43, 44, 22, 23, 24, 45, 46, 47, 48, 25, 26, 27, 28, 49, 50, 51, 52, 53, 54, 55, 56, 57, 58, 59, 60, 61, 62, 63, 64, 65, 66, 74, 75, 76, 77, 78, 79, 80, 81, 82, 83, 84, 85, 86, 87, 88, 89, 67, 68, 69, 90, 91, 92, 93, 70, 71, 72, 73, 94, 95, 96, 97, 98, 99, 100, 101, 102].filterMap (fun i => (W3 G a u am um ao h2)[i]?)) rfl (hD.sub [0, 1, 2, 3, 4, 5, 6, 7, 8, 9, 10, 11, 12, 13, 14, 15, 16, 17, 18, 19, 20, 21, 29, 30, 31, 32, 33, 34, 35, 36, 37, 38, 39, 40, 41, 42, 43, 44, 22, 23, 24, 45, 46, 47, 48, 25, 26, 27, 28, 49, 50, 51, 52, 53, 54, 55, 56, 57, 58, 59, 60, 61, 62, 63, 64, 65, 66, 74, 75, 76, 77, 78, 79, 80, 81, 82, 83, 84, 85, 86, 87, 88, 89, 67, 68, 69, 90, 91, 92, 93, 70, 71, 72, 73, 94, 95, 96, 97, 98, 99, 100, 101, 102] (by decide +kernel) rfl)
