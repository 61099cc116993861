/-! lines: what is common -/
section L2
variable {h X : Hp} {c O Q d T I Z A : Nat → Int32}
theorem lstep {i r0 cnt j M : Nat} (hi : i < 14) (h0 : tbv 0 i = nI r0) (hr : r0 + j < 2 ^ 31) (hc : cnt ≤ 5) (hj : j < cnt) (g : Hp) : lp (b_X3_readLine_36 (0 + 1) (nI i) (nI cnt)) (M + 1) (g, nI j) = if g (0 + 1) 10 = 0 then (Option.bind (p_X3_nextToken g (0 + 1)) fun r5 => Option.bind (p_X3_readNumber r5 (0 + 1) (nI (r0 + j))) fun r7 => lp (b_X3_readLine_36 (0 + 1) (nI i) (nI cnt)) M (r7, nI (j + 1))) else q_X3_readLine_69 g (0 + 1) := by
  rw [lp_s]
  generalize lp (b_X3_readLine_36 (0 + 1) (nI i) (nI cnt)) M = K
  unfold b_X3_readLine_36
  dsimp +instances only
  rw [if_neg (nI_ge hj (by omega))]
  simp only [if_pos (show ib (nI i) 14 from ib_n hi (by omega)), nI_clamp (show i < 2 ^ 31 by omega), h0, nI_add, nI_1]
theorem lend {i cnt M : Nat} (hc : cnt ≤ 5) (g : Hp) : lp (b_X3_readLine_36 (0 + 1) (nI i) (nI cnt)) (M + 1) (g, nI cnt) = q_X3_readLine_69 g (0 + 1) := by
  rw [lp_s]
  generalize lp (b_X3_readLine_36 (0 + 1) (nI i) (nI cnt)) M = K
  unfold b_X3_readLine_36
  dsimp +instances only
  rw [if_pos (nI_le (Nat.le_refl _) (by omega))]
theorem q69_f (c10 : ¬ c 10 = 0) : q_X3_readLine_69 (cH h c O Q) (0 + 1) = some (cH h c O Q) := by
  unfold q_X3_readLine_69
  rw [if_neg (by rw [cH_1]; exact c10)]
theorem q59_f (d16 : ¬ d 16 = 0) : q_X10_readLine_59 (mH X d T I Z A) 110 = some (mH X (upd d 10 (d 10 + 1)) T I Z A) := by
  unfold q_X10_readLine_59
  rw [if_neg (by rw [mH_0]; exact d16), goOn_1 d16, Option.bind_some, nv_eq, mH_0, mH_w0]
/-- with a fault the loop over the numbers ends -/
theorem lp_f {i r0 cnt j M : Nat} (hi : i < 14) (h0 : tbv 0 i = nI r0) (hr : r0 + j < 2 ^ 31) (hc : cnt ≤ 5) (hj : j ≤ cnt) (c10 : ¬ c 10 = 0) : lp (b_X3_readLine_36 (0 + 1) (nI i) (nI cnt)) (M + 1) (cH h c O Q, nI j) = some (cH h c O Q) := by
  by_cases u : j < cnt
  · rw [lstep hi h0 hr hc u, if_neg (by rw [cH_1]; exact c10), q69_f c10]
  · rw [show j = cnt by omega, lend hc, q69_f c10]
def cntw : Nat → Nat
  | 8 => 5
  | 9 => 3
  | _ => 1
def r0w : Nat → Nat
  | 9 => 13
  | 10 => 16
  | 11 => 17
  | 12 => 18
  | i => i
theorem r0_ok {i : Nat} (hi : i < 13) : tbv 0 i = nI (r0w i) ∧ r0w i < 19 := by
  rcases (show i = 0 ∨ i = 1 ∨ i = 2 ∨ i = 3 ∨ i = 4 ∨ i = 5 ∨ i = 6 ∨ i = 7 ∨ i = 8 ∨ i = 9 ∨ i = 10 ∨ i = 11 ∨ i = 12 by omega) with rfl | rfl | rfl | rfl | rfl | rfl | rfl | rfl | rfl | rfl | rfl | rfl | rfl <;> exact ⟨rfl, by decide⟩
theorem cnt_ok {i : Nat} (hi : i < 13) (g : Hp) : p_X9_numbersOf g (nI i) = some (nI (cntw i), g) ∧ 1 ≤ cntw i ∧ cntw i ≤ 5 := by
  have e : p_X9_numbersOf g (nI i) = some (tbv 0 (i + 1) - tbv 0 i, g) := by
    unfold p_X9_numbersOf
    rw [if_neg (nI_pos (by omega)), if_pos (show nI i < 13 from nI_lt (b := 13) hi (by omega)), nI_1]
    simp only [if_pos (show ib (nI (i + 1)) 14 from ib_n (by omega) (by omega)), if_pos (show ib (nI i) 14 from ib_n (by omega) (by omega)), nI_clamp (show i + 1 < 2 ^ 31 by omega), nI_clamp (show i < 2 ^ 31 by omega)]
  rw [e]
  rcases (show i = 0 ∨ i = 1 ∨ i = 2 ∨ i = 3 ∨ i = 4 ∨ i = 5 ∨ i = 6 ∨ i = 7 ∨ i = 8 ∨ i = 9 ∨ i = 10 ∨ i = 11 ∨ i = 12 by omega) with rfl | rfl | rfl | rfl | rfl | rfl | rfl | rfl | rfl | rfl | rfl | rfl | rfl <;> exact ⟨rfl, by decide, by decide⟩
/-- the class, after the word was checked -/
theorem cl_go {i on : Nat} (hi : i < 13) (c8 : c 8 = nI on) (ho : on < 900) : (Option.bind (p_X3_put (cH h c O Q) (0 + 1) (nI i)) fun r10 => Option.bind (p_X9_numbersOf r10 (nI i)) fun r11 => lp (b_X3_readLine_36 (0 + 1) (nI i) r11.1) FU (r11.2, 0)) = lp (b_X3_readLine_36 (0 + 1) (nI i) (nI (cntw i))) FU (cH h (upd c 8 (nI (on + 1))) (upd O on (nI i)) Q, nI 0) := by
  rw [put_y c8 ho, Option.bind_some, (cnt_ok hi _).1, Option.bind_some]
  rfl
theorem cl_f {i on : Nat} (hi : i < 13) (c8 : c 8 = nI on) (ho : on ≤ 900) (c10 : ¬ c 10 = 0) : ∃ c' O', (Option.bind (p_X3_put (cH h c O Q) (0 + 1) (nI i)) fun r10 => Option.bind (p_X9_numbersOf r10 (nI i)) fun r11 => lp (b_X3_readLine_36 (0 + 1) (nI i) r11.1) FU (r11.2, 0)) = some (cH h c' O' Q) ∧ ∀ j, j ≠ 8 → c' j = c j := by
  obtain ⟨c', O', q1, q2⟩ := put_any (h := h) (c := c) (O := O) (Q := Q) c8 ho (nI i)
  obtain ⟨F, hF⟩ : ∃ F, FU = F + 1 := ⟨FU - 1, by have := FU_gt (k := 1) (by omega); omega⟩
  obtain ⟨k1, k2, k3⟩ := cnt_ok hi (cH h c' O' Q)
  obtain ⟨r1, r2⟩ := r0_ok hi
  refine ⟨c', O', ?_, q2⟩
  rw [q1, Option.bind_some, k1, Option.bind_some, hF]
  exact lp_f (j := 0) (by omega) r1 (by omega) k3 (by omega) (by rw [q2 _ (by omega)]; exact c10)
/-- two sides have found the same fault -/
def FO (h X : Hp) (x y : Option Hp) (o22 : Int32) : Prop := ∃ c' O' Q' d' T' I' Z' A', x = some (cH h c' O' Q') ∧ y = some (mH X d' T' I' Z' A') ∧ ¬ c' 10 = 0 ∧ d' 16 = c' 10 ∧ d' 17 = c' 11 ∧ d' 22 = o22
end L2
/-! what the reader knows -/
def dfl (i : Nat) : Nat := [5, 100, 300, 2, 2, 40, 0, 0].getD i 0
def vset (i : Nat) (P : List (List Nat)) : Nat := P.foldl (fun a l => if l.head? = some i then l.getD 1 0 else a) (dfl i)
theorem vset_s (i : Nat) (P : List (List Nat)) (l : List Nat) : vset i (P ++ [l]) = if l.head? = some i then l.getD 1 0 else vset i P := by
  unfold vset
  rw [List.foldl_append]
  rfl
def hdl (w : Nat) (P : List (List Nat)) : List (List Nat) := P.filter (fun l => decide (l.head? = some w))
theorem hdl_s (w : Nat) (P : List (List Nat)) (l : List Nat) : hdl w (P ++ [l]) = hdl w P ++ (if l.head? = some w then [l] else []) := by
  unfold hdl
  rw [List.filter_append]
  congr 1
  by_cases u : l.head? = some w
  · rw [if_pos u, List.filter_cons_of_pos (p := fun l : List Nat => decide (l.head? = some w)) (decide_eq_true u), List.filter_nil]
  · rw [if_neg u, List.filter_cons_of_neg (p := fun l : List Nat => decide (l.head? = some w)) (by rw [decide_eq_true_iff]; exact u), List.filter_nil]
def okS (l : List Nat) : Prop := ∃ i v lo hi, i < 8 ∧ tbv 1 i = nI lo ∧ tbv 2 i = nI hi ∧ lo ≤ v ∧ v ≤ hi ∧ hi ≤ 3000 ∧ l = [i, v]
def okN (l : List Nat) : Prop := ∃ a b w x m, a ≤ 9999 ∧ 1 ≤ b ∧ b ≤ 1500 ∧ 1 ≤ w ∧ w ≤ 20 ∧ 1 ≤ x ∧ x ≤ 99 ∧ m ≤ 1 ∧ l = [8, a, b, w, x, m]
def okC (l : List Nat) : Prop := ∃ a b m, a ≤ 9999 ∧ 1 ≤ b ∧ b ≤ 1500 ∧ m ≤ 1 ∧ l = [9, a, b, m]
def okD (l : List Nat) : Prop := ∃ j v, 10 ≤ j ∧ j ≤ 12 ∧ 1 ≤ v ∧ v ≤ (if j = 10 then 999 else if j = 11 then 60 else 200) ∧ l = [j, v]
def PS (P1 P2 : List (List Nat)) (c O Q d T I Z A : Nat → Int32) : Prop := c 8 = nI (P1 ++ P2).flatten.length ∧ AL O 0 (P1 ++ P2).flatten ∧ d 8 = nI P2.flatten.length ∧ AL A 0 P2.flatten ∧ c 16 = (if P2 = [] then 0 else 1) ∧ (∃ b, b < 256 ∧ c 12 = nI b ∧ ∀ i, i < 8 → I (wip i) = (if b.testBit i then 1 else 0)) ∧ (∀ i, i < 8 → T (wip i) = nI (vset i P1)) ∧ (hdl 8 P1).length ≤ 4 ∧ c 14 = nI (hdl 8 P1).length ∧ d 6 = nI (hdl 8 P1).length ∧ (∀ k l, (hdl 8 P1)[k]? = some l → Q k = nI (l.getD 1 0) ∧ Z (5 * k) = nI (l.getD 1 0) ∧ Z (5 * k + 1) = nI (l.getD 2 0) ∧ Z (5 * k + 2) = nI (100 * l.getD 3 0) ∧ Z (5 * k + 3) = nI (l.getD 4 0) ∧ Z (5 * k + 4) = nI (l.getD 5 0)) ∧ (hdl 9 P2).length ≤ 200 ∧ c 13 = nI (hdl 9 P2).length ∧ d 9 = nI (hdl 9 P2).length ∧ (∀ l ∈ P1, okS l ∨ okN l) ∧ (∀ l ∈ P2, okC l ∨ okD l)
def RS (len ln p s : Nat) (P1 P2 : List (List Nat)) (c O Q d T I Z A : Nat → Int32) : Prop := c 2 = nI len ∧ d 11 = nI len ∧ c 3 = nI p ∧ d 12 = nI p ∧ c 5 = nI s ∧ d 13 = nI s ∧ tkr (c 4) (c 6) (d 14) (d 15) ∧ s ≤ p ∧ p ≤ len ∧ (¬ c 4 = 0 → s < p) ∧ c 10 = 0 ∧ d 16 = 0 ∧ c 11 = -1 ∧ c 9 = nI ln ∧ d 10 = nI ln ∧ (ln ≤ s ∧ ln = (P1 ++ P2).length) ∧ (P1 ++ P2).flatten.length ≤ s ∧ PS P1 P2 c O Q d T I Z A
/-- after a line: on, or the same fault -/
def LO (h X : Hp) (len ln : Nat) (x y : Option Hp) (o22 : Int32) : Prop := (∃ p s P1 P2 c O Q d T I Z A, x = some (cH h c O Q) ∧ y = some (mH X d T I Z A) ∧ RS len (ln + 1) p s P1 P2 c O Q d T I Z A ∧ d 22 = o22) ∨ FO h X x y o22
