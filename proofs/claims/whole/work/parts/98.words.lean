/-! words -/
def Wds : Nat → List Nat
  | 0 => [116, 97, 114, 103, 101, 116]
  | 1 => [105, 110, 116, 101, 114, 118, 97, 108]
  | 2 => [113, 117, 97, 110, 116, 117, 109]
  | 3 => [115, 101, 116, 115]
  | 4 => [119, 97, 121, 115]
  | 5 => [108, 105, 109, 105, 116]
  | 6 => [115, 109, 97, 108, 108]
  | 7 => [114, 97, 116, 101]
  | 8 => [115, 101, 110, 100, 101, 114]
  | 9 => [99, 111, 109, 101]
  | 10 => [112, 97, 115, 115]
  | 11 => [103, 111]
  | 12 => [114, 117, 110]
  | _ => []
def wpi : Nat → Nat
  | 0 => 0
  | 1 => 1
  | 2 => 2
  | 3 => 5
  | 4 => 6
  | 5 => 7
  | 6 => 3
  | 7 => 4
  | 8 => 8
  | 9 => 9
  | 10 => 10
  | 11 => 11
  | 12 => 12
  | _ => 13
def wip : Nat → Nat
  | 0 => 0
  | 1 => 1
  | 2 => 2
  | 3 => 6
  | 4 => 7
  | 5 => 3
  | 6 => 4
  | 7 => 5
  | 8 => 8
  | 9 => 9
  | 10 => 10
  | 11 => 11
  | 12 => 12
  | _ => 13
theorem wc_0 : sle 0 = 6 ∧ ∀ q : Fin 6, sch 0 (nI q.val) = nI ((Wds 0).getD q.val 0) := by decide +kernel
theorem wc_1 : sle 1 = 8 ∧ ∀ q : Fin 8, sch 1 (nI q.val) = nI ((Wds 1).getD q.val 0) := by decide +kernel
theorem wc_2 : sle 2 = 7 ∧ ∀ q : Fin 7, sch 2 (nI q.val) = nI ((Wds 2).getD q.val 0) := by decide +kernel
theorem wc_3 : sle 3 = 4 ∧ ∀ q : Fin 4, sch 3 (nI q.val) = nI ((Wds 3).getD q.val 0) := by decide +kernel
theorem wc_4 : sle 4 = 4 ∧ ∀ q : Fin 4, sch 4 (nI q.val) = nI ((Wds 4).getD q.val 0) := by decide +kernel
theorem wc_5 : sle 5 = 5 ∧ ∀ q : Fin 5, sch 5 (nI q.val) = nI ((Wds 5).getD q.val 0) := by decide +kernel
theorem wc_6 : sle 6 = 5 ∧ ∀ q : Fin 5, sch 6 (nI q.val) = nI ((Wds 6).getD q.val 0) := by decide +kernel
theorem wc_7 : sle 7 = 4 ∧ ∀ q : Fin 4, sch 7 (nI q.val) = nI ((Wds 7).getD q.val 0) := by decide +kernel
theorem wc_8 : sle 8 = 6 ∧ ∀ q : Fin 6, sch 8 (nI q.val) = nI ((Wds 8).getD q.val 0) := by decide +kernel
theorem wc_9 : sle 9 = 4 ∧ ∀ q : Fin 4, sch 9 (nI q.val) = nI ((Wds 9).getD q.val 0) := by decide +kernel
theorem wc_10 : sle 10 = 4 ∧ ∀ q : Fin 4, sch 10 (nI q.val) = nI ((Wds 10).getD q.val 0) := by decide +kernel
theorem wc_11 : sle 11 = 2 ∧ ∀ q : Fin 2, sch 11 (nI q.val) = nI ((Wds 11).getD q.val 0) := by decide +kernel
theorem wc_12 : sle 12 = 3 ∧ ∀ q : Fin 3, sch 12 (nI q.val) = nI ((Wds 12).getD q.val 0) := by decide +kernel
theorem wm_l : sle 14 = 75 := by decide +kernel
theorem wm_0 : (∀ q : Fin 6, sch 14 (nI (0 + q.val)) = nI ((Wds 0).getD q.val 0) ∧ ¬ nI ((Wds 0).getD q.val 0) = 32) ∧ sch 14 (nI (0 + 6)) = 32 := by decide +kernel
theorem wm_1 : (∀ q : Fin 8, sch 14 (nI (7 + q.val)) = nI ((Wds 1).getD q.val 0) ∧ ¬ nI ((Wds 1).getD q.val 0) = 32) ∧ sch 14 (nI (7 + 8)) = 32 := by decide +kernel
theorem wm_2 : (∀ q : Fin 7, sch 14 (nI (16 + q.val)) = nI ((Wds 2).getD q.val 0) ∧ ¬ nI ((Wds 2).getD q.val 0) = 32) ∧ sch 14 (nI (16 + 7)) = 32 := by decide +kernel
theorem wm_3 : (∀ q : Fin 5, sch 14 (nI (24 + q.val)) = nI ((Wds 5).getD q.val 0) ∧ ¬ nI ((Wds 5).getD q.val 0) = 32) ∧ sch 14 (nI (24 + 5)) = 32 := by decide +kernel
theorem wm_4 : (∀ q : Fin 5, sch 14 (nI (30 + q.val)) = nI ((Wds 6).getD q.val 0) ∧ ¬ nI ((Wds 6).getD q.val 0) = 32) ∧ sch 14 (nI (30 + 5)) = 32 := by decide +kernel
theorem wm_5 : (∀ q : Fin 4, sch 14 (nI (36 + q.val)) = nI ((Wds 7).getD q.val 0) ∧ ¬ nI ((Wds 7).getD q.val 0) = 32) ∧ sch 14 (nI (36 + 4)) = 32 := by decide +kernel
theorem wm_6 : (∀ q : Fin 4, sch 14 (nI (41 + q.val)) = nI ((Wds 3).getD q.val 0) ∧ ¬ nI ((Wds 3).getD q.val 0) = 32) ∧ sch 14 (nI (41 + 4)) = 32 := by decide +kernel
theorem wm_7 : (∀ q : Fin 4, sch 14 (nI (46 + q.val)) = nI ((Wds 4).getD q.val 0) ∧ ¬ nI ((Wds 4).getD q.val 0) = 32) ∧ sch 14 (nI (46 + 4)) = 32 := by decide +kernel
theorem wm_8 : (∀ q : Fin 6, sch 14 (nI (51 + q.val)) = nI ((Wds 8).getD q.val 0) ∧ ¬ nI ((Wds 8).getD q.val 0) = 32) ∧ sch 14 (nI (51 + 6)) = 32 := by decide +kernel
theorem wm_9 : (∀ q : Fin 4, sch 14 (nI (58 + q.val)) = nI ((Wds 9).getD q.val 0) ∧ ¬ nI ((Wds 9).getD q.val 0) = 32) ∧ sch 14 (nI (58 + 4)) = 32 := by decide +kernel
theorem wm_10 : (∀ q : Fin 4, sch 14 (nI (63 + q.val)) = nI ((Wds 10).getD q.val 0) ∧ ¬ nI ((Wds 10).getD q.val 0) = 32) ∧ sch 14 (nI (63 + 4)) = 32 := by decide +kernel
theorem wm_11 : (∀ q : Fin 2, sch 14 (nI (68 + q.val)) = nI ((Wds 11).getD q.val 0) ∧ ¬ nI ((Wds 11).getD q.val 0) = 32) ∧ sch 14 (nI (68 + 2)) = 32 := by decide +kernel
theorem wm_12 : (∀ q : Fin 3, sch 14 (nI (71 + q.val)) = nI ((Wds 12).getD q.val 0) ∧ ¬ nI ((Wds 12).getD q.val 0) = 32) ∧ sch 14 (nI (71 + 3)) = 32 := by decide +kernel
/-- the letters from s on -/
def twd (ch : Nat → Nat) (s l : Nat) : List Nat := (List.range l).map fun q => ch (s + q)
theorem twd_len (ch : Nat → Nat) (s l : Nat) : (twd ch s l).length = l := by
  unfold twd
  rw [List.length_map, List.length_range]
theorem twd_get (ch : Nat → Nat) (s : Nat) {l q : Nat} (hq : q < l) : (twd ch s l)[q]? = some (ch (s + q)) := by
  unfold twd
  rw [List.getElem?_map, List.getElem?_range hq]
  rfl
theorem twd_eq {ch : Nat → Nat} {s l : Nat} {w : List Nat} : twd ch s l = w ↔ l = w.length ∧ ∀ q, q < l → ch (s + q) = w.getD q 0 := by
  constructor
  · intro e
    refine ⟨by rw [← e, twd_len], fun q hq => ?_⟩
    rw [← e, List.getD_eq_getElem?_getD, twd_get ch s hq]
    rfl
  · rintro ⟨e1, e2⟩
    refine List.ext_getElem? fun q => ?_
    by_cases hq : q < l
    · rw [twd_get ch s hq, e2 q hq, List.getD_eq_getElem?_getD, List.getElem?_eq_getElem (by omega)]
      rfl
    · rw [List.getElem?_eq_none (by rw [twd_len]; omega), List.getElem?_eq_none (by omega)]
section Wd
variable {h : Hp} {c O Q : Nat → Int32} {ch : Nat → Nat} {len s l : Nat}
/-- the class: is it this word? -/
theorem c_spell {i L : Nat} (hT : ∀ j, j < len → h 2 j = nI (ch j) ∧ ch j ≤ 255) (hl9 : len ≤ 900) (e3 : c 3 = nI (s + l)) (e5 : c 5 = nI s) (hsl : s + l ≤ len) (wL : sle i = L) (hW : (Wds i).length = L) (hL : L ≤ 20) (w2 : ∀ q : Fin L, sch i (nI q.val) = nI ((Wds i).getD q.val 0)) (hW2 : ∀ q : Fin L, (Wds i).getD q.val 0 < 256) : p_X3_isSpelled (cH h c O Q) (0 + 1) i = some (if twd ch s l = Wds i then 1 else 0, cH h c O Q) := by
  have sL : slen i = nI L := by unfold slen; rw [wL]; rfl
  unfold p_X3_isSpelled
  rw [cH_1, e3, e5, pk_sub (by omega), show s + l - s = l by omega, sL]
  by_cases c1 : l = L
  · subst c1
    rw [if_pos rfl]
    obtain ⟨p, hp⟩ : ∃ p : Nat → Bool, p = fun q => !decide (ch (s + q) = (Wds i).getD q 0) := ⟨_, rfl⟩
    have hf := fa_first_le p l
    have key : twd ch s l = Wds i ↔ ¬ fa_first p l < l := by
      rw [twd_eq]
      constructor
      · rintro ⟨_, e⟩ u
        have := fa_first_yes p l u
        rw [hp] at this
        rw [hp] at u
        simp only [Bool.not_eq_true', decide_eq_false_iff_not] at this
        exact this (e _ u)
      · intro u
        refine ⟨hW.symm, fun q hq => ?_⟩
        have := fa_first_no p l q (by omega)
        rw [hp] at this
        simp only [Bool.not_eq_false', decide_eq_true_eq] at this
        exact this
    have rd : ∀ q, q < l → cH h c O Q (0 + 1 + 1) (s + q) = nI (ch (s + q)) ∧ ch (s + q) ≤ 255 := fun q hq => by
      rw [cH_2]
      exact hT _ (by omega)
    have := lp_for (b := b_X3_isSpelled_20 (0 + 1) i) (fun q => (cH h c O Q, nI q)) (fa_first p l) (if twd ch s l = Wds i then 1 else 0, cH h c O Q) (fun K q hq => by
      have hno := fa_first_no p l q hq
      rw [hp] at hno
      simp only [Bool.not_eq_false', decide_eq_true_eq] at hno
      unfold b_X3_isSpelled_20
      dsimp +instances only
      rw [sL, if_neg (nI_ge (by omega) (by omega)), cH_1, e5, nI_add]
      simp only [if_pos (show ib (nI (s + q)) 900 from ib_n (by omega) (by omega)), nI_clamp (show s + q < 2 ^ 31 by omega)]
      rw [wL, if_pos (ib_n (show q < l by omega) (by omega)), (rd q (by omega)).1, w2 ⟨q, by omega⟩, hno, if_pos rfl, nI_1]) (fun K => by
      unfold b_X3_isSpelled_20
      dsimp +instances only
      by_cases u : fa_first p l < l
      · have hy := fa_first_yes p l u
        rw [hp] at hy
        simp only [Bool.not_eq_true', decide_eq_false_iff_not] at hy
        rw [← hp] at hy
        rw [sL, if_neg (nI_ge u (by omega)), cH_1, e5, nI_add]
        simp only [if_pos (show ib (nI (s + fa_first p l)) 900 from ib_n (by omega) (by omega)), nI_clamp (show s + fa_first p l < 2 ^ 31 by omega)]
        rw [wL, if_pos (ib_n u (by omega)), (rd _ u).1, w2 ⟨fa_first p l, u⟩, if_neg (fun z => hy (nI_inj (by have := (rd _ u).2; omega) (by have : (Wds i).getD (fa_first p l) 0 < 256 := hW2 ⟨fa_first p l, u⟩; omega) z)), if_neg (fun z => key.mp z u)]
      · rw [sL, if_pos (nI_le (by omega) (by omega)), if_pos (key.mpr u)]) (fa_first p l) 0 FU (by omega) (FU_gt (by omega))
    rw [nI_0] at this
    exact this
  · rw [if_neg (fun u => c1 (nI_inj (by omega) (by omega) u)), if_neg (fun u => c1 (by rw [twd_eq] at u; omega))]
end Wd

section Wm
variable {X : Hp} {d T I Z A : Nat → Int32} {ch : Nat → Nat} {len s l : Nat}
theorem m_word {j p L i : Nat} (hT : ∀ j, j < len → X 111 j = nI (ch j) ∧ ch j ≤ 255) (hl9 : len ≤ 900) (e12 : d 12 = nI (s + l)) (e13 : d 13 = nI s) (hsl : s + l ≤ len) (hW : (Wds i).length = L) (hL : L ≤ 20) (hp : p + L < 75) (w2 : ∀ q : Fin L, sch 14 (nI (p + q.val)) = nI ((Wds i).getD q.val 0) ∧ ¬ nI ((Wds i).getD q.val 0) = 32) (w3 : sch 14 (nI (p + L)) = 32) (hW2 : ∀ q : Fin L, (Wds i).getD q.val 0 < 256) (K : Hp × Int32 × Int32 → Option (Int32 × Hp)) : b_X10_wordHere_4 110 K (mH X d T I Z A, nI j, nI p) = if twd ch s l = Wds i then some (nI j, mH X d T I Z A) else K (mH X d T I Z A, nI (j + 1), nI (p + L + 1)) := by
  have sL : slen 14 = nI 75 := by unfold slen; rw [wm_l]; rfl
  obtain ⟨P, hP⟩ : ∃ P : Nat → Bool, P = fun q => decide (l ≤ q) || !decide (ch (s + q) = (Wds i).getD q 0) := ⟨_, rfl⟩
  have hf := fa_first_le P L
  have rd : ∀ q, q < l → mH X d T I Z A (110 + 1) (s + q) = nI (ch (s + q)) ∧ ch (s + q) ≤ 255 := fun q hq => by
    rw [mH_1]
    exact hT _ (by omega)
  have no : ∀ q, q < fa_first P L → q < l ∧ ch (s + q) = (Wds i).getD q 0 := fun q hq => by
    have := fa_first_no P L q hq
    rw [hP] at this
    simp only [Bool.or_eq_false_iff, decide_eq_false_iff_not, Bool.not_eq_false', decide_eq_true_eq] at this
    exact ⟨by omega, this.2⟩
  have yes : fa_first P L < L → l ≤ fa_first P L ∨ ¬ ch (s + fa_first P L) = (Wds i).getD (fa_first P L) 0 := fun u => by
    have := fa_first_yes P L u
    generalize fa_first P L = f at this
    rw [hP] at this
    simp only [Bool.or_eq_true, decide_eq_true_eq, Bool.not_eq_true', decide_eq_false_iff_not] at this
    exact this
  have key : twd ch s l = Wds i ↔ (fa_first P L = L ∧ l = L) := by
    rw [twd_eq, hW]
    constructor
    · rintro ⟨u1, u2⟩
      refine ⟨?_, u1⟩
      rcases Nat.lt_or_ge (fa_first P L) L with z | z
      · rcases yes z with y | y
        · omega
        · exact absurd (u2 _ (by omega)) y
      · omega
    · rintro ⟨u1, u2⟩
      exact ⟨u2, fun q hq => (no q (by omega)).2⟩
  -- on to the next word
  have nx : ∀ r, lp (b_X10_wordHere_97 K 110 (nI j)) FU (mH X d T I Z A, nI p) = r → r = K (mH X d T I Z A, nI (j + 1), nI (p + L + 1)) := fun r e => by
    rw [← e]
    refine lp_fo (b := b_X10_wordHere_97 K 110 (nI j)) (fun q => (mH X d T I Z A, nI (p + q))) L _ (fun K' q hq => ?_) (fun K' => ?_) L 0 FU (by omega) (FU_gt (by omega))
    · unfold b_X10_wordHere_97
      dsimp +instances only
      rw [wm_l, if_pos (ib_n (by omega) (by omega)), (w2 ⟨q, hq⟩).1, if_neg (w2 ⟨q, hq⟩).2, nI_1, Nat.add_assoc]
    · unfold b_X10_wordHere_97
      dsimp +instances only
      rw [wm_l, if_pos (ib_n hp (by omega)), w3, if_pos rfl, nI_1, nI_1]
  have q69 : q_X10_wordHere_69 K (mH X d T I Z A) 110 (nI j) (nI p) (nI (fa_first P L)) = if twd ch s l = Wds i then some (nI j, mH X d T I Z A) else K (mH X d T I Z A, nI (j + 1), nI (p + L + 1)) := by
    unfold q_X10_wordHere_69
    rw [nI_add, wm_l, if_pos (ib_n (by omega) (by omega)), nx _ rfl, mH_0, e12, e13, nI_add]
    by_cases u : fa_first P L = L
    · rw [u, w3, if_pos rfl]
      by_cases v : l = L
      · rw [v, if_pos rfl, if_pos (by rw [v] at key; exact key.mpr ⟨u, rfl⟩)]
      · rw [if_neg (fun z => v (by have := nI_inj (by omega) (by omega) z; omega)), if_neg (fun z => v (key.mp z).2)]
    · rw [(w2 ⟨fa_first P L, by omega⟩).1, if_neg (w2 ⟨fa_first P L, by omega⟩).2, if_neg (fun z => u (key.mp z).1)]
  unfold b_X10_wordHere_4
  dsimp +instances only
  rw [sL, if_neg (nI_ge (by omega) (by omega)), ← q69]
  have := lp_fo (b := b_X10_wordHere_15 K 110 (nI j) (nI p)) (fun q => (mH X d T I Z A, nI q)) (fa_first P L) (q_X10_wordHere_69 K (mH X d T I Z A) 110 (nI j) (nI p) (nI (fa_first P L))) (fun K' q hq => by
    obtain ⟨z1, z2⟩ := no q hq
    unfold b_X10_wordHere_15
    dsimp +instances only
    rw [nI_add, wm_l]
    simp only [if_pos (show ib (nI (p + q)) 75 from ib_n (by omega) (by omega))]
    rw [(w2 ⟨q, by omega⟩).1, if_neg (w2 ⟨q, by omega⟩).2, mH_0, e12, e13, nI_add, if_neg (nI_ge (by omega) (by omega))]
    simp only [if_pos (show ib (nI (s + q)) 900 from ib_n (by omega) (by omega)), nI_clamp (show s + q < 2 ^ 31 by omega)]
    rw [(rd q z1).1, z2, if_pos rfl, nI_1]) (fun K' => by
    unfold b_X10_wordHere_15
    dsimp +instances only
    rw [nI_add, wm_l]
    simp only [if_pos (show ib (nI (p + fa_first P L)) 75 from ib_n (by omega) (by omega))]
    by_cases u : fa_first P L = L
    · rw [u, w3, if_pos rfl]
    · rw [(w2 ⟨fa_first P L, by omega⟩).1, if_neg (w2 ⟨fa_first P L, by omega⟩).2, mH_0, e12, e13, nI_add]
      by_cases v : l ≤ fa_first P L
      · rw [if_pos (nI_le (by omega) (by omega))]
      · have hy := (yes (by omega)).resolve_left v
        rw [if_neg (nI_ge (by omega) (by omega))]
        simp only [if_pos (show ib (nI (s + fa_first P L)) 900 from ib_n (by omega) (by omega)), nI_clamp (show s + fa_first P L < 2 ^ 31 by omega)]
        rw [(rd _ (by omega)).1, if_neg (fun z => hy (nI_inj (by have := (rd (fa_first P L) (by omega)).2; omega) (by have : (Wds i).getD (fa_first P L) 0 < 256 := hW2 ⟨fa_first P L, by omega⟩; omega) z))]) (fa_first P L) 0 FU (by omega) (FU_gt (by omega))
  rw [nI_0] at this
  exact this
end Wm

section Wj
variable {h X : Hp} {c O Q d T I Z A : Nat → Int32} {ch : Nat → Nat} {len s l : Nat}
theorem c_wstep {i L : Nat} (hi : i < 13) (hT : ∀ j, j < len → h 2 j = nI (ch j) ∧ ch j ≤ 255) (hl9 : len ≤ 900) (e3 : c 3 = nI (s + l)) (e5 : c 5 = nI s) (e4 : c 4 = 4) (hsl : s + l ≤ len) (wL : sle i = L) (hW : (Wds i).length = L) (hL : L ≤ 20) (w2 : ∀ q : Fin L, sch i (nI q.val) = nI ((Wds i).getD q.val 0)) (hW2 : ∀ q : Fin L, (Wds i).getD q.val 0 < 256) (K : Hp × Int32 → Option Hp) : b_X3_scanWord_46 (0 + 1) K (cH h c O Q, nI i) = if twd ch s l = Wds i then K (cH h (upd (upd c 4 1) 6 (nI i)) O Q, nI (i + 1)) else K (cH h c O Q, nI (i + 1)) := by
  have sp : p_X3_spelling (cH h c O Q) (nI i) = some (i, cH h c O Q) := by
    unfold p_X3_spelling
    rcases (show i = 0 ∨ i = 1 ∨ i = 2 ∨ i = 3 ∨ i = 4 ∨ i = 5 ∨ i = 6 ∨ i = 7 ∨ i = 8 ∨ i = 9 ∨ i = 10 ∨ i = 11 ∨ i = 12 by omega) with rfl | rfl | rfl | rfl | rfl | rfl | rfl | rfl | rfl | rfl | rfl | rfl | rfl <;> rfl
  unfold b_X3_scanWord_46
  dsimp +instances only
  rw [if_neg (show ¬ (13 : Int32) ≤ nI i from nI_ge (b := 13) hi (by omega)), if_pos (by rw [cH_1]; exact e4), sp, Option.bind_some]
  dsimp +instances only
  rw [if_pos (show i < 17 by omega), c_spell (ch := ch) (l := l) hT hl9 e3 e5 hsl wL hW hL w2 hW2, Option.bind_some]
  dsimp +instances only
  rw [nI_1]
  by_cases u : twd ch s l = Wds i
  · rw [if_pos u, if_pos u, if_neg one_nz, nv_eq, nv_eq, cH_w1, cH_w1]
  · rw [if_neg u, if_neg u, if_pos rfl]
theorem c_wend {i : Nat} (hi : i ≤ 13) (e4 : c 4 = 1) (K : Hp × Int32 → Option Hp) : b_X3_scanWord_46 (0 + 1) K (cH h c O Q, nI i) = some (cH h c O Q) := by
  unfold b_X3_scanWord_46
  dsimp +instances only
  by_cases u : (13 : Int32) ≤ nI i
  · rw [if_pos u]
  · rw [if_neg u, if_neg (by rw [cH_1, e4]; decide)]
theorem c_wall (K : Hp × Int32 → Option Hp) : b_X3_scanWord_46 (0 + 1) K (cH h c O Q, nI 13) = some (cH h c O Q) := by
  unfold b_X3_scanWord_46
  dsimp +instances only
  rw [if_pos (by decide)]
/-- the word, on both sides -/
theorem word_sim (hT : ∀ j, j < len → h 2 j = nI (ch j) ∧ ch j ≤ 255) (hT2 : ∀ j, j < len → X 111 j = nI (ch j) ∧ ch j ≤ 255) (hl9 : len ≤ 900) (e3 : c 3 = nI (s + l)) (e5 : c 5 = nI s) (e4 : c 4 = 4) (e12 : d 12 = nI (s + l)) (e13 : d 13 = nI s) (hsl : s + l ≤ len) : (∃ i, i < 13 ∧ lp (b_X3_scanWord_46 (0 + 1)) FU (cH h c O Q, 0) = some (cH h (upd (upd c 4 1) 6 (nI i)) O Q) ∧ p_X10_wordHere (mH X d T I Z A) 110 = some (nI (wip i), mH X d T I Z A)) ∨ (lp (b_X3_scanWord_46 (0 + 1)) FU (cH h c O Q, 0) = some (cH h c O Q) ∧ p_X10_wordHere (mH X d T I Z A) 110 = some (-1, mH X d T I Z A)) := by
  obtain ⟨F, hF⟩ : ∃ F, FU = F + 20 := ⟨FU - 20, by have := FU_gt (k := 20) (by omega); omega⟩
  have sL : slen 14 = nI 75 := by unfold slen; rw [wm_l]; rfl
  have k4 : ∀ i, upd (upd c 4 1) 6 (nI i) 4 = 1 := fun i => by rw [upd_n _ _ (by omega), upd_s]
  unfold p_X10_wordHere
  rw [hF, show (0 : Int32) = nI 0 from rfl]
  have c0 := fun K => c_wstep (i := 0) (h := h) (c := c) (O := O) (Q := Q) (ch := ch) (l := l) (by omega) hT hl9 e3 e5 e4 hsl wc_0.1 (show (Wds 0).length = 6 from rfl) (by omega) wc_0.2 (by decide) K
  have c1 := fun K => c_wstep (i := 1) (h := h) (c := c) (O := O) (Q := Q) (ch := ch) (l := l) (by omega) hT hl9 e3 e5 e4 hsl wc_1.1 (show (Wds 1).length = 8 from rfl) (by omega) wc_1.2 (by decide) K
  have c2 := fun K => c_wstep (i := 2) (h := h) (c := c) (O := O) (Q := Q) (ch := ch) (l := l) (by omega) hT hl9 e3 e5 e4 hsl wc_2.1 (show (Wds 2).length = 7 from rfl) (by omega) wc_2.2 (by decide) K
  have c3 := fun K => c_wstep (i := 3) (h := h) (c := c) (O := O) (Q := Q) (ch := ch) (l := l) (by omega) hT hl9 e3 e5 e4 hsl wc_3.1 (show (Wds 3).length = 4 from rfl) (by omega) wc_3.2 (by decide) K
  have c4 := fun K => c_wstep (i := 4) (h := h) (c := c) (O := O) (Q := Q) (ch := ch) (l := l) (by omega) hT hl9 e3 e5 e4 hsl wc_4.1 (show (Wds 4).length = 4 from rfl) (by omega) wc_4.2 (by decide) K
  have c5 := fun K => c_wstep (i := 5) (h := h) (c := c) (O := O) (Q := Q) (ch := ch) (l := l) (by omega) hT hl9 e3 e5 e4 hsl wc_5.1 (show (Wds 5).length = 5 from rfl) (by omega) wc_5.2 (by decide) K
  have c6 := fun K => c_wstep (i := 6) (h := h) (c := c) (O := O) (Q := Q) (ch := ch) (l := l) (by omega) hT hl9 e3 e5 e4 hsl wc_6.1 (show (Wds 6).length = 5 from rfl) (by omega) wc_6.2 (by decide) K
  have c7 := fun K => c_wstep (i := 7) (h := h) (c := c) (O := O) (Q := Q) (ch := ch) (l := l) (by omega) hT hl9 e3 e5 e4 hsl wc_7.1 (show (Wds 7).length = 4 from rfl) (by omega) wc_7.2 (by decide) K
  have c8 := fun K => c_wstep (i := 8) (h := h) (c := c) (O := O) (Q := Q) (ch := ch) (l := l) (by omega) hT hl9 e3 e5 e4 hsl wc_8.1 (show (Wds 8).length = 6 from rfl) (by omega) wc_8.2 (by decide) K
  have c9 := fun K => c_wstep (i := 9) (h := h) (c := c) (O := O) (Q := Q) (ch := ch) (l := l) (by omega) hT hl9 e3 e5 e4 hsl wc_9.1 (show (Wds 9).length = 4 from rfl) (by omega) wc_9.2 (by decide) K
  have c10 := fun K => c_wstep (i := 10) (h := h) (c := c) (O := O) (Q := Q) (ch := ch) (l := l) (by omega) hT hl9 e3 e5 e4 hsl wc_10.1 (show (Wds 10).length = 4 from rfl) (by omega) wc_10.2 (by decide) K
  have c11 := fun K => c_wstep (i := 11) (h := h) (c := c) (O := O) (Q := Q) (ch := ch) (l := l) (by omega) hT hl9 e3 e5 e4 hsl wc_11.1 (show (Wds 11).length = 2 from rfl) (by omega) wc_11.2 (by decide) K
  have c12 := fun K => c_wstep (i := 12) (h := h) (c := c) (O := O) (Q := Q) (ch := ch) (l := l) (by omega) hT hl9 e3 e5 e4 hsl wc_12.1 (show (Wds 12).length = 3 from rfl) (by omega) wc_12.2 (by decide) K
  have m0 := fun K => m_word (j := 0) (p := 0) (L := 6) (i := 0) (X := X) (d := d) (T := T) (I := I) (Z := Z) (A := A) (ch := ch) (l := l) hT2 hl9 e12 e13 hsl rfl (by omega) (by omega) wm_0.1 wm_0.2 (by decide) K
  have m1 := fun K => m_word (j := 1) (p := 7) (L := 8) (i := 1) (X := X) (d := d) (T := T) (I := I) (Z := Z) (A := A) (ch := ch) (l := l) hT2 hl9 e12 e13 hsl rfl (by omega) (by omega) wm_1.1 wm_1.2 (by decide) K
  have m2 := fun K => m_word (j := 2) (p := 16) (L := 7) (i := 2) (X := X) (d := d) (T := T) (I := I) (Z := Z) (A := A) (ch := ch) (l := l) hT2 hl9 e12 e13 hsl rfl (by omega) (by omega) wm_2.1 wm_2.2 (by decide) K
  have m3 := fun K => m_word (j := 3) (p := 24) (L := 5) (i := 5) (X := X) (d := d) (T := T) (I := I) (Z := Z) (A := A) (ch := ch) (l := l) hT2 hl9 e12 e13 hsl rfl (by omega) (by omega) wm_3.1 wm_3.2 (by decide) K
  have m4 := fun K => m_word (j := 4) (p := 30) (L := 5) (i := 6) (X := X) (d := d) (T := T) (I := I) (Z := Z) (A := A) (ch := ch) (l := l) hT2 hl9 e12 e13 hsl rfl (by omega) (by omega) wm_4.1 wm_4.2 (by decide) K
  have m5 := fun K => m_word (j := 5) (p := 36) (L := 4) (i := 7) (X := X) (d := d) (T := T) (I := I) (Z := Z) (A := A) (ch := ch) (l := l) hT2 hl9 e12 e13 hsl rfl (by omega) (by omega) wm_5.1 wm_5.2 (by decide) K
  have m6 := fun K => m_word (j := 6) (p := 41) (L := 4) (i := 3) (X := X) (d := d) (T := T) (I := I) (Z := Z) (A := A) (ch := ch) (l := l) hT2 hl9 e12 e13 hsl rfl (by omega) (by omega) wm_6.1 wm_6.2 (by decide) K
  have m7 := fun K => m_word (j := 7) (p := 46) (L := 4) (i := 4) (X := X) (d := d) (T := T) (I := I) (Z := Z) (A := A) (ch := ch) (l := l) hT2 hl9 e12 e13 hsl rfl (by omega) (by omega) wm_7.1 wm_7.2 (by decide) K
  have m8 := fun K => m_word (j := 8) (p := 51) (L := 6) (i := 8) (X := X) (d := d) (T := T) (I := I) (Z := Z) (A := A) (ch := ch) (l := l) hT2 hl9 e12 e13 hsl rfl (by omega) (by omega) wm_8.1 wm_8.2 (by decide) K
  have m9 := fun K => m_word (j := 9) (p := 58) (L := 4) (i := 9) (X := X) (d := d) (T := T) (I := I) (Z := Z) (A := A) (ch := ch) (l := l) hT2 hl9 e12 e13 hsl rfl (by omega) (by omega) wm_9.1 wm_9.2 (by decide) K
  have m10 := fun K => m_word (j := 10) (p := 63) (L := 4) (i := 10) (X := X) (d := d) (T := T) (I := I) (Z := Z) (A := A) (ch := ch) (l := l) hT2 hl9 e12 e13 hsl rfl (by omega) (by omega) wm_10.1 wm_10.2 (by decide) K
  have m11 := fun K => m_word (j := 11) (p := 68) (L := 2) (i := 11) (X := X) (d := d) (T := T) (I := I) (Z := Z) (A := A) (ch := ch) (l := l) hT2 hl9 e12 e13 hsl rfl (by omega) (by omega) wm_11.1 wm_11.2 (by decide) K
  have m12 := fun K => m_word (j := 12) (p := 71) (L := 3) (i := 12) (X := X) (d := d) (T := T) (I := I) (Z := Z) (A := A) (ch := ch) (l := l) hT2 hl9 e12 e13 hsl rfl (by omega) (by omega) wm_12.1 wm_12.2 (by decide) K
  have mend : ∀ K : Hp × Int32 × Int32 → Option (Int32 × Hp), b_X10_wordHere_4 110 K (mH X d T I Z A, nI 13, nI 75) = some (-1, mH X d T I Z A) := fun K => by
    unfold b_X10_wordHere_4
    dsimp +instances only
    rw [sL, if_pos (by decide)]
  by_cases u : twd ch s l = Wds 0
  · refine Or.inl ⟨0, by omega, ?_, ?_⟩
    · rw [lp_s, c0, if_pos u, lp_s, c_wend (by omega) (k4 _)]
    · rw [lp_s, m0, if_pos u]
      rfl
  · have n0 := u
    clear u
    by_cases u : twd ch s l = Wds 1
    · refine Or.inl ⟨1, by omega, ?_, ?_⟩
      · rw [lp_s, c0, if_neg (by rw [u]; decide), lp_s, c1, if_pos u, lp_s, c_wend (by omega) (k4 _)]
      · rw [lp_s, m0, if_neg (by rw [u]; decide), lp_s, m1, if_pos u]
        rfl
    · have n1 := u
      clear u
      by_cases u : twd ch s l = Wds 2
      · refine Or.inl ⟨2, by omega, ?_, ?_⟩
        · rw [lp_s, c0, if_neg (by rw [u]; decide), lp_s, c1, if_neg (by rw [u]; decide), lp_s, c2, if_pos u, lp_s, c_wend (by omega) (k4 _)]
        · rw [lp_s, m0, if_neg (by rw [u]; decide), lp_s, m1, if_neg (by rw [u]; decide), lp_s, m2, if_pos u]
          rfl
      · have n2 := u
        clear u
        by_cases u : twd ch s l = Wds 3
        · refine Or.inl ⟨3, by omega, ?_, ?_⟩
          · rw [lp_s, c0, if_neg (by rw [u]; decide), lp_s, c1, if_neg (by rw [u]; decide), lp_s, c2, if_neg (by rw [u]; decide), lp_s, c3, if_pos u, lp_s, c_wend (by omega) (k4 _)]
          · rw [lp_s, m0, if_neg (by rw [u]; decide), lp_s, m1, if_neg (by rw [u]; decide), lp_s, m2, if_neg (by rw [u]; decide), lp_s, m3, if_neg (by rw [u]; decide), lp_s, m4, if_neg (by rw [u]; decide), lp_s, m5, if_neg (by rw [u]; decide), lp_s, m6, if_pos u]
            rfl
        · have n3 := u
          clear u
          by_cases u : twd ch s l = Wds 4
          · refine Or.inl ⟨4, by omega, ?_, ?_⟩
            · rw [lp_s, c0, if_neg (by rw [u]; decide), lp_s, c1, if_neg (by rw [u]; decide), lp_s, c2, if_neg (by rw [u]; decide), lp_s, c3, if_neg (by rw [u]; decide), lp_s, c4, if_pos u, lp_s, c_wend (by omega) (k4 _)]
            · rw [lp_s, m0, if_neg (by rw [u]; decide), lp_s, m1, if_neg (by rw [u]; decide), lp_s, m2, if_neg (by rw [u]; decide), lp_s, m3, if_neg (by rw [u]; decide), lp_s, m4, if_neg (by rw [u]; decide), lp_s, m5, if_neg (by rw [u]; decide), lp_s, m6, if_neg (by rw [u]; decide), lp_s, m7, if_pos u]
              rfl
          · have n4 := u
            clear u
            by_cases u : twd ch s l = Wds 5
            · refine Or.inl ⟨5, by omega, ?_, ?_⟩
              · rw [lp_s, c0, if_neg (by rw [u]; decide), lp_s, c1, if_neg (by rw [u]; decide), lp_s, c2, if_neg (by rw [u]; decide), lp_s, c3, if_neg (by rw [u]; decide), lp_s, c4, if_neg (by rw [u]; decide), lp_s, c5, if_pos u, lp_s, c_wend (by omega) (k4 _)]
              · rw [lp_s, m0, if_neg (by rw [u]; decide), lp_s, m1, if_neg (by rw [u]; decide), lp_s, m2, if_neg (by rw [u]; decide), lp_s, m3, if_pos u]
                rfl
            · have n5 := u
              clear u
              by_cases u : twd ch s l = Wds 6
              · refine Or.inl ⟨6, by omega, ?_, ?_⟩
                · rw [lp_s, c0, if_neg (by rw [u]; decide), lp_s, c1, if_neg (by rw [u]; decide), lp_s, c2, if_neg (by rw [u]; decide), lp_s, c3, if_neg (by rw [u]; decide), lp_s, c4, if_neg (by rw [u]; decide), lp_s, c5, if_neg (by rw [u]; decide), lp_s, c6, if_pos u, lp_s, c_wend (by omega) (k4 _)]
                · rw [lp_s, m0, if_neg (by rw [u]; decide), lp_s, m1, if_neg (by rw [u]; decide), lp_s, m2, if_neg (by rw [u]; decide), lp_s, m3, if_neg (by rw [u]; decide), lp_s, m4, if_pos u]
                  rfl
              · have n6 := u
                clear u
                by_cases u : twd ch s l = Wds 7
                · refine Or.inl ⟨7, by omega, ?_, ?_⟩
                  · rw [lp_s, c0, if_neg (by rw [u]; decide), lp_s, c1, if_neg (by rw [u]; decide), lp_s, c2, if_neg (by rw [u]; decide), lp_s, c3, if_neg (by rw [u]; decide), lp_s, c4, if_neg (by rw [u]; decide), lp_s, c5, if_neg (by rw [u]; decide), lp_s, c6, if_neg (by rw [u]; decide), lp_s, c7, if_pos u, lp_s, c_wend (by omega) (k4 _)]
                  · rw [lp_s, m0, if_neg (by rw [u]; decide), lp_s, m1, if_neg (by rw [u]; decide), lp_s, m2, if_neg (by rw [u]; decide), lp_s, m3, if_neg (by rw [u]; decide), lp_s, m4, if_neg (by rw [u]; decide), lp_s, m5, if_pos u]
                    rfl
                · have n7 := u
                  clear u
                  by_cases u : twd ch s l = Wds 8
                  · refine Or.inl ⟨8, by omega, ?_, ?_⟩
                    · rw [lp_s, c0, if_neg (by rw [u]; decide), lp_s, c1, if_neg (by rw [u]; decide), lp_s, c2, if_neg (by rw [u]; decide), lp_s, c3, if_neg (by rw [u]; decide), lp_s, c4, if_neg (by rw [u]; decide), lp_s, c5, if_neg (by rw [u]; decide), lp_s, c6, if_neg (by rw [u]; decide), lp_s, c7, if_neg (by rw [u]; decide), lp_s, c8, if_pos u, lp_s, c_wend (by omega) (k4 _)]
                    · rw [lp_s, m0, if_neg (by rw [u]; decide), lp_s, m1, if_neg (by rw [u]; decide), lp_s, m2, if_neg (by rw [u]; decide), lp_s, m3, if_neg (by rw [u]; decide), lp_s, m4, if_neg (by rw [u]; decide), lp_s, m5, if_neg (by rw [u]; decide), lp_s, m6, if_neg (by rw [u]; decide), lp_s, m7, if_neg (by rw [u]; decide), lp_s, m8, if_pos u]
                      rfl
                  · have n8 := u
                    clear u
                    by_cases u : twd ch s l = Wds 9
                    · refine Or.inl ⟨9, by omega, ?_, ?_⟩
                      · rw [lp_s, c0, if_neg (by rw [u]; decide), lp_s, c1, if_neg (by rw [u]; decide), lp_s, c2, if_neg (by rw [u]; decide), lp_s, c3, if_neg (by rw [u]; decide), lp_s, c4, if_neg (by rw [u]; decide), lp_s, c5, if_neg (by rw [u]; decide), lp_s, c6, if_neg (by rw [u]; decide), lp_s, c7, if_neg (by rw [u]; decide), lp_s, c8, if_neg (by rw [u]; decide), lp_s, c9, if_pos u, lp_s, c_wend (by omega) (k4 _)]
                      · rw [lp_s, m0, if_neg (by rw [u]; decide), lp_s, m1, if_neg (by rw [u]; decide), lp_s, m2, if_neg (by rw [u]; decide), lp_s, m3, if_neg (by rw [u]; decide), lp_s, m4, if_neg (by rw [u]; decide), lp_s, m5, if_neg (by rw [u]; decide), lp_s, m6, if_neg (by rw [u]; decide), lp_s, m7, if_neg (by rw [u]; decide), lp_s, m8, if_neg (by rw [u]; decide), lp_s, m9, if_pos u]
                        rfl
                    · have n9 := u
                      clear u
                      by_cases u : twd ch s l = Wds 10
                      · refine Or.inl ⟨10, by omega, ?_, ?_⟩
                        · rw [lp_s, c0, if_neg (by rw [u]; decide), lp_s, c1, if_neg (by rw [u]; decide), lp_s, c2, if_neg (by rw [u]; decide), lp_s, c3, if_neg (by rw [u]; decide), lp_s, c4, if_neg (by rw [u]; decide), lp_s, c5, if_neg (by rw [u]; decide), lp_s, c6, if_neg (by rw [u]; decide), lp_s, c7, if_neg (by rw [u]; decide), lp_s, c8, if_neg (by rw [u]; decide), lp_s, c9, if_neg (by rw [u]; decide), lp_s, c10, if_pos u, lp_s, c_wend (by omega) (k4 _)]
                        · rw [lp_s, m0, if_neg (by rw [u]; decide), lp_s, m1, if_neg (by rw [u]; decide), lp_s, m2, if_neg (by rw [u]; decide), lp_s, m3, if_neg (by rw [u]; decide), lp_s, m4, if_neg (by rw [u]; decide), lp_s, m5, if_neg (by rw [u]; decide), lp_s, m6, if_neg (by rw [u]; decide), lp_s, m7, if_neg (by rw [u]; decide), lp_s, m8, if_neg (by rw [u]; decide), lp_s, m9, if_neg (by rw [u]; decide), lp_s, m10, if_pos u]
                          rfl
                      · have n10 := u
                        clear u
                        by_cases u : twd ch s l = Wds 11
                        · refine Or.inl ⟨11, by omega, ?_, ?_⟩
                          · rw [lp_s, c0, if_neg (by rw [u]; decide), lp_s, c1, if_neg (by rw [u]; decide), lp_s, c2, if_neg (by rw [u]; decide), lp_s, c3, if_neg (by rw [u]; decide), lp_s, c4, if_neg (by rw [u]; decide), lp_s, c5, if_neg (by rw [u]; decide), lp_s, c6, if_neg (by rw [u]; decide), lp_s, c7, if_neg (by rw [u]; decide), lp_s, c8, if_neg (by rw [u]; decide), lp_s, c9, if_neg (by rw [u]; decide), lp_s, c10, if_neg (by rw [u]; decide), lp_s, c11, if_pos u, lp_s, c_wend (by omega) (k4 _)]
                          · rw [lp_s, m0, if_neg (by rw [u]; decide), lp_s, m1, if_neg (by rw [u]; decide), lp_s, m2, if_neg (by rw [u]; decide), lp_s, m3, if_neg (by rw [u]; decide), lp_s, m4, if_neg (by rw [u]; decide), lp_s, m5, if_neg (by rw [u]; decide), lp_s, m6, if_neg (by rw [u]; decide), lp_s, m7, if_neg (by rw [u]; decide), lp_s, m8, if_neg (by rw [u]; decide), lp_s, m9, if_neg (by rw [u]; decide), lp_s, m10, if_neg (by rw [u]; decide), lp_s, m11, if_pos u]
                            rfl
                        · have n11 := u
                          clear u
                          by_cases u : twd ch s l = Wds 12
                          · refine Or.inl ⟨12, by omega, ?_, ?_⟩
                            · rw [lp_s, c0, if_neg (by rw [u]; decide), lp_s, c1, if_neg (by rw [u]; decide), lp_s, c2, if_neg (by rw [u]; decide), lp_s, c3, if_neg (by rw [u]; decide), lp_s, c4, if_neg (by rw [u]; decide), lp_s, c5, if_neg (by rw [u]; decide), lp_s, c6, if_neg (by rw [u]; decide), lp_s, c7, if_neg (by rw [u]; decide), lp_s, c8, if_neg (by rw [u]; decide), lp_s, c9, if_neg (by rw [u]; decide), lp_s, c10, if_neg (by rw [u]; decide), lp_s, c11, if_neg (by rw [u]; decide), lp_s, c12, if_pos u, lp_s, c_wend (by omega) (k4 _)]
                            · rw [lp_s, m0, if_neg (by rw [u]; decide), lp_s, m1, if_neg (by rw [u]; decide), lp_s, m2, if_neg (by rw [u]; decide), lp_s, m3, if_neg (by rw [u]; decide), lp_s, m4, if_neg (by rw [u]; decide), lp_s, m5, if_neg (by rw [u]; decide), lp_s, m6, if_neg (by rw [u]; decide), lp_s, m7, if_neg (by rw [u]; decide), lp_s, m8, if_neg (by rw [u]; decide), lp_s, m9, if_neg (by rw [u]; decide), lp_s, m10, if_neg (by rw [u]; decide), lp_s, m11, if_neg (by rw [u]; decide), lp_s, m12, if_pos u]
                              rfl
                          · have n12 := u
                            clear u
                            refine Or.inr ⟨?_, ?_⟩
                            · rw [lp_s, c0, if_neg n0, lp_s, c1, if_neg n1, lp_s, c2, if_neg n2, lp_s, c3, if_neg n3, lp_s, c4, if_neg n4, lp_s, c5, if_neg n5, lp_s, c6, if_neg n6, lp_s, c7, if_neg n7, lp_s, c8, if_neg n8, lp_s, c9, if_neg n9, lp_s, c10, if_neg n10, lp_s, c11, if_neg n11, lp_s, c12, if_neg n12, lp_s, c_wall]
                            · rw [lp_s, m0, if_neg n0, lp_s, m1, if_neg n1, lp_s, m2, if_neg n2, lp_s, m3, if_neg n5, lp_s, m4, if_neg n6, lp_s, m5, if_neg n7, lp_s, m6, if_neg n3, lp_s, m7, if_neg n4, lp_s, m8, if_neg n8, lp_s, m9, if_neg n9, lp_s, m10, if_neg n10, lp_s, m11, if_neg n11, lp_s, m12, if_neg n12, lp_s, mend]
end Wj
