/-! the class clears its world -/
def BC (h : Hp) (o : Nat) : Prop := h o 0 = -2 ∧ h o 1 = -2 ∧ h o 2 = -2 ∧ h o 3 = 0 ∧ h o 4 = 0 ∧ h o 5 = 0 ∧ h o 6 = 0 ∧ h o 7 = 0 ∧ h o 8 = 0 ∧ h o 9 = 0 ∧ h o 10 = -2 ∧ h o 11 = 65535 ∧ h o 12 = 0 ∧ h o 13 = 0
theorem bclear (g : Hp) (o : Nat) : ∃ g', p_X0_clear g o = some g' ∧ BC g' o ∧ ∀ o', o' ≠ o → g' o' = g o' := by
  refine ⟨hp (hp (hp (hp (hp (hp (hp (hp (hp (hp (hp (hp (hp (hp g o 0 (-2)) o 5 0) o 13 0) o 7 0) o 8 0) o 9 0) o 10 (-2)) o 11 65535) o 12 0) o 1 (-2)) o 2 (-2)) o 3 0) o 4 0) o 6 0, ?_, ?_, fun o' ho => ?_⟩
  · unfold p_X0_clear p_X0_begin
    rw [nv_eq, nv_eq, nv_eq, nv_eq, nv_eq, nv_eq, nv_eq, nv_eq, nv_eq, Option.bind_some, nv_eq, nv_eq, nv_eq, nv_eq, nv_eq]
  · unfold BC
    simp (disch := omega) only [hp_s, hp_k, true_and, and_self]
  · simp (disch := exact ho) only [hp_n]
theorem clr_lp {w : Nat} (dd : Nat) : ∀ (g : Hp) (i M : Nat), i + dd = 16 → ∃ g', lp (b_X8_clear_23 w) (M + dd) (g, nI i) = lp (b_X8_clear_23 w) M (g', nI 16) ∧ (∀ b, i ≤ b → b < 16 → BC g' (w + 16 + 1 + b)) ∧ ∀ o, o < w + 16 + 1 + i ∨ w + 33 ≤ o → g' o = g o := by
  induction dd with
  | zero =>
    intro g i M hi
    have : i = 16 := by omega
    subst this
    exact ⟨g, rfl, fun b h1 h2 => by omega, fun _ _ => rfl⟩
  | succ dd ih =>
    intro g i M hi
    obtain ⟨g1, a1, a2, a3⟩ := bclear g (w + 16 + 1 + i)
    obtain ⟨g', e1, e2, e3⟩ := ih g1 (i + 1) M (by omega)
    refine ⟨g', ?_, fun b h1 h2 => ?_, fun o ho => ?_⟩
    · rw [← e1, ← Nat.add_assoc, lp_s]
      generalize lp (b_X8_clear_23 w) (M + dd) = K
      unfold b_X8_clear_23
      dsimp +instances only
      rw [if_neg (show ¬ (16 : Int32) ≤ nI i from nI_ge (b := 16) (by omega) (by omega)), if_pos (ib_n (by omega) (by omega)), nI_clamp (by omega), a1, Option.bind_some, nI_1]
    · by_cases u : b = i
      · subst u
        have : g' (w + 16 + 1 + b) = g1 (w + 16 + 1 + b) := e3 _ (by omega)
        unfold BC
        rw [this]
        exact a2
      · exact e2 b (by omega) h2
    · rw [e3 o (by omega), a3 o (by omega)]
theorem fclear (g : Hp) (o : Nat) : ∃ g', p_X1_clear g o = some g' ∧ g' o 13 = 0 ∧ g' o 14 = 0 ∧ (∀ j, j < 5 → g' (o + 13) j = 0) ∧ ∀ o', o' ≠ o → o' ≠ o + 13 → g' o' = g o' := by
  obtain ⟨F, hF⟩ : ∃ F, FU = F + 1 + 1 + 1 + 1 + 1 + 1 := ⟨FU - 6, by have := FU_gt (k := 6) (by omega); omega⟩
  have st : ∀ (g : Hp) (j M : Nat), j < 5 → lp (b_X1_clear_12 o) (M + 1) (g, nI j) = lp (b_X1_clear_12 o) M (hp g (o + 13) j 0, nI (j + 1)) := fun g j M hj => by
    rw [lp_s]
    generalize lp (b_X1_clear_12 o) M = K
    unfold b_X1_clear_12
    dsimp +instances only
    rw [if_neg (show ¬ (5 : Int32) ≤ nI j from nI_ge (b := 5) hj (by omega)), if_pos (ib_n hj (by omega)), nI_clamp (by omega), nv_eq, nI_1]
  refine ⟨hp (hp (hp (hp (hp (hp (hp g o 13 0) o 14 0) (o + 13) 0 0) (o + 13) 1 0) (o + 13) 2 0) (o + 13) 3 0) (o + 13) 4 0, ?_, ?_, ?_, fun j hj => ?_, fun o' h1 h2 => ?_⟩
  · unfold p_X1_clear
    rw [nv_eq, nv_eq, hF, ← nI_0, st _ 0 _ (by omega), st _ 1 _ (by omega), st _ 2 _ (by omega), st _ 3 _ (by omega), st _ 4 _ (by omega), lp_s, nI_0]
    generalize lp (b_X1_clear_12 o) F = K
    unfold b_X1_clear_12
    dsimp +instances only
    rw [if_pos (show (5 : Int32) ≤ nI (4 + 1) by decide)]
  · simp (disch := omega) only [hp_o', hp_k, hp_s]
  · simp (disch := omega) only [hp_o', hp_k, hp_s]
  · rcases (show j = 0 ∨ j = 1 ∨ j = 2 ∨ j = 3 ∨ j = 4 by omega) with rfl | rfl | rfl | rfl | rfl <;> simp (disch := omega) only [hp_o', hp_k, hp_s]
  · rw [hp_n h2, hp_n h2, hp_n h2, hp_n h2, hp_n h2, hp_n h1, hp_n h1]
theorem clear_c (h : Hp) (w : Nat) : ∃ h', p_X8_clear h w = some h' ∧ WC h' w 0 ∧ (∀ j, j < 8 → h' (w + 1) j = tbv 3 j) ∧ h' w 12 = h w 12 ∧ ∀ o, o < w ∨ w + 44 ≤ o → h' o = h o := by
  obtain ⟨F, hF⟩ : ∃ F, FU = F + 1 + 16 := ⟨FU - 17, by have := FU_gt (k := 17) (by omega); omega⟩
  obtain ⟨g0, hg0⟩ : ∃ g0, g0 = va_up h (w + 1) (va_cpy (tbv 3) (h (w + 1)) 0 0 8) := ⟨_, rfl⟩
  have g0n : ∀ o, o ≠ w + 1 → g0 o = h o := fun o ho => by rw [hg0, vu_o _ _ ho]
  have g01 : ∀ j, j < 8 → g0 (w + 1) j = tbv 3 j := fun j hj => by rw [hg0, vu_s, cpy_i _ _ hj]
  obtain ⟨g1, a1, a2, a3, a4, a5⟩ := fclear g0 (w + 2)
  obtain ⟨g2, b1, b2, b3⟩ := clr_lp (w := w) 16 g1 0 (F + 1) (by omega)
  obtain ⟨g3, hg3⟩ : ∃ g3, g3 = hp (hp (hp (hp (hp (hp (hp (hp g2 (w + 33) 1 0) (w + 33) 2 0) (w + 40) 3 0) w 6 0) w 7 0) w 8 0) w 9 0) w 10 0 := ⟨_, rfl⟩
  have g3n : ∀ o, o ≠ w → o ≠ w + 33 → o ≠ w + 40 → g3 o = g2 o := fun o h1 h2 h3 => by
    rw [hg3, hp_n h1, hp_n h1, hp_n h1, hp_n h1, hp_n h1, hp_n h3, hp_n h2, hp_n h2]
  refine ⟨g3, ?_, ⟨⟨?_, ?_, ?_, ?_, ?_, ?_, ?_, ?_, ?_, ?_⟩, fun j hj => ?_, fun b hb => ?_⟩, fun j hj => ?_, ?_, fun o ho => ?_⟩
  · unfold p_X8_clear
    rw [show Int32.toNatClampNeg 8 = 8 by decide, ← hg0, nv_eq, a1, Option.bind_some, ← nI_0, hF, b1, lp_s]
    generalize lp (b_X8_clear_23 w) F = K
    unfold b_X8_clear_23 p_X2_clear
    dsimp +instances only
    rw [if_pos (show (16 : Int32) ≤ nI 16 by decide), nv_eq, nv_eq, Option.bind_some, nv_eq, nv_eq, nv_eq, nv_eq, nv_eq, nv_eq, hg3]
  · rw [hg3]; simp (disch := omega) only [hp_k, hp_s]; rfl
  · rw [hg3]; simp (disch := omega) only [hp_k, hp_s]
  · rw [hg3]; simp (disch := omega) only [hp_k, hp_s]
  · rw [hg3]; simp (disch := omega) only [hp_k, hp_s]
  · rw [hg3]; simp (disch := omega) only [hp_k, hp_s]
  · rw [g3n _ (by omega) (by omega) (by omega), b3 _ (by omega), a2]
  · rw [g3n _ (by omega) (by omega) (by omega), b3 _ (by omega), a3]
  · rw [hg3]; simp (disch := omega) only [hp_o', hp_k, hp_s]
  · rw [hg3]; simp (disch := omega) only [hp_o', hp_k, hp_s]
  · rw [hg3]; simp (disch := omega) only [hp_o', hp_k, hp_s]
  · rw [g3n _ (by omega) (by omega) (by omega), b3 _ (by omega), a4 j hj]
  · rw [g3n _ (by omega) (by omega) (by omega)]
    exact b2 b (by omega) hb
  · rw [g3n _ (by omega) (by omega) (by omega), b3 _ (by omega), a5 _ (by omega) (by omega), g01 j hj]
  · rw [hg3]
    simp (disch := omega) only [hp_o', hp_k]
    rw [b3 _ (by omega), a5 _ (by omega) (by omega), g0n _ (by omega)]
  · rw [g3n _ (by omega) (by omega) (by omega), b3 _ (by omega), a5 _ (by omega) (by omega), g0n _ (by omega)]
/-! the class performs what stands before the deeds -/
/-- after the lines P: settings and senders -/
def FW (h : Hp) (P : List (List Nat)) : Prop := WC h (0 + 10) (hdl 8 P).length ∧ (∀ i, i < 8 → h (0 + 10 + 1) i = nI (vset i P)) ∧ ∀ k l, (hdl 8 P)[k]? = some l → h (0 + 10 + 35 + 1 + k) 0 = nI (l.getD 1 0) ∧ h (0 + 10 + 35 + 1 + k) 1 = nI (l.getD 2 0) ∧ h (0 + 10 + 35 + 1 + k) 2 = nI (100 * l.getD 3 0) ∧ h (0 + 10 + 35 + 1 + k) 3 = nI (l.getD 4 0) ∧ h (0 + 10 + 35 + 1 + k) 4 = nI (l.getD 5 0) ∧ h (0 + 10 + 35 + 1 + k) 5 = 0 ∧ h (0 + 10 + 35 + 1 + k) 6 = 0 ∧ h (0 + 10 + 35 + 1 + k) 7 = -2 ∧ h (0 + 10 + 35 + 1 + k) 8 = 0 ∧ h (0 + 10 + 35 + 1 + k) 9 = 0
theorem FW0 {h : Hp} (H : WC h (0 + 10) 0) (hs : ∀ j, j < 8 → h (0 + 10 + 1) j = tbv 3 j) : FW h [] := by
  refine ⟨H, fun i hi => ?_, fun k l hk => absurd hk (by simp [hdl])⟩
  rw [hs i hi]
  rcases (show i = 0 ∨ i = 1 ∨ i = 2 ∨ i = 3 ∨ i = 4 ∨ i = 5 ∨ i = 6 ∨ i = 7 by omega) with rfl | rfl | rfl | rfl | rfl | rfl | rfl | rfl <;> rfl
theorem ord_at {g : Hp} {O : Nat → Int32} {L : List Nat} {k x : Nat} (g8 : g (0 + 1) 8 = nI L.length) (gO : g (0 + 1 + 2) = O) (hA : AL O 0 L) (hL : L.length ≤ 900) (hk : L[k]? = some x) : p_X3_orderAt g (0 + 1) (nI k) = some (nI x, g) := by
  have hkl : k < L.length := (List.getElem?_eq_some_iff.mp hk).1
  have e := hA k x hk
  rw [Nat.zero_add] at e
  unfold p_X3_orderAt
  rw [if_neg (nI_pos (by omega)), if_neg (by rw [g8]; exact nI_ge hkl (by omega)), if_neg (show ¬ (900 : Int32) ≤ nI k from nI_ge (b := 900) (by omega) (by omega)), if_pos (ib_n (by omega) (by omega)), nI_clamp (by omega), gO, e]
