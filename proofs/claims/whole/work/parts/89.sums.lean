/-! what was sent in a trial -/
section Fo
variable {bg rl : Bool} {tb : Nat → Int32} {m y sn Bd n N w : Nat} {nw ol L : List Nat} {h : Hp} {S : Nat → Int32}
def fB (S : Nat → Int32) (c : Int32) (f : Nat) : Int32 := c + S (276 + 12 * f + 1)
def fW (S : Nat → Int32) (c : Int32) (f : Nat) : Int32 := c + wt S f
def fG (S : Nat → Int32) (c : Int32) (f : Nat) : Int32 := if wt S f ≤ c then c else wt S f
theorem c_sent (R : Rel bg rl tb m y sn Bd n N 200 nw ol L h w S) {i f : Nat} (ef : L[i]? = some f) (c : S (276 + 12 * f + 6) = 1) : p_X1_sentOne h (w + 2) (nI i) = some (nI f, h) := by
  have hnn := R.n200
  have hf : f < n := ((R.el.2.2.2.2.2.1 f).mp (List.mem_of_getElem? ef)).1
  unfold p_X1_sentOne
  rw [c_one R ef, Option.bind_some]
  dsimp +instances only
  rw [has_y R hf, Option.bind_some]
  dsimp +instances only
  rw [if_neg one_nz, if_pos (ib_n (by omega) (by omega)), nI_clamp (by omega), R.f9 hf (by omega), if_pos c]
theorem c_unsent (R : Rel bg rl tb m y sn Bd n N 200 nw ol L h w S) {i f : Nat} (ef : L[i]? = some f) (c : ¬ S (276 + 12 * f + 6) = 1) : p_X1_sentOne h (w + 2) (nI i) = some (-2, h) := by
  have hnn := R.n200
  have hf : f < n := ((R.el.2.2.2.2.2.1 f).mp (List.mem_of_getElem? ef)).1
  unfold p_X1_sentOne
  rw [c_one R ef, Option.bind_some]
  dsimp +instances only
  rw [has_y R hf, Option.bind_some]
  dsimp +instances only
  rw [if_neg one_nz, if_pos (ib_n (by omega) (by omega)), nI_clamp (by omega), R.f9 hf (by omega), if_neg c]
theorem c_bsf (R : Rel bg rl tb m y sn Bd n N 200 nw ol L h w S) : ∀ (E P : List Nat) (a : Int32) (M : Nat), L = P ++ E → E.length < M → lp (b_X1_bytesSentFrom_8 (w + 2)) M (h, a, nI P.length) = some ((pl S 1 E).foldl (fB S) a, h) := by
  have hnn := R.n200
  have hL : L.length ≤ n := nd_len n L R.el.2.2.2.2.1 (fun x hx => ((R.el.2.2.2.2.2.1 x).mp hx).1)
  intro E
  induction E with
  | nil =>
    intro P a M e hM
    obtain ⟨M', rfl⟩ : ∃ m', M = m' + 1 := ⟨M - 1, by omega⟩
    have hl : L.length = P.length := by rw [e, List.append_nil]
    rw [lp_s]
    unfold b_X1_bytesSentFrom_8
    dsimp +instances only
    rw [if_pos (by rw [R.el.1]; exact nI_le (by omega) (by omega))]
    rfl
  | cons f E ih =>
    intro P a M e hM
    obtain ⟨M', rfl⟩ : ∃ m', M = m' + 1 := ⟨M - 1, by omega⟩
    have hl : L.length = P.length + (E.length + 1) := by rw [e, List.length_append, List.length_cons]
    rw [List.length_cons] at hM
    have ef : L[P.length]? = some f := by
      rw [e, List.getElem?_append_right (Nat.le_refl _), Nat.sub_self]
      rfl
    have hf : f < n := ((R.el.2.2.2.2.2.1 f).mp (List.mem_of_getElem? ef)).1
    have e' : L = P ++ [f] ++ E := by rw [e, List.append_assoc]; rfl
    have ih := ih
    have il : (P ++ [f]).length = P.length + 1 := by rw [List.length_append]; rfl
    have ih2 : ∀ (a : Int32), lp (b_X1_bytesSentFrom_8 (w + 2)) M' (h, a, nI (P.length + 1)) = some ((pl S 1 E).foldl (fB S) a, h) := fun a => by
      rw [← il]
      exact ih (P ++ [f]) a M' e' (by omega)
    rw [lp_s]
    generalize lp (b_X1_bytesSentFrom_8 (w + 2)) M' = K at ih2
    unfold b_X1_bytesSentFrom_8
    dsimp +instances only
    rw [if_neg (by rw [R.el.1]; exact nI_ge (by omega) (by omega))]
    by_cases c : S (276 + 12 * f + 6) = 1
    · rw [c_sent R ef c, Option.bind_some]
      dsimp +instances only
      rw [has_y R hf, Option.bind_some]
      dsimp +instances only
      rw [if_neg one_nz]
      rw [show pl S 1 (f :: E) = f :: pl S 1 E from List.filter_cons_of_pos (decide_eq_true c), List.foldl_cons]
      rw [if_pos (ib_n (by omega) (by omega)), nI_clamp (by omega), R.f2 hf, nv_eq, nI_1]
      exact ih2 _
    · rw [c_unsent R ef c, Option.bind_some]
      dsimp +instances only
      rw [has_n, Option.bind_some]
      dsimp +instances only
      rw [if_pos rfl, show pl S 1 (f :: E) = pl S 1 E from List.filter_cons_of_neg (fun u => c (of_decide_eq_true u)), nI_1]
      exact ih2 a
theorem c_wsf (R : Rel bg rl tb m y sn Bd n N 200 nw ol L h w S) : ∀ (E P : List Nat) (a : Int32) (M : Nat), L = P ++ E → E.length < M → lp (b_X1_waitsFrom_8 (w + 2)) M (h, a, nI P.length) = some ((pl S 1 E).foldl (fW S) a, h) := by
  have hnn := R.n200
  have hL : L.length ≤ n := nd_len n L R.el.2.2.2.2.1 (fun x hx => ((R.el.2.2.2.2.2.1 x).mp hx).1)
  intro E
  induction E with
  | nil =>
    intro P a M e hM
    obtain ⟨M', rfl⟩ : ∃ m', M = m' + 1 := ⟨M - 1, by omega⟩
    have hl : L.length = P.length := by rw [e, List.append_nil]
    rw [lp_s]
    unfold b_X1_waitsFrom_8
    dsimp +instances only
    rw [if_pos (by rw [R.el.1]; exact nI_le (by omega) (by omega))]
    rfl
  | cons f E ih =>
    intro P a M e hM
    obtain ⟨M', rfl⟩ : ∃ m', M = m' + 1 := ⟨M - 1, by omega⟩
    have hl : L.length = P.length + (E.length + 1) := by rw [e, List.length_append, List.length_cons]
    rw [List.length_cons] at hM
    have ef : L[P.length]? = some f := by
      rw [e, List.getElem?_append_right (Nat.le_refl _), Nat.sub_self]
      rfl
    have hf : f < n := ((R.el.2.2.2.2.2.1 f).mp (List.mem_of_getElem? ef)).1
    have e' : L = P ++ [f] ++ E := by rw [e, List.append_assoc]; rfl
    have ih := ih
    have il : (P ++ [f]).length = P.length + 1 := by rw [List.length_append]; rfl
    have ih2 : ∀ (a : Int32), lp (b_X1_waitsFrom_8 (w + 2)) M' (h, a, nI (P.length + 1)) = some ((pl S 1 E).foldl (fW S) a, h) := fun a => by
      rw [← il]
      exact ih (P ++ [f]) a M' e' (by omega)
    rw [lp_s]
    generalize lp (b_X1_waitsFrom_8 (w + 2)) M' = K at ih2
    unfold b_X1_waitsFrom_8
    dsimp +instances only
    rw [if_neg (by rw [R.el.1]; exact nI_ge (by omega) (by omega))]
    by_cases c : S (276 + 12 * f + 6) = 1
    · rw [c_sent R ef c, Option.bind_some]
      dsimp +instances only
      rw [has_y R hf, Option.bind_some]
      dsimp +instances only
      rw [if_neg one_nz]
      rw [show pl S 1 (f :: E) = f :: pl S 1 E from List.filter_cons_of_pos (decide_eq_true c), List.foldl_cons]
      rw [c_waitOf R hf, Option.bind_some]
      dsimp +instances only
      rw [nv_eq, nI_1]
      exact ih2 _
    · rw [c_unsent R ef c, Option.bind_some]
      dsimp +instances only
      rw [has_n, Option.bind_some]
      dsimp +instances only
      rw [if_pos rfl, show pl S 1 (f :: E) = pl S 1 E from List.filter_cons_of_neg (fun u => c (of_decide_eq_true u)), nI_1]
      exact ih2 a
theorem c_gsf (R : Rel bg rl tb m y sn Bd n N 200 nw ol L h w S) : ∀ (E P : List Nat) (a : Int32) (M : Nat), L = P ++ E → E.length < M → lp (b_X1_greatestWaitFrom_9 (w + 2)) M (h, a, nI P.length) = some ((pl S 1 E).foldl (fG S) a, h) := by
  have hnn := R.n200
  have hL : L.length ≤ n := nd_len n L R.el.2.2.2.2.1 (fun x hx => ((R.el.2.2.2.2.2.1 x).mp hx).1)
  intro E
  induction E with
  | nil =>
    intro P a M e hM
    obtain ⟨M', rfl⟩ : ∃ m', M = m' + 1 := ⟨M - 1, by omega⟩
    have hl : L.length = P.length := by rw [e, List.append_nil]
    rw [lp_s]
    unfold b_X1_greatestWaitFrom_9
    dsimp +instances only
    rw [if_pos (by rw [R.el.1]; exact nI_le (by omega) (by omega))]
    rfl
  | cons f E ih =>
    intro P a M e hM
    obtain ⟨M', rfl⟩ : ∃ m', M = m' + 1 := ⟨M - 1, by omega⟩
    have hl : L.length = P.length + (E.length + 1) := by rw [e, List.length_append, List.length_cons]
    rw [List.length_cons] at hM
    have ef : L[P.length]? = some f := by
      rw [e, List.getElem?_append_right (Nat.le_refl _), Nat.sub_self]
      rfl
    have hf : f < n := ((R.el.2.2.2.2.2.1 f).mp (List.mem_of_getElem? ef)).1
    have e' : L = P ++ [f] ++ E := by rw [e, List.append_assoc]; rfl
    have ih := ih
    have il : (P ++ [f]).length = P.length + 1 := by rw [List.length_append]; rfl
    have ih2 : ∀ (a : Int32), lp (b_X1_greatestWaitFrom_9 (w + 2)) M' (h, a, nI (P.length + 1)) = some ((pl S 1 E).foldl (fG S) a, h) := fun a => by
      rw [← il]
      exact ih (P ++ [f]) a M' e' (by omega)
    rw [lp_s]
    generalize lp (b_X1_greatestWaitFrom_9 (w + 2)) M' = K at ih2
    unfold b_X1_greatestWaitFrom_9
    dsimp +instances only
    rw [if_neg (by rw [R.el.1]; exact nI_ge (by omega) (by omega))]
    by_cases c : S (276 + 12 * f + 6) = 1
    · rw [c_sent R ef c, Option.bind_some]
      dsimp +instances only
      rw [has_y R hf, Option.bind_some]
      dsimp +instances only
      rw [if_neg one_nz]
      rw [show pl S 1 (f :: E) = f :: pl S 1 E from List.filter_cons_of_pos (decide_eq_true c), List.foldl_cons]
      rw [c_waitOf R hf, Option.bind_some]
      dsimp +instances only
      have eg : (if a < wt S f then wt S f else a) = fG S a f := by
        unfold fG
        by_cases c3 : wt S f ≤ a
        · rw [if_pos c3, if_neg (fun u => (fa_of_lt u).2.1 c3)]
        · rw [if_neg c3, if_pos (fa_of_nle c3)]
      rw [nv_eq, nI_1, eg]
      exact ih2 _
    · rw [c_unsent R ef c, Option.bind_some]
      dsimp +instances only
      rw [has_n, Option.bind_some]
      dsimp +instances only
      rw [if_pos rfl, show pl S 1 (f :: E) = pl S 1 E from List.filter_cons_of_neg (fun u => c (of_decide_eq_true u)), nI_1]
      exact ih2 a
theorem m_bsf (hm : Hp) (t l : Int32) {M : List Nat} (hA : AL S 2676 M) (h14 : S 14 = nI M.length) (hl : M.length ≤ 200) (hfM : ∀ f ∈ M, f < 200) : ∀ (F Q : List Nat) (a : Int32) (k : Nat), M = Q ++ F → F.length < k → lp (b_X10_bytesSent_4 110) k (mt hm S t l, a, nI Q.length) = some (F.foldl (fB S) a, mt hm S t l) := by
  intro F
  induction F with
  | nil =>
    intro Q a k e hk
    obtain ⟨k', rfl⟩ : ∃ m', k = m' + 1 := ⟨k - 1, by omega⟩
    have hl2 : M.length = Q.length := by rw [e, List.append_nil]
    rw [lp_s]
    unfold b_X10_bytesSent_4
    dsimp +instances only
    rw [if_pos (by rw [mt_r _ _ _ _ (by omega) (by omega), h14]; exact nI_le (by omega) (by omega))]
    rfl
  | cons f F ih =>
    intro Q a k e hk
    obtain ⟨k', rfl⟩ : ∃ m', k = m' + 1 := ⟨k - 1, by omega⟩
    have hl2 : M.length = Q.length + (F.length + 1) := by rw [e, List.length_append, List.length_cons]
    rw [List.length_cons] at hk
    have ef : M[Q.length]? = some f := by
      rw [e, List.getElem?_append_right (Nat.le_refl _), Nat.sub_self]
      rfl
    have ev : S (2676 + Q.length) = nI f := hA Q.length f ef
    have hf := hfM f (List.mem_of_getElem? ef)
    have e' : M = Q ++ [f] ++ F := by rw [e, List.append_assoc]; rfl
    have il : (Q ++ [f]).length = Q.length + 1 := by rw [List.length_append]; rfl
    have ih2 := ih (Q ++ [f]) (fB S a f) k' e' (by omega)
    rw [il] at ih2
    have j1 : (2676 : Int32) + nI Q.length = nI (2676 + Q.length) := nI_add 2676 Q.length
    rw [lp_s, List.foldl_cons, ← ih2]
    generalize lp (b_X10_bytesSent_4 110) k' = K
    unfold b_X10_bytesSent_4
    dsimp +instances only
    rw [if_neg (by rw [mt_r _ _ _ _ (by omega) (by omega), h14]; exact nI_ge (by omega) (by omega)), j1]
    simp only [if_pos (show ib (nI (2676 + Q.length)) 3715 from ib_n (by omega) (by omega)), nI_clamp (show 2676 + Q.length < 2 ^ 31 by omega)]
    rw [mt_r _ _ _ _ (by omega) (by omega), ev, m_frameOf_1 hm S t l (b := f) hf, Option.bind_some]
    dsimp +instances only
    rw [nv_eq, nI_1]
    rfl
theorem m_wsf (hm : Hp) (t l x2 : Int32) {M : List Nat} (hA : AL S 2676 M) (h14 : S 14 = nI M.length) (hl : M.length ≤ 200) (hfM : ∀ f ∈ M, f < 200) : ∀ (F Q : List Nat) (a a2 : Int32) (k : Nat), M = Q ++ F → F.length < k → lp (b_X10_waits_9 110 x2) k (mt hm S t l, a, a2, nI Q.length) = some (if x2 = 0 then F.foldl (fG S) a else F.foldl (fW S) a2, mt hm S t l) := by
  intro F
  induction F with
  | nil =>
    intro Q a a2 k e hk
    obtain ⟨k', rfl⟩ : ∃ m', k = m' + 1 := ⟨k - 1, by omega⟩
    have hl2 : M.length = Q.length := by rw [e, List.append_nil]
    rw [lp_s]
    unfold b_X10_waits_9
    dsimp +instances only
    rw [if_pos (by rw [mt_r _ _ _ _ (by omega) (by omega), h14]; exact nI_le (by omega) (by omega))]
    by_cases c : x2 = 0
    · rw [if_pos c, if_pos c]
      rfl
    · rw [if_neg c, if_neg c]
      rfl
  | cons f F ih =>
    intro Q a a2 k e hk
    obtain ⟨k', rfl⟩ : ∃ m', k = m' + 1 := ⟨k - 1, by omega⟩
    have hl2 : M.length = Q.length + (F.length + 1) := by rw [e, List.length_append, List.length_cons]
    rw [List.length_cons] at hk
    have ef : M[Q.length]? = some f := by
      rw [e, List.getElem?_append_right (Nat.le_refl _), Nat.sub_self]
      rfl
    have ev : S (2676 + Q.length) = nI f := hA Q.length f ef
    have hf := hfM f (List.mem_of_getElem? ef)
    have e' : M = Q ++ [f] ++ F := by rw [e, List.append_assoc]; rfl
    have il : (Q ++ [f]).length = Q.length + 1 := by rw [List.length_append]; rfl
    have ih2 := ih (Q ++ [f]) (fG S a f) (fW S a2 f) k' e' (by omega)
    rw [il] at ih2
    have j1 : (2676 : Int32) + nI Q.length = nI (2676 + Q.length) := nI_add 2676 Q.length
    rw [lp_s, List.foldl_cons, List.foldl_cons, ← ih2]
    generalize lp (b_X10_waits_9 110 x2) k' = K
    unfold b_X10_waits_9
    dsimp +instances only
    rw [if_neg (by rw [mt_r _ _ _ _ (by omega) (by omega), h14]; exact nI_ge (by omega) (by omega)), j1]
    simp only [if_pos (show ib (nI (2676 + Q.length)) 3715 from ib_n (by omega) (by omega)), nI_clamp (show 2676 + Q.length < 2 ^ 31 by omega)]
    rw [nv_eq, mt_r _ _ _ _ (by omega) (by omega), ev, m_frameOf_7 hm S t l (b := f) hf, Option.bind_some]
    dsimp +instances only
    rw [m_frameOf_3 hm S t l (b := f) hf, Option.bind_some]
    dsimp +instances only
    rw [nv_eq, nv_eq, nv_eq, nI_1, show S (276 + 12 * f + 7) - S (276 + 12 * f + 3) = wt S f from rfl]
    unfold fG fW
    by_cases c : wt S f ≤ a
    · rw [if_pos c, if_pos c]
    · rw [if_neg c, if_neg c]
/-- both read what the trial sent -/
theorem from_eq {S0 : Nat → Int32} {L0 : List Nat} {T0 : Int32} (R : Rel bg rl (tbT S0 L0 T0) m y sn Bd n N 200 nw ol L h w S) (h0 : L0.length ≤ 200) : ∃ M : List Nat, p_X1_bytesSentFrom h (w + 2) (nI L0.length) = some (M.foldl (fB S) 0, h) ∧ p_X1_waitsFrom h (w + 2) (nI L0.length) = some (M.foldl (fW S) 0, h) ∧ p_X1_greatestWaitFrom h (w + 2) (nI L0.length) = some (M.foldl (fG S) (-2), h) ∧ (∀ hm t l, p_X10_bytesSent (mt hm S t l) 110 (nI (pl S0 1 L0).length) = some (M.foldl (fB S) 0, mt hm S t l)) ∧ (∀ hm t l x2, p_X10_waits (mt hm S t l) 110 (nI (pl S0 1 L0).length) x2 = some (if x2 = 0 then M.foldl (fG S) (-2) else M.foldl (fW S) 0, mt hm S t l)) ∧ M.length ≤ 200 ∧ ∀ f ∈ M, f < n := by
  have hnn := R.n200
  have hL : L.length ≤ n := nd_len n L R.el.2.2.2.2.1 (fun x hx => ((R.el.2.2.2.2.2.1 x).mp hx).1)
  obtain ⟨P, E, e1, e2, e3, e4⟩ := R.px
  have l0 := List.length_filter_le (fun f => decide (S0 (276 + 12 * f + 6) = nI 1)) L0
  have lP := List.length_filter_le (fun f => decide (S (276 + 12 * f + 6) = nI 1)) P
  have hP : P.length = L0.length := nI_inj (by omega) (by omega) (e3.symm.trans rfl)
  have hQ : (pl S 1 P).length = (pl S0 1 L0).length := nI_inj (by unfold pl; omega) (by unfold pl; omega) (e4.symm.trans rfl)
  have hs : pl S 1 L = pl S 1 P ++ pl S 1 E := by
    rw [e1]
    exact List.filter_append P E
  have eL : E.length ≤ 200 := by
    have := hL
    rw [e1, List.length_append] at this
    omega
  have eL2 : (pl S 1 E).length ≤ 200 := Nat.le_trans (List.length_filter_le _ _) eL
  have n0 : ¬ nI L0.length < 0 := nI_pos (by omega)
  have hm200 : ∀ f ∈ pl S 1 L, f < 200 := fun f hf => by
    have := ((sent_mem R f).mp hf).1
    omega
  have hl200 : (pl S 1 L).length ≤ 200 := Nat.le_trans (sent_len R) hnn
  refine ⟨pl S 1 E, ?_, ?_, ?_, fun hm t l => ?_, fun hm t l x2 => ?_, eL2, fun f hf => R.hL2 f (by rw [e1]; exact List.mem_append_right _ ((List.mem_filter.mp hf).1))⟩
  · unfold p_X1_bytesSentFrom
    rw [nv_eq, if_neg n0, ← hP]
    exact c_bsf R E P 0 FU e1 (FU_gt (by omega))
  · unfold p_X1_waitsFrom
    rw [nv_eq, if_neg n0, ← hP]
    exact c_wsf R E P 0 FU e1 (FU_gt (by omega))
  · unfold p_X1_greatestWaitFrom
    rw [nv_eq, if_neg n0, ← hP]
    exact c_gsf R E P (-2) FU e1 (FU_gt (by omega))
  · unfold p_X10_bytesSent
    rw [← hQ]
    exact m_bsf hm t l R.ep.2.1 R.ep.1 hl200 hm200 (pl S 1 E) (pl S 1 P) 0 FU hs (FU_gt (by omega))
  · unfold p_X10_waits
    rw [← hQ]
    exact m_wsf hm t l x2 R.ep.2.1 R.ep.1 hl200 hm200 (pl S 1 E) (pl S 1 P) (-2) 0 FU hs (FU_gt (by omega))
theorem tally_eq {S0 : Nat → Int32} {L0 : List Nat} {T0 : Int32} (R : Rel bg rl (tbT S0 L0 T0) m y sn Bd n N 200 nw ol L h w S) : S 14 - S0 14 = h (w + 2 + 13) 1 ∧ S 15 - S0 15 = h (w + 2 + 13) 2 ∧ S 16 - S0 16 = h (w + 2 + 13) 4 ∧ S 17 - S0 17 = h (w + 2 + 13) 3 := by
  obtain ⟨a1, a2, a3, a4⟩ := R.ta
  rw [a1, a2, a3, a4]
  exact ⟨Int32.add_sub_cancel _ _, Int32.add_sub_cancel _ _, Int32.add_sub_cancel _ _, Int32.add_sub_cancel _ _⟩
end Fo

