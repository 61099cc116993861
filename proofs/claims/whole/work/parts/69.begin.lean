/-! a trial begins -/
theorem cb_lp {t r : Nat} (htr : r + 44 ≤ t) (d : Nat) : ∀ {g : Hp} {k : Nat}, k + d = 16 → (∀ b, b < 16 → rg (g (r + 16 + 1 + b) 12) 0 1) → ∃ g', (∀ m, d < m → lp (b_X8_copyFrom_28 t r) m (g, nI k) = Option.bind (p_X2_copyFrom g' (t + 33) (r + 33)) fun r9 => lp (b_X8_copyFrom_68 t r) FU (r9, 0)) ∧ (∀ b j, k ≤ b → b < 16 → j < 14 → g' (t + 16 + 1 + b) j = g (r + 16 + 1 + b) j) ∧ ∀ o', o' < t + 17 + k ∨ t + 33 ≤ o' → g' o' = g o' := by
  induction d with
  | zero =>
    intro g k hd hb
    refine ⟨g, fun m hm => ?_, fun b j h1 h2 h3 => by omega, fun _ _ => rfl⟩
    obtain ⟨m', rfl⟩ : ∃ m', m = m' + 1 := ⟨m - 1, by omega⟩
    rw [lp_s]
    generalize lp (b_X8_copyFrom_28 t r) m' = K
    unfold b_X8_copyFrom_28
    dsimp only
    rw [if_pos (show (16 : Int32) ≤ nI k from nI_le (a := 16) (by omega) (by omega))]
  | succ d ih =>
    intro g k hd hb
    have cib : ib (nI k) 16 := ib_n (by omega) (by omega)
    obtain ⟨g1, c1, c2, c3⟩ := cpB g (p := t + 16 + 1 + k) (q := r + 16 + 1 + k) (by omega) (hb k (by omega))
    obtain ⟨g', i1, i2, i3⟩ := ih (g := g1) (k := k + 1) (by omega) (fun b h1 => by rw [c3 _ (by omega)]; exact hb b h1)
    refine ⟨g', fun m hm => ?_, fun b j h1 h2 h3 => ?_, fun o' ho => ?_⟩
    · obtain ⟨m', rfl⟩ : ∃ m', m = m' + 1 := ⟨m - 1, by omega⟩
      have ih2 := i1 m' (by omega)
      rw [lp_s]
      generalize lp (b_X8_copyFrom_28 t r) m' = K at ih2 ⊢
      unfold b_X8_copyFrom_28
      dsimp only
      rw [if_neg (show ¬ (16 : Int32) ≤ nI k from nI_ge (b := 16) (by omega) (by omega)), if_pos cib, if_pos cib, nI_clamp (by omega), c1, Option.bind_some, nI_1]
      exact ih2
    · by_cases e : b = k
      · subst e
        rw [i3 _ (by omega), c2 j h3]
      · rw [i2 b j (by omega) h2 h3, c3 _ (by omega)]
    · rw [i3 o' (by omega), c3 o' (by omega)]
theorem cs_lp {t r : Nat} (htr : r + 44 ≤ t) (d : Nat) : ∀ {g : Hp} {k : Nat}, k + d = 4 → ∃ g', (∀ m, d < m → lp (b_X8_copyFrom_68 t r) m (g, nI k) = some g') ∧ (∀ b j, k ≤ b → b < 4 → j < 10 → g' (t + 35 + 1 + b) j = g (r + 35 + 1 + b) j) ∧ (∀ j, 6 ≤ j → j ≤ 10 → g' t j = g r j) ∧ ∀ o', o' ≠ t → (o' < t + 36 + k ∨ t + 40 ≤ o') → g' o' = g o' := by
  induction d with
  | zero =>
    intro g k hd
    refine ⟨hp (hp (hp (hp (hp g t 6 (g r 6)) t 7 (g r 7)) t 8 (g r 8)) t 9 (g r 9)) t 10 (g r 10), fun m hm => ?_, fun b j h1 h2 h3 => by omega, fun j h1 h2 => ?_, fun o' h1 h2 => ?_⟩
    · obtain ⟨m', rfl⟩ : ∃ m', m = m' + 1 := ⟨m - 1, by omega⟩
      have hq : r ≠ t := by omega
      rw [lp_s]
      generalize lp (b_X8_copyFrom_68 t r) m' = K
      unfold b_X8_copyFrom_68
      dsimp only
      rw [if_pos (show (4 : Int32) ≤ nI k from nI_le (a := 4) (by omega) (by omega))]
      simp only [nv_eq, hp_o' _ _ hq]
    · have h5 : j = 6 ∨ j = 7 ∨ j = 8 ∨ j = 9 ∨ j = 10 := by omega
      rcases h5 with rfl | rfl | rfl | rfl | rfl <;> simp (disch := omega) only [hp_s, hp_k]
    · rw [hp_n h1, hp_n h1, hp_n h1, hp_n h1, hp_n h1]
  | succ d ih =>
    intro g k hd
    have cib : ib (nI k) 4 := ib_n (by omega) (by omega)
    obtain ⟨g1, c1, c2, c3⟩ := cpS g (p := t + 35 + 1 + k) (q := r + 35 + 1 + k) (by omega)
    obtain ⟨g', i1, i2, i4, i3⟩ := ih (g := g1) (k := k + 1) (by omega)
    refine ⟨g', fun m hm => ?_, fun b j h1 h2 h3 => ?_, fun j h1 h2 => ?_, fun o' h1 h2 => ?_⟩
    · obtain ⟨m', rfl⟩ : ∃ m', m = m' + 1 := ⟨m - 1, by omega⟩
      have ih2 := i1 m' (by omega)
      rw [lp_s]
      generalize lp (b_X8_copyFrom_68 t r) m' = K at ih2 ⊢
      unfold b_X8_copyFrom_68
      dsimp only
      rw [if_neg (show ¬ (4 : Int32) ≤ nI k from nI_ge (b := 4) (by omega) (by omega)), if_pos cib, if_pos cib, nI_clamp (by omega), c1, Option.bind_some, nI_1]
      exact ih2
    · by_cases e : b = k
      · subst e
        rw [i3 _ (by omega) (by omega), c2 j h3]
      · rw [i2 b j (by omega) h2 h3, c3 _ (by omega)]
    · rw [i4 j h1 h2, c3 _ (by omega)]
    · rw [i3 o' h1 (by omega), c3 o' (by omega)]
theorem bt_lp {T : Nat} (d : Nat) : ∀ {g : Hp} {k : Nat}, k + d = 5 → ∃ g', (∀ m, d < m → lp (b_X6_begin_27 T) m (g, nI k) = some g') ∧ (∀ j, k ≤ j → j < 5 → g' (T + 1 + 2 + 13) j = 0) ∧ (∀ j, j < k → g' (T + 1 + 2 + 13) j = g (T + 1 + 2 + 13) j) ∧ g' T 1 = g (T + 1 + 2) 14 ∧ ∀ o', o' ≠ T → o' ≠ T + 1 + 2 + 13 → g' o' = g o' := by
  induction d with
  | zero =>
    intro g k hd
    refine ⟨hp g T 1 (g (T + 1 + 2) 14), fun m hm => ?_, fun j h1 h2 => by omega, fun j h1 => hp_o' _ _ (by omega), hp_s _ _ _ _, fun o' h1 h2 => hp_n h1⟩
    obtain ⟨m', rfl⟩ : ∃ m', m = m' + 1 := ⟨m - 1, by omega⟩
    rw [lp_s]
    generalize lp (b_X6_begin_27 T) m' = K
    unfold b_X6_begin_27
    dsimp only
    rw [if_pos (show (5 : Int32) ≤ nI k from nI_le (a := 5) (by omega) (by omega)), nv_eq]
  | succ d ih =>
    intro g k hd
    have cib : ib (nI k) 5 := ib_n (by omega) (by omega)
    obtain ⟨g', i1, i2, i3, i4, i5⟩ := ih (g := hp g (T + 1 + 2 + 13) k 0) (k := k + 1) (by omega)
    refine ⟨g', fun m hm => ?_, fun j h1 h2 => ?_, fun j h1 => ?_, ?_, fun o' h1 h2 => ?_⟩
    · obtain ⟨m', rfl⟩ : ∃ m', m = m' + 1 := ⟨m - 1, by omega⟩
      have ih2 := i1 m' (by omega)
      rw [lp_s]
      generalize lp (b_X6_begin_27 T) m' = K at ih2 ⊢
      unfold b_X6_begin_27
      dsimp only
      rw [if_neg (show ¬ (5 : Int32) ≤ nI k from nI_ge (b := 5) (by omega) (by omega)), if_pos cib, nI_clamp (by omega), nv_eq, nI_1]
      exact ih2
    · by_cases e : j = k
      · subst e
        rw [i3 j (by omega), hp_s]
      · exact i2 j (by omega) h2
    · rw [i3 j (by omega), hp_k _ _ (by omega)]
    · rw [i4, hp_o' _ _ (by omega)]
    · rw [i5 o' h1 h2, hp_n h2]
def tbT (S : Nat → Int32) (L : List Nat) (T : Int32) : Nat → Int32 := fun k => if k < 4 then S (14 + k) else if k = 9 then nI L.length else if k = 10 then nI (pl S 1 L).length else if k = 11 then T else 0
section Bg
variable {bg rl : Bool} {tb : Nat → Int32} {m y sn Bd n N tk : Nat} {nw ol L : List Nat} {h : Hp} {r : Nat} {S : Nat → Int32}
theorem begin_sim (R : Rel bg rl tb m y sn Bd n N 200 nw ol L h r S) {T : Nat} (htr : r + 44 ≤ T) (tb0 : ∀ k, k < 4 → tb (4 + k) = 0) (t11 : tb 11 = 0) (hw0 : h (T + 1 + 40) 3 = 0) : ∃ hB, p_X6_begin h T r = some hB ∧ Rel bg false (tbT S L 0) m y sn Bd n N 200 nw ol L hB (T + 1) S ∧ hB T 1 = nI L.length ∧ hB (T + 1) 12 = 99999999 ∧ hB (T + 1) 10 = 0 ∧ (∀ j, j < 8 → hB (T + 1 + 1) j = h (r + 1) j) ∧ ∀ o', o' < T ∨ T + 1 + 40 ≤ o' → hB o' = h o' := by
  have hnn := R.n200
  have hs4 := R.sn4
  have hll : L.length ≤ 200 := Nat.le_trans (nd_len n L R.el.2.2.2.2.1 R.hL2) hnn
  have c8 : Int32.toNatClampNeg 8 = 8 := by decide
  -- the copy
  obtain ⟨g1, hg1⟩ : ∃ g1 : Hp, g1 = va_up h (T + 1 + 1) (va_cpy (h (r + 1)) (h (T + 1 + 1)) 0 0 8) := ⟨_, rfl⟩
  have a1 : ∀ j, j < 8 → g1 (T + 1 + 1) j = h (r + 1) j := fun j hj => by rw [hg1, vu_s, cpy_i _ _ hj]
  have a2 : ∀ o', o' ≠ T + 1 + 1 → g1 o' = h o' := fun o' ho => by rw [hg1, vu_o _ _ ho]
  obtain ⟨g2, b0, b13, b14, b3, b4, b5, bF⟩ := cpF g1 (p := T + 1 + 2) (q := r + 2) (n := n) (e := L.length) (by omega) (by rw [a2 _ (by omega), R.many, R.i1]) (by rw [a2 _ (by omega), R.el.1]) hnn hll
  obtain ⟨g3, d1, d2, d3⟩ := cb_lp (t := T + 1) (r := r) (by omega) 16 (g := g2) (k := 0) (by omega) (fun b hb => by rw [bF _ (by omega), a2 _ (by omega), R.b12 hb]; exact (R.br b hb).2.2.2.2.1)
  obtain ⟨g4, e1, e2, e3, e4, e5⟩ := cpL g3 (p := T + 1 + 33) (q := r + 33) (by omega)
  obtain ⟨g5, f1, f2, f3, f4⟩ := cs_lp (t := T + 1) (r := r) (by omega) 4 (g := g4) (k := 0) (by omega)
  obtain ⟨g6, k1, k2, k3, k4, k5⟩ := bt_lp (T := T) 5 (g := hp (hp g5 (T + 1) 10 0) (T + 1) 12 99999999) (k := 0) (by omega)
  have hcopy : p_X8_copyFrom h (T + 1) r = some g5 := by
    have h5 := d1 FU (FU_gt (by omega))
    have h6 := f1 FU (FU_gt (by omega))
    rw [nI_0] at h5 h6
    unfold p_X8_copyFrom
    rw [c8, ← hg1, nv_eq, b0, Option.bind_some, h5, e1, Option.bind_some]
    exact h6
  have hbeg : p_X6_begin h T r = some g6 := by
    have h7 := k1 FU (FU_gt (by omega))
    rw [nI_0] at h7
    unfold p_X6_begin
    rw [hcopy, Option.bind_some, nv_eq, nv_eq]
    exact h7
  -- what is read there
  have x5 : ∀ o', o' ≠ T → o' ≠ T + 1 → o' ≠ T + 1 + 2 + 13 → g6 o' = g5 o' := fun o' n1 n2 n3 => by rw [k5 o' n1 n3, hp_n n2, hp_n n2]
  have y1 : ∀ j, j < 8 → g6 (T + 1 + 1) j = h (r + 1) j := fun j hj => by rw [x5 _ (by omega) (by omega) (by omega), f4 _ (by omega) (by omega), e5 _ (by omega) (by omega), d3 _ (by omega), bF _ (by omega), a1 j hj]
  have y13 : g6 (T + 1 + 2) 13 = nI n := by rw [x5 _ (by omega) (by omega) (by omega), f4 _ (by omega) (by omega), e5 _ (by omega) (by omega), d3 _ (by omega), b13]
  have y14 : g6 (T + 1 + 2) 14 = nI L.length := by rw [x5 _ (by omega) (by omega) (by omega), f4 _ (by omega) (by omega), e5 _ (by omega) (by omega), d3 _ (by omega), b14]
  have y3 : ∀ a j, 1 ≤ a → a ≤ 11 → j < n → g6 (T + 1 + 2 + a) j = h (r + 2 + a) j := fun a j h1 h2 hj => by rw [x5 _ (by omega) (by omega) (by omega), f4 _ (by omega) (by omega), e5 _ (by omega) (by omega), d3 _ (by omega), b3 a j h1 h2 hj, a2 _ (by omega)]
  have y4 : ∀ j, j < L.length → g6 (T + 1 + 2 + 12) j = h (r + 2 + 12) j := fun j hj => by rw [x5 _ (by omega) (by omega) (by omega), f4 _ (by omega) (by omega), e5 _ (by omega) (by omega), d3 _ (by omega), b4 j hj, a2 _ (by omega)]
  have y5 : ∀ j, j < 5 → g6 (T + 1 + 2 + 13) j = 0 := fun j hj => k2 j (by omega) hj
  have y6 : ∀ b j, b < 16 → j < 14 → g6 (T + 1 + 16 + 1 + b) j = h (r + 16 + 1 + b) j := fun b j hb hj => by rw [x5 _ (by omega) (by omega) (by omega), f4 _ (by omega) (by omega), e5 _ (by omega) (by omega), d2 b j (by omega) hb hj, bF _ (by omega), a2 _ (by omega)]
  have y7 : g6 (T + 1 + 33) 1 = h (r + 33) 1 := by rw [x5 _ (by omega) (by omega) (by omega), f4 _ (by omega) (by omega), e2, d3 _ (by omega), bF _ (by omega), a2 _ (by omega)]
  have y7' : g6 (T + 1 + 33) 2 = h (r + 33) 2 := by rw [x5 _ (by omega) (by omega) (by omega), f4 _ (by omega) (by omega), e3, d3 _ (by omega), bF _ (by omega), a2 _ (by omega)]
  have y8 : ∀ j, j < 16 → g6 (T + 1 + 33 + 1) j = h (r + 33 + 1) j := fun j hj => by rw [x5 _ (by omega) (by omega) (by omega), f4 _ (by omega) (by omega), e4 j hj, d3 _ (by omega), bF _ (by omega), a2 _ (by omega)]
  have y9 : ∀ k j, k < 4 → j < 10 → g6 (T + 1 + 35 + 1 + k) j = h (r + 35 + 1 + k) j := fun k j hk hj => by rw [x5 _ (by omega) (by omega) (by omega), f2 k j (by omega) hk hj, e5 _ (by omega) (by omega), d3 _ (by omega), bF _ (by omega), a2 _ (by omega)]
  have y10 : ∀ j, 6 ≤ j → j ≤ 9 → g6 (T + 1) j = h r j := fun j h1 h2 => by rw [k5 _ (by omega) (by omega), hp_k _ _ (by omega), hp_k _ _ (by omega), f3 j h1 (by omega), e5 _ (by omega) (by omega), d3 _ (by omega), bF _ (by omega), a2 _ (by omega)]
  have y0 : g6 (T + 1) 10 = 0 := by rw [k5 _ (by omega) (by omega), hp_k _ _ (by omega), hp_s]
  have y12 : g6 (T + 1) 12 = 99999999 := by rw [k5 _ (by omega) (by omega), hp_s]
  have yT : g6 T 1 = nI L.length := by rw [k4, hp_o' _ _ (by omega), hp_o' _ _ (by omega), f4 _ (by omega) (by omega), e5 _ (by omega) (by omega), d3 _ (by omega), b14]
  have yo : ∀ o', o' < T ∨ T + 1 + 40 ≤ o' → g6 o' = h o' := fun o' ho => by rw [x5 _ (by omega) (by omega) (by omega), f4 _ (by omega) (by omega), e5 _ (by omega) (by omega), d3 _ (by omega), bF _ (by omega), a2 _ (by omega)]
  refine ⟨g6, hbeg, ⟨?_, ?_, ?_, ?_, R.is, R.br, R.fi, R.si, R.li, ?_, ?_, ?_, ?_, R.ep, ?_, ?_, ?_, ?_, ?_, ?_, ?_⟩, yT, y12, y0, y1, yo⟩
  · exact R.sc.cong (fun j h1 h2 => y10 j h1 (by omega)) (by rw [y13, R.many, R.i1]) (fun j h1 h2 h3 => y1 j (by omega)) (fun _ _ _ _ _ => rfl)
  · exact R.bk.cong (fun b j hb hj => y6 b j hb (by omega)) (fun _ _ _ _ => rfl)
  · exact R.fr.cong (fun a f h1 h2 hf => y3 a f h1 (by omega) hf) (fun _ _ _ _ => rfl)
  · refine ⟨fun k hk c hc h5 => ?_, fun k hk => ?_⟩
    · rw [y9 k c (by omega) (by omega), R.ksn.1 k hk c hc h5]
    · rw [y9 k 5 (by omega) (by omega), R.ksn.2 k hk, tb0 k (by omega)]
      show _ = _ + (if 4 + k < 4 then S (14 + (4 + k)) else if 4 + k = 9 then nI L.length else if 4 + k = 10 then nI (pl S 1 L).length else if 4 + k = 11 then 0 else 0)
      rw [if_neg (by omega), if_neg (by omega), if_neg (by omega), if_neg (by omega)]
  · obtain ⟨l1, l2, l3⟩ := R.lc
    have hlen := R.li.len R.my
    exact ⟨by rw [y7, l1], by rw [y7', l2], l3.cong fun i hi => y8 _ (by rw [List.length_append] at hi; omega)⟩
  · exact R.cb.cong (fun b j hb hj => y6 b j hb (by omega)) (fun _ _ _ _ => rfl) (fun _ _ => rfl)
  · exact R.cf.cong (fun f hf => y3 11 f (by omega) (by omega) hf) (y10 9 (by omega) (by omega)) (fun _ _ _ _ => rfl) rfl (fun _ _ => rfl)
  · obtain ⟨l1, l2, l3, l4, l5, l6, l7, l8⟩ := R.el
    exact ⟨y14, l2.cong fun i hi => y4 _ (by omega), l3, l4, l5, l6, l7, l8⟩
  · exact R.eh.cong R.hL2 R.sn4 (fun k hk => y9 k 9 hk (by omega)) (fun _ _ _ _ => rfl)
  · obtain ⟨k, u1, u2, u3, u4⟩ := R.wi
    exact ⟨k, u1, u2, fun z => Bool.noConfusion z, fun _ => by rw [yo _ (by omega)]; exact hw0⟩
  · refine ⟨?_, ?_, ?_, ?_⟩ <;> rw [y5 _ (by omega), Int32.zero_add] <;> rfl
  · refine ⟨by rw [y0]; exact rg_0 200, fun z => ?_⟩
    rcases z with z | z
    · cases z
    · rw [show tbT S L 0 8 = 0 from rfl] at z
      exact absurd z (by decide)
  · exact R.kbg.cong (fun b hb => y6 b 13 hb (by omega)) (fun _ _ _ _ => rfl) (fun _ _ => rfl)
  · exact ⟨L, [], (List.append_nil L).symm, hll, rfl, rfl⟩
  · refine ⟨?_, ?_⟩
    · rw [y1 0 (by omega), show tbT S L 0 11 = 0 from rfl, ← t11]
      exact R.lt.1
    · rw [y12, show tbT S L 0 11 = 0 from rfl]
      decide
end Bg

