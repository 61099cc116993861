/-! a frame comes -/
def Lk (C l M : Int32) : Prop := l = C ∨ (M ≤ l ∧ M ≤ C)
theorem Lk.mono {C l M M' : Int32} (h : Lk C l M') (h2 : M ≤ M') : Lk C l M := h.elim Or.inl (fun z => Or.inr ⟨Int32.le_trans h2 z.1, Int32.le_trans h2 z.2⟩)
def adH (h : Hp) (w n : Nat) (key x may now ow b sh : Int32) : Hp := hp (hp (hp (hp (hp (hp (hp (hp (hp (hp (hp (hp h (w + 2) 13 (nI (n + 1))) (w + 2 + 1) n key) (w + 2 + 2) n x) (w + 2 + 3) n may) (w + 2 + 4) n now) (w + 2 + 5) n b) (w + 2 + 6) n ow) (w + 2 + 7) n sh) (w + 2 + 8) n 0) (w + 2 + 9) n 0) (w + 2 + 10) n (-2)) (w + 2 + 11) n (-2)
def lkH (X : Hp) (w p n : Nat) (x : Int32) : Hp := hp (hp (hp (hp (hp X p 2 (nI n)) p 3 (X p 3 + 1)) p 4 (X p 4 + x)) w 8 (X w 8 + 1)) w 9 (X w 9 + x)
theorem lk_eq (X : Hp) {w b n : Nat} {x : Int32} (hn : n < 200) (hx : X (w + 2 + 2) n = x) : q_X8_link_47 X w (w + 16 + 1 + b) (nI n) = some (lkH X w (w + 16 + 1 + b) n x) := by
  have c1 : ib (nI n) 200 := ib_n hn (by omega)
  have e1 : (nI n).toNatClampNeg = n := nI_clamp (by omega)
  unfold q_X8_link_47 lkH
  simp (disch := omega) only [nv_eq, if_pos c1, e1, hp_s, hp_o', hp_k, hx]
section Ar
variable {bg rl : Bool} {tb : Nat → Int32} {m y sn Bd n N tk : Nat} {nw ol L : List Nat} {h : Hp} {w : Nat} {S : Nat → Int32}
theorem add_c (R : Rel bg rl tb m y sn Bd n N tk nw ol L h w S) (hn1 : n < 200) (key x may now ow b tag : Int32) : p_X1_add h (w + 2) key x may now ow b tag = some (nI n, adH h w n key x may now ow b (if tag = key then 0 else 1)) := by
  have r1 : h (w + 2) 13 = nI n := by rw [R.many, R.i1]
  have c0 : nI n < (200 : Int32) := nI_lt (b := 200) hn1 (by omega)
  have c1 : ib (nI n) 200 := ib_n hn1 (by omega)
  have e1 : (nI n).toNatClampNeg = n := nI_clamp (by omega)
  unfold p_X1_add adH
  by_cases ht : tag = key
  · simp only [nv_eq, r1, if_pos c0, if_pos c1, e1, nI_1, if_pos ht, q_X1_add_95]
  · simp only [nv_eq, r1, if_pos c0, if_pos c1, e1, nI_1, if_neg ht, q_X1_add_95]
theorem adh_R (R : Rel bg rl tb m y sn Bd n N 200 nw ol L h w S) {b key x may : Nat} {sh ow : Int32} (hn1 : n < 200) (hb : b < 16) (hbm : b < m * y) (hk : key ≤ 9999) (hx1 : 1 ≤ x) (hx2 : x ≤ 1500) (hmay : may ≤ 1) (how : ow = -2 ∨ rg ow 0 3) (hsh : rg sh 0 1) : ∃ h', p_X8_link (adH h w n (nI key) (nI x) (nI may) (h w 7) ow (nI b) sh) w (w + 16 + 1 + b) (nI n) = some h' ∧ Rel false rl tb m y sn Bd (n + 1) N 200 nw ol L h' w (sAdd S n b sh ow (nI key) (nI x) (nI may)) ∧ Fr w h h' ∧ h' w 10 = h w 10 ∧ h' w 12 = h w 12 ∧ (∀ b', b' < 16 → h' (w + 16 + 1 + b') 13 = h (w + 16 + 1 + b') 13) := by
  have hnn := R.n200
  have a1 : adH h w n (nI key) (nI x) (nI may) (h w 7) ow (nI b) sh (w + 2) 13 = nI (n + 1) := by
    unfold adH
    simp (disch := omega) only [hp_s, hp_o', hp_k]
  have a2 : adH h w n (nI key) (nI x) (nI may) (h w 7) ow (nI b) sh (w + 2 + 2) n = nI x := by
    unfold adH
    simp (disch := omega) only [hp_s, hp_o', hp_k]
  have a3 : ∀ j, adH h w n (nI key) (nI x) (nI may) (h w 7) ow (nI b) sh (w + 16 + 1 + b) j = h (w + 16 + 1 + b) j := fun j => by
    unfold adH
    simp (disch := omega) only [hp_s, hp_o', hp_k]
  have c0 : ¬ nI n < 0 := nI_pos (by omega)
  have c1 : ¬ nI (n + 1) ≤ nI n := nI_ge (by omega) (by omega)
  have c2 : ¬ (200 : Int32) ≤ nI n := nI_ge (b := 200) (by omega) (by omega)
  have hh1 : p_X1_has (adH h w n (nI key) (nI x) (nI may) (h w 7) ow (nI b) sh) (w + 2) (nI n) = some (1, adH h w n (nI key) (nI x) (nI may) (h w 7) ow (nI b) sh) := by
    unfold p_X1_has
    rw [if_neg c0, a1, if_neg c1, if_neg c2]
  rcases (R.cb b hb).2.1 with ⟨z, k1, k2, k3, k4⟩ | ⟨k1, k2⟩
  · have z0 : ¬ nI z < 0 := nI_pos (by omega)
    have hzne : ¬ h (w + 16 + 1 + b) 2 = -2 := by
      rw [k4]
      intro u
      rw [u] at z0
      exact z0 (by decide)
    have z1 : ¬ nI (n + 1) ≤ nI z := nI_ge (by omega) (by omega)
    have z2 : ¬ (200 : Int32) ≤ nI z := nI_ge (b := 200) (by omega) (by omega)
    have z3 : ib (nI z) 200 := ib_n (by omega) (by omega)
    have z4 : (nI z).toNatClampNeg = z := nI_clamp (by omega)
    have hh2 : p_X1_has (adH h w n (nI key) (nI x) (nI may) (h w 7) ow (nI b) sh) (w + 2) (nI z) = some (1, adH h w n (nI key) (nI x) (nI may) (h w 7) ow (nI b) sh) := by
      unfold p_X1_has
      rw [if_neg z0, a1, if_neg z1, if_neg z2]
    refine ⟨lkH (hp (adH h w n (nI key) (nI x) (nI may) (h w 7) ow (nI b) sh) (w + 2 + 11) z (nI n)) w (w + 16 + 1 + b) n (nI x), ?_, R.add hn1 hb hbm hk hx1 hx2 hmay how hsh ?_ ?_ ?_ ?_ ?_ ?_ ?_ ?_ ?_ ?_ ?_ ?_ ?_ ?_ ?_ ?_ ?_ ?_ ?_ ?_ ?_ ?_ ?_ ?_ ?_ ?_, ?_, ?_, ?_, ?_⟩
    · unfold p_X8_link
      rw [hh1, Option.bind_some]
      dsimp only
      rw [if_neg one_nz, a3, k4, hh2, Option.bind_some]
      dsimp only
      rw [if_neg one_nz, if_pos (by rw [a3, k4]; exact z3), a3, k4, z4, nv_eq]
      exact lk_eq _ hn1 (by rw [hp_o' _ _ (by omega)]; exact a2)
    · intro o' j n1 n2 n3
      unfold lkH adH
      simp (disch := omega) only [hp_s, hp_o', hp_k]
    · intro j n1 n2
      unfold lkH adH
      simp (disch := omega) only [hp_s, hp_o', hp_k]
    · intro j n1
      unfold lkH adH
      simp (disch := omega) only [hp_s, hp_o', hp_k]
    · unfold lkH adH
      simp (disch := omega) only [hp_s, hp_o', hp_k]
    · intro a j n1 n2 n3
      unfold lkH adH
      simp (disch := omega) only [hp_s, hp_o', hp_k]
    · unfold lkH adH
      simp (disch := omega) only [hp_s, hp_o', hp_k]
    · unfold lkH adH
      simp (disch := omega) only [hp_s, hp_o', hp_k]
    · unfold lkH adH
      simp (disch := omega) only [hp_s, hp_o', hp_k]
    · unfold lkH adH
      simp (disch := omega) only [hp_s, hp_o', hp_k]
    · unfold lkH adH
      simp (disch := omega) only [hp_s, hp_o', hp_k]
    · unfold lkH adH
      simp (disch := omega) only [hp_s, hp_o', hp_k]
    · unfold lkH adH
      simp (disch := omega) only [hp_s, hp_o', hp_k]
    · unfold lkH adH
      simp (disch := omega) only [hp_s, hp_o', hp_k]
    · unfold lkH adH
      simp (disch := omega) only [hp_s, hp_o', hp_k]
    · unfold lkH adH
      simp (disch := omega) only [hp_s, hp_o', hp_k]
    · intro j n1 n2
      have hjz : j ≠ z := fun u => n2 (by rw [k4, u])
      unfold lkH adH
      simp (disch := omega) only [hp_s, hp_o', hp_k]
    · unfold lkH adH
      simp (disch := omega) only [hp_s, hp_o', hp_k]
    · intro j n1 n2
      have hjz : j = z := nI_inj (by omega) (by omega) (n2.symm.trans k4)
      subst hjz
      unfold lkH adH
      simp (disch := omega) only [hp_s, hp_o', hp_k]
    · intro j n1 n2 n3 n4
      unfold lkH adH
      simp (disch := omega) only [hp_s, hp_o', hp_k]
    · intro u
      exact absurd u hzne
    · intro _
      unfold lkH adH
      simp (disch := omega) only [hp_s, hp_o', hp_k]
    · unfold lkH adH
      simp (disch := omega) only [hp_s, hp_o', hp_k]
    · unfold lkH adH
      simp (disch := omega) only [hp_s, hp_o', hp_k]
    · unfold lkH adH
      simp (disch := omega) only [hp_s, hp_o', hp_k]
    · unfold lkH adH
      simp (disch := omega) only [hp_s, hp_o', hp_k]
    · unfold lkH adH
      simp (disch := omega) only [hp_s, hp_o', hp_k]
    · refine ⟨fun o' ho => funext fun j => ?_, fun j => ?_⟩
      · unfold lkH adH
        simp (disch := omega) only [hp_s, hp_o', hp_k]
      · unfold lkH adH
        simp (disch := omega) only [hp_s, hp_o', hp_k]
    · unfold lkH adH
      simp (disch := omega) only [hp_s, hp_o', hp_k]
    · unfold lkH adH
      simp (disch := omega) only [hp_s, hp_o', hp_k]
    · intro b' hb'
      unfold lkH adH
      simp (disch := omega) only [hp_s, hp_o', hp_k]
  · have k2' : p_X1_has (adH h w n (nI key) (nI x) (nI may) (h w 7) ow (nI b) sh) (w + 2) (-2) = some (0, adH h w n (nI key) (nI x) (nI may) (h w 7) ow (nI b) sh) := has_n _ _
    refine ⟨lkH (hp (adH h w n (nI key) (nI x) (nI may) (h w 7) ow (nI b) sh) (w + 16 + 1 + b) 1 (nI n)) w (w + 16 + 1 + b) n (nI x), ?_, R.add hn1 hb hbm hk hx1 hx2 hmay how hsh ?_ ?_ ?_ ?_ ?_ ?_ ?_ ?_ ?_ ?_ ?_ ?_ ?_ ?_ ?_ ?_ ?_ ?_ ?_ ?_ ?_ ?_ ?_ ?_ ?_ ?_, ?_, ?_, ?_, ?_⟩
    · unfold p_X8_link
      rw [hh1, Option.bind_some]
      dsimp only
      rw [if_neg one_nz, a3, k2, k2', Option.bind_some]
      dsimp only
      rw [if_pos rfl, nv_eq]
      exact lk_eq _ hn1 (by rw [hp_o' _ _ (by omega)]; exact a2)
    · intro o' j n1 n2 n3
      unfold lkH adH
      simp (disch := omega) only [hp_s, hp_o', hp_k]
    · intro j n1 n2
      unfold lkH adH
      simp (disch := omega) only [hp_s, hp_o', hp_k]
    · intro j n1
      unfold lkH adH
      simp (disch := omega) only [hp_s, hp_o', hp_k]
    · unfold lkH adH
      simp (disch := omega) only [hp_s, hp_o', hp_k]
    · intro a j n1 n2 n3
      unfold lkH adH
      simp (disch := omega) only [hp_s, hp_o', hp_k]
    · unfold lkH adH
      simp (disch := omega) only [hp_s, hp_o', hp_k]
    · unfold lkH adH
      simp (disch := omega) only [hp_s, hp_o', hp_k]
    · unfold lkH adH
      simp (disch := omega) only [hp_s, hp_o', hp_k]
    · unfold lkH adH
      simp (disch := omega) only [hp_s, hp_o', hp_k]
    · unfold lkH adH
      simp (disch := omega) only [hp_s, hp_o', hp_k]
    · unfold lkH adH
      simp (disch := omega) only [hp_s, hp_o', hp_k]
    · unfold lkH adH
      simp (disch := omega) only [hp_s, hp_o', hp_k]
    · unfold lkH adH
      simp (disch := omega) only [hp_s, hp_o', hp_k]
    · unfold lkH adH
      simp (disch := omega) only [hp_s, hp_o', hp_k]
    · unfold lkH adH
      simp (disch := omega) only [hp_s, hp_o', hp_k]
    · intro j n1 n2
      unfold lkH adH
      simp (disch := omega) only [hp_s, hp_o', hp_k]
    · unfold lkH adH
      simp (disch := omega) only [hp_s, hp_o', hp_k]
    · intro j n1 n2
      rw [k2] at n2
      have := nI_pos (n := j) (by omega)
      rw [← n2] at this
      exact absurd (by decide) this
    · intro j n1 n2 n3 n4
      unfold lkH adH
      simp (disch := omega) only [hp_s, hp_o', hp_k]
    · intro _
      unfold lkH adH
      simp (disch := omega) only [hp_s, hp_o', hp_k]
    · intro u
      exact absurd k2 u
    · unfold lkH adH
      simp (disch := omega) only [hp_s, hp_o', hp_k]
    · unfold lkH adH
      simp (disch := omega) only [hp_s, hp_o', hp_k]
    · unfold lkH adH
      simp (disch := omega) only [hp_s, hp_o', hp_k]
    · unfold lkH adH
      simp (disch := omega) only [hp_s, hp_o', hp_k]
    · unfold lkH adH
      simp (disch := omega) only [hp_s, hp_o', hp_k]
    · refine ⟨fun o' ho => funext fun j => ?_, fun j => ?_⟩
      · unfold lkH adH
        simp (disch := omega) only [hp_s, hp_o', hp_k]
      · unfold lkH adH
        simp (disch := omega) only [hp_s, hp_o', hp_k]
    · unfold lkH adH
      simp (disch := omega) only [hp_s, hp_o', hp_k]
    · unfold lkH adH
      simp (disch := omega) only [hp_s, hp_o', hp_k]
    · intro b' hb'
      unfold lkH adH
      simp (disch := omega) only [hp_s, hp_o', hp_k]
end Ar

