/-! what a step leaves alone -/
def Fr (w : Nat) (h h' : Hp) : Prop := (∀ o, o < w ∨ w + 44 ≤ o → h' o = h o) ∧ ∀ j, h' (w + 1) j = h (w + 1) j
theorem Fr.refl (w : Nat) (h : Hp) : Fr w h h := ⟨fun _ _ => rfl, fun _ => rfl⟩
theorem Fr.trans {w : Nat} {h h1 h2 : Hp} (a : Fr w h h1) (b : Fr w h1 h2) : Fr w h h2 := ⟨fun o ho => (b.1 o ho).trans (a.1 o ho), fun j => (b.2 j).trans (a.2 j)⟩
theorem Fr.hp (h : Hp) {w o : Nat} (k : Nat) (v : Int32) (h1 : w ≤ o) (h2 : o < w + 44) (h3 : o ≠ w + 1) : Fr w h (hp h o k v) := ⟨fun o' ho => hp_n (by omega), fun j => hp_o' _ _ (by omega)⟩
theorem Fr.vu (h : Hp) {w o : Nat} (d : Nat → Int32) (h1 : w ≤ o) (h2 : o < w + 44) (h3 : o ≠ w + 1) : Fr w h (va_up h o d) := ⟨fun o' ho => vu_o _ _ (by omega), fun j => by rw [vu_o _ _ (by omega)]⟩
def Tk (T t LL : Int32) : Prop := t = T ∨ (T ≤ t ∧ t ≤ LL)
theorem Tk.mono {T t LL LL' : Int32} (h : Tk T t LL') (h2 : LL' ≤ LL) : Tk T t LL := h.elim Or.inl (fun z => Or.inr ⟨z.1, Int32.le_trans z.2 h2⟩)
theorem upd_cm (f : Nat → Int32) {i j : Nat} (h : i ≠ j) (x y : Int32) : upd (upd f i x) j y = upd (upd f j y) i x := fa_upd_swap f h x y
theorem min_le (a b : Int32) : (if a < b then a else b) ≤ b := by
  by_cases h : a < b
  · rw [if_pos h]
    exact (fa_of_lt h).1
  · rw [if_neg h]
    exact Int32.le_refl b
theorem min_le2 (a b : Int32) : (if a < b then a else b) ≤ a := by
  by_cases h : a < b
  · rw [if_pos h]
    exact Int32.le_refl a
  · rw [if_neg h]
    exact fa_of_nlt h
def unl (X : Hp) (w p f : Nat) : Hp := hp (hp (hp (hp X p 3 (X p 3 - 1)) p 4 (X p 4 - X (w + 2 + 2) f)) w 8 (X w 8 - 1)) w 9 (X w 9 - X (w + 2 + 2) f)
theorem unl_eq (X : Hp) {w b f : Nat} (hf : f < 200) : q_X8_unlink_56 X w (w + 16 + 1 + b) (nI f) = some (nI f, unl X w (w + 16 + 1 + b) f) := by
  have c1 : ib (nI f) 200 := ib_n hf (by omega)
  have e1 : (nI f).toNatClampNeg = f := nI_clamp (by omega)
  unfold q_X8_unlink_56 unl
  simp (disch := omega) only [nv_eq, if_pos c1, e1, hp_s, hp_o', hp_k]
section Sm
variable {bg rl : Bool} {tb : Nat → Int32} {m y sn Bd n N tk : Nat} {nw ol L : List Nat} {h : Hp} {w : Nat} {S : Nat → Int32}
theorem unlink_c (R : Rel bg rl tb m y sn Bd n N tk nw ol L h w S) {b f : Nat} (hb : b < 16) (hf : f < n) (h1 : h (w + 16 + 1 + b) 1 = nI f) : ∃ h', p_X8_unlink h w (w + 16 + 1 + b) = some (nI f, h') ∧ (∀ o' j, o' ≠ w + 16 + 1 + b → o' ≠ w → h' o' j = h o' j) ∧ (∀ j, j ≠ 8 → j ≠ 9 → h' w j = h w j) ∧ (∀ j, j ≠ 1 → j ≠ 2 → j ≠ 3 → j ≠ 4 → h' (w + 16 + 1 + b) j = h (w + 16 + 1 + b) j) ∧ h' (w + 16 + 1 + b) 1 = h (w + 2 + 11) f ∧ h' (w + 16 + 1 + b) 2 = (if 0 ≤ h (w + 2 + 11) f then h (w + 16 + 1 + b) 2 else -2) ∧ h' (w + 16 + 1 + b) 3 = h (w + 16 + 1 + b) 3 - 1 ∧ h' (w + 16 + 1 + b) 4 = h (w + 16 + 1 + b) 4 - h (w + 2 + 2) f ∧ h' w 8 = h w 8 - 1 ∧ h' w 9 = h w 9 - h (w + 2 + 2) f := by
  have hn := R.n200
  have c0 : ¬ nI f < 0 := nI_pos (by omega)
  have c1 : nI f < (200 : Int32) := nI_lt (b := 200) (by omega) (by omega)
  have c2 : ib (nI f) 200 := ib_n (by omega) (by omega)
  have c3 : ¬ nI n ≤ nI f := nI_ge (by omega) (by omega)
  have r1 : h (w + 2) 13 = nI n := by rw [R.many, R.i1]
  have e1 : (nI f).toNatClampNeg = f := nI_clamp (by omega)
  by_cases hz : 0 ≤ h (w + 2 + 11) f
  · refine ⟨unl (hp h (w + 16 + 1 + b) 1 (h (w + 2 + 11) f)) w (w + 16 + 1 + b) f, ?_, ?_⟩
    · unfold p_X8_unlink
      simp only [nv_eq, h1, if_neg c0, r1, if_neg c3, if_pos c1, if_pos c2, e1, hp_s, if_pos hz]
      exact unl_eq _ (by omega)
    · unfold unl
      rw [if_pos hz]
      refine ⟨fun o' j n1 n2 => ?_, fun j n1 n2 => ?_, fun j n1 n2 n3 n4 => ?_, ?_, ?_, ?_, ?_, ?_, ?_⟩ <;> simp (disch := omega) only [hp_s, hp_o', hp_k]
  · refine ⟨unl (hp (hp h (w + 16 + 1 + b) 1 (h (w + 2 + 11) f)) (w + 16 + 1 + b) 2 (-2)) w (w + 16 + 1 + b) f, ?_, ?_⟩
    · unfold p_X8_unlink
      simp only [nv_eq, h1, if_neg c0, r1, if_neg c3, if_pos c1, if_pos c2, e1, hp_s, if_neg hz]
      exact unl_eq _ (by omega)
    · unfold unl
      rw [if_neg hz]
      refine ⟨fun o' j n1 n2 => ?_, fun j n1 n2 => ?_, fun j n1 n2 n3 n4 => ?_, ?_, ?_, ?_, ?_, ?_, ?_⟩ <;> simp (disch := omega) only [hp_s, hp_o', hp_k]
theorem end_c (R : Rel bg rl tb m y sn Bd n N tk nw ol L h w S) {f c : Nat} (hf : f < n) (hl : L.length < 200) (hc : c < 5) : p_X1_end h (w + 2) (nI f) (nI c) (nI N) = some (hp (hp (hp (hp (hp h (w + 2 + 9) f (nI c)) (w + 2 + 10) f (nI N)) (w + 2 + 12) L.length (nI f)) (w + 2) 14 (nI (L.length + 1))) (w + 2 + 13) c (h (w + 2 + 13) c + 1)) := by
  have hn := R.n200
  have c0 : ¬ nI f < 0 := nI_pos (by omega)
  have c1 : ¬ nI n ≤ nI f := nI_ge (by omega) (by omega)
  have c2 : ¬ (200 : Int32) ≤ nI L.length := nI_ge (b := 200) (by omega) (by omega)
  have c6 : ¬ (200 : Int32) ≤ nI f := nI_ge (b := 200) (by omega) (by omega)
  have c7 : ¬ nI c < 0 := nI_pos (by omega)
  have c8 : nI c < (5 : Int32) := nI_lt (b := 5) (by omega) (by omega)
  have c3 : ib (nI f) 200 := ib_n (by omega) (by omega)
  have c4 : ib (nI L.length) 200 := ib_n (by omega) (by omega)
  have c5 : ib (nI c) 5 := ib_n (by omega) (by omega)
  have e1 : (nI f).toNatClampNeg = f := nI_clamp (by omega)
  have e2 : (nI L.length).toNatClampNeg = L.length := nI_clamp (by omega)
  have e3 : (nI c).toNatClampNeg = c := nI_clamp (by omega)
  have r1 : h (w + 2) 13 = nI n := by rw [R.many, R.i1]
  have r2 : h (w + 2) 14 = nI L.length := R.el.1
  unfold p_X1_end q_X1_end_24
  simp (disch := omega) only [if_neg c0, r1, if_neg c1, if_neg c6, if_neg one_nz, r2, if_neg c2, if_neg c7, if_pos c8, if_pos c3, e1, nv_eq, hp_s, hp_o', hp_k, if_pos c4, e2, if_pos c5, e3, nI_1]
theorem has_y (R : Rel bg rl tb m y sn Bd n N tk nw ol L h w S) {f : Nat} (hf : f < n) : p_X1_has h (w + 2) (nI f) = some (1, h) := by
  have hn := R.n200
  have c0 : ¬ nI f < 0 := nI_pos (by omega)
  have c1 : ¬ nI n ≤ nI f := nI_ge (by omega) (by omega)
  have c2 : ¬ (200 : Int32) ≤ nI f := nI_ge (b := 200) (by omega) (by omega)
  unfold p_X1_has
  rw [if_neg c0, R.many, R.i1, if_neg c1, if_neg c2]
theorem has_n (h : Hp) (o : Nat) : p_X1_has h o (-2) = some (0, h) := by
  unfold p_X1_has
  rw [if_pos (by decide)]
/-- what a taking gives: a frame -/
def Took (bg rl : Bool) (tb : Nat → Int32) (m y sn Bd n N : Nat) (nw ol L : List Nat) (h : Hp) (w : Nat) (S : Nat → Int32) (b : Nat) (h' : Hp) (S' : Nat → Int32) (f : Nat) : Prop := f < n ∧ Rel bg rl tb m y sn Bd n N f nw ol L h' w S' ∧ S' (276 + 12 * f + 6) = 1 ∧ S' (276 + 12 * f + 5) = 0 ∧ h' w 11 = S' (68 + 13 * b + 11) ∧ rg (h' w 11) 0 1 ∧ Fr w h h' ∧ h' w 10 = h w 10 ∧ h' w 12 ≤ h w 12 ∧ (∀ b', b' < 16 → S' (68 + 13 * b' + 1) = S (68 + 13 * b' + 1)) ∧ fa_cnt (sd S') n + 1 = fa_cnt (sd S) n ∧ S' 17 = S 17 ∧ ∀ b' g, g < n → sb S' b' g = true → sb S b' g = true
def Tnone (bg rl : Bool) (tb : Nat → Int32) (m y sn Bd n N : Nat) (nw ol L : List Nat) (h : Hp) (w : Nat) (S : Nat → Int32) (b : Nat) (h' : Hp) (S' : Nat → Int32) : Prop := Rel bg rl tb m y sn Bd n N 200 nw ol L h' w S' ∧ h' w 11 = 0 ∧ S' (68 + 13 * b + 11) = 0 ∧ Fr w h h' ∧ h' w 10 = h w 10 ∧ h' w 12 ≤ h w 12 ∧ (∀ b', b' < 16 → S' (68 + 13 * b' + 1) = S (68 + 13 * b' + 1)) ∧ fa_cnt (sd S') n = fa_cnt (sd S) n ∧ S' 17 = S 17 ∧ (∀ b' g, g < n → sb S' b' g = true → sb S b' g = true) ∧ ∀ g, g < n → sb S' b g = false
theorem take_n (R : Rel bg rl tb m y sn Bd n N 200 nw ol L h w S) {b : Nat} (hb : b < 16) (hm : ∀ g, g < n → sb S b g = false) : ∃ h' S', p_X8_take h w (w + 16 + 1 + b) = some (-2, h') ∧ (∀ hm t l, p_X10_takes (mt hm S t l) 110 (nI b) = some (-1, mt hm S' t l)) ∧ Tnone bg rl tb m y sn Bd n N nw ol L h w S b h' S' := by
  have hn := R.n200
  have h1 : h (w + 16 + 1 + b) 1 = -2 := by
    rcases (R.cb b hb).1 with ⟨f, k1, k2, k3, k4, k5⟩ | ⟨k1, k2⟩
    · rw [hm f k2] at k3
      cases k3
    · exact k2
  refine ⟨hp (hp h w 11 0) (w + 16 + 1 + b) 10 (-2), upd (upd S (68 + 13 * b + 11) 0) (68 + 13 * b + 7) (-2), ?_, fun h0 t l => ?_, ((R.mlate hb 0).late 0).u10 hb (-2), ?_, ?_, (Fr.hp _ _ _ (by omega) (by omega) (by omega)).trans (Fr.hp _ _ _ (by omega) (by omega) (by omega)), ?_, ?_, fun b' hb' => ?_, ?_, ?_, fun b' g hg u => ?_, fun g hg => ?_⟩
  · have hU : p_X8_unlink h w (w + 16 + 1 + b) = some (-2, h) := by
      unfold p_X8_unlink
      rw [nv_eq, h1, if_pos (by decide)]
    unfold p_X8_take
    rw [hU, Option.bind_some]
    simp only [nv_eq, has_n, Option.bind_some, if_true]
  · unfold p_X10_takes
    rw [m_first_n h0 S t l R.i1 hn hm, Option.bind_some]
    simp only [m_puts_11 h0 S t l _ hb, Option.bind_some, if_true, m_puts_7 h0 _ t l _ hb]
  · simp (disch := omega) only [hp_s, hp_o', hp_k]
  · simp (disch := omega) only [upd_s, upd_n]
  · simp (disch := omega) only [hp_s, hp_o', hp_k]
  · simp (disch := omega) only [hp_s, hp_o', hp_k]
    exact Int32.le_refl _
  · simp (disch := omega) only [upd_s, upd_n]
  · refine fa_cnt_cong fun k hk => ?_
    unfold sd
    simp (disch := omega) only [upd_s, upd_n]
  · simp (disch := omega) only [upd_s, upd_n]
  · rw [sb_cong (S := S) (by simp (disch := omega) only [upd_s, upd_n]) (by simp (disch := omega) only [upd_s, upd_n])] at u
    exact u
  · rw [sb_cong (S := S) (by simp (disch := omega) only [upd_s, upd_n]) (by simp (disch := omega) only [upd_s, upd_n])]
    exact hm g hg
end Sm

