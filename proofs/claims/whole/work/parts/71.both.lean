/-! the law's heap: both sides -/
def RD (h : Hp) : Prop := ∃ k, k ≤ 900 ∧ h (0 + 1) 1 = nI k ∧ h 110 2 = nI k ∧ (∀ j, j < k → h (0 + 1 + 1) j = h (110 + 1) j ∧ rg (h (110 + 1) j) 0 255) ∧ h (0 + 1) 10 = h 110 18 ∧ h (0 + 1) 11 = h 110 19
def GR (Bd : Nat) (h : Hp) : Prop := ∃ m y sn n N nw ol L, Rel true true (fun _ => 0) m y sn Bd n N 200 nw ol L h (0 + 10) (h 116) ∧ LSt n nw ol (h 116) ∧ h (0 + 10 + 1) 0 = h 116 4 ∧ h (0 + 10 + 1) 5 = h 116 7 ∧ rg (h 116 4) 1 99 ∧ rg (h 116 7) 1 60 ∧ h 110 22 = -2 ∧ h (0 + 59 + 1 + 40) 3 = 0 ∧ RD h
theorem RD.cong {h h' : Hp} (H : RD h) (a : ∀ o, o = 1 ∨ o = 2 ∨ o = 111 → h' o = h o) (b : ∀ j, j = 2 ∨ j = 18 ∨ j = 19 → h' 110 j = h 110 j) : RD h' := by
  obtain ⟨k, h1, h2, h3, h4, h5, h6⟩ := H
  have a1 : h' (0 + 1) = h (0 + 1) := a 1 (by omega)
  have a2 : h' (0 + 1 + 1) = h (0 + 1 + 1) := a 2 (by omega)
  have a3 : h' (110 + 1) = h (110 + 1) := a 111 (by omega)
  exact ⟨k, h1, by rw [a1, h2], by rw [b 2 (by omega), h3], fun j hj => by rw [a2, a3]; exact h4 j hj, by rw [a1, b 18 (by omega), h5], by rw [a1, b 19 (by omega), h6]⟩
theorem mt_s (h : Hp) (S : Nat → Int32) (t l : Int32) : mt h S t l 116 = upd (upd S 4 t) 7 l := va_up_self h 116 _
theorem GR_mk {Bd m y sn n N : Nat} {nw ol L : List Nat} {hx : Hp} {S : Nat → Int32} {t l : Int32} (R : Rel true true (fun _ => 0) m y sn Bd n N 200 nw ol L hx (0 + 10) S) (hLS : LSt n nw ol S) (ht : hx (0 + 10 + 1) 0 = t) (hl : hx (0 + 10 + 1) 5 = l) (rt : rg t 1 99) (rl : rg l 1 60) (ow : hx 110 22 = -2) (hw : hx (0 + 59 + 1 + 40) 3 = 0) (rd : RD hx) : GR Bd (mt hx S t l) := by
  have e : ∀ k, k ≠ 4 → k ≠ 7 → upd (upd S 4 t) 7 l k = S k := fun k h4 h7 => by rw [upd_n _ _ h7, upd_n _ _ h4]
  have f : ∀ o, o ≠ 116 → mt hx S t l o = hx o := fun o ho => mt_n _ _ _ _ ho
  unfold GR
  rw [mt_s]
  refine ⟨m, y, sn, n, N, nw, ol, L, (R.irr e).heap (fun o h1 h2 => f o (by omega)), fun b g hb hg u => ?_, ?_, ?_, ?_, ?_, ?_, ?_, rd.cong (fun o ho => f o (by omega)) (fun j _ => by rw [f _ (by omega)])⟩
  · have hnn := R.n200
    exact hLS b g hb hg (by rw [sb_cong (S := S) (e _ (by omega) (by omega)) (e _ (by omega) (by omega))] at u; exact u)
  · rw [f _ (by omega), upd_n _ _ (by omega), upd_s, ht]
  · rw [f _ (by omega), upd_s, hl]
  · rw [upd_n _ _ (by omega), upd_s]
    exact rt
  · rw [upd_s]
    exact rl
  · rw [f _ (by omega)]
    exact ow
  · rw [f _ (by omega)]
    exact hw
/-- the class has done its part: h1; the reference does its own upon it -/
theorem op_close {Bd : Nat} {h h1 : Hp} (G : GR Bd h) (F : Fr (0 + 10) h h1) {Bd' m y sn n N : Nat} {nw ol L : List Nat} {S : Nat → Int32} (R : Rel true true (fun _ => 0) m y sn Bd' n N 200 nw ol L h1 (0 + 10) S) (hLS : LSt n nw ol S) : GR Bd' (mt (hp h1 110 0 0) S (h 116 4) (h 116 7)) := by
  obtain ⟨_, _, _, _, _, _, _, _, _, _, g1, g2, g3, g4, g5, g6, g7⟩ := G
  have f : ∀ o, o < 10 ∨ 54 ≤ o → h1 o = h o := fun o ho => F.1 o (by omega)
  refine GR_mk (R.heap (fun o a b => hp_n (by omega))) hLS ?_ ?_ g3 g4 ?_ ?_ ?_
  · rw [hp_o' _ _ (by omega), F.2 0, g1]
  · rw [hp_o' _ _ (by omega), F.2 5, g2]
  · rw [hp_k _ _ (by omega), f _ (by omega), g5]
  · rw [hp_o' _ _ (by omega), f _ (by omega), g6]
  · exact g7.cong (fun o ho => by rw [hp_n (by omega), f o (by omega)]) (fun j hj => by rw [hp_k _ _ (by omega), f _ (by omega)])
theorem GR.S1 {h h1 : Hp} (F : Fr (0 + 10) h h1) : hp h1 110 0 0 = mt (hp h1 110 0 0) (h 116) (h 116 4) (h 116 7) := by
  have e : hp h1 110 0 0 116 = h 116 := by rw [hp_n (by omega), F.1 116 (by omega)]
  have := mt_eta (hp h1 110 0 0)
  rw [e] at this
  exact this.symm
/-- what is owed of a call -/
def Met2 (Bd' : Nat) (h : Hp) (c : Hp → Option (Int32 × Hp)) (m : Hp → Option (Int32 × Hp)) : Prop := ∃ r h1 h2, c h = some (r, h1) ∧ m h1 = some (r, h2) ∧ GR Bd' h2
theorem go_m {Bd : Nat} {h : Hp} (G : GR Bd h) : Met2 Bd h (fun h => p_X9_go h 0) (fun h => p_X10_go h 110) := by
  have G0 := G
  obtain ⟨m, y, sn, n, N, nw, ol, L, R, hLS, g1, g2, g3, g4, g5, g6, g7⟩ := G
  obtain ⟨h1, S', L', nw', ol', N', r, aC, aM, R1, hLS1, aF, a10, a12, a17, aO⟩ := serve_sim R hLS
  refine ⟨r, h1, _, ?_, ?_, op_close G0 aF R1 hLS1⟩
  · show p_X9_go h 0 = _
    unfold p_X9_go
    rw [aC, Option.bind_some]
  · show p_X10_go h1 110 = _
    have e := aM (hp h1 110 0 0) (h 116 4) (h 116 7) (Or.inl g1.symm)
    rw [← GR.S1 aF] at e
    unfold p_X10_go
    rw [nv_eq, e, Option.bind_some]
theorem fits_y (h : Hp) {r lo hi k : Nat} (hr : r < 19) (hlo : tbv 1 r = nI lo) (hhi : tbv 2 r = nI hi) (hk : k < 2 ^ 31) (h1 : lo ≤ k) (h2 : k ≤ hi) (hh : hi < 2 ^ 31) : p_X9_fits h (nI r) (nI k) = some (1, h) := by
  have c0 : ¬ nI r < 0 := nI_pos (by omega)
  have c1 : ¬ (19 : Int32) ≤ nI r := nI_ge (b := 19) (by omega) (by omega)
  have c2 : ib (nI r) 19 := ib_n (by omega) (by omega)
  unfold p_X9_fits
  rw [if_neg c0, if_neg c1, if_neg c1, if_pos c2, if_neg (by rw [nI_clamp (by omega), hlo]; exact nI_nlt h1 (by omega)), if_pos c2, if_neg (by rw [nI_clamp (by omega), hhi]; exact nI_nlt h2 (by omega))]
theorem fits_n (h : Hp) {r : Nat} (hr : r < 19) {x : Int32} (hx : x < tbv 1 r ∨ tbv 2 r < x) : p_X9_fits h (nI r) x = some (0, h) := by
  have c0 : ¬ nI r < 0 := nI_pos (by omega)
  have c1 : ¬ (19 : Int32) ≤ nI r := nI_ge (b := 19) (by omega) (by omega)
  have c2 : ib (nI r) 19 := ib_n (by omega) (by omega)
  unfold p_X9_fits
  rw [if_neg c0, if_neg c1, if_neg c1, if_pos c2]
  by_cases a : x < tbv 1 r
  · rw [if_pos (by rw [nI_clamp (by omega)]; exact a)]
  · rw [if_neg (by rw [nI_clamp (by omega)]; exact a), if_pos c2, if_pos (by rw [nI_clamp (by omega)]; exact hx.resolve_left a)]

