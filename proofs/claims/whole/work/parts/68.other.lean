/-! other heaps, other worlds -/
section Ot
variable {bg rl : Bool} {tb : Nat → Int32} {m y sn Bd n N tk : Nat} {nw ol L : List Nat} {h : Hp} {w : Nat} {S : Nat → Int32}
theorem Rel.heap (R : Rel bg rl tb m y sn Bd n N tk nw ol L h w S) {h' : Hp} (fr : ∀ o', w ≤ o' → o' < w + 44 → h' o' = h o') : Rel bg rl tb m y sn Bd n N tk nw ol L h' w S := by
  have hn200 := R.n200
  have hmy := R.my
  refine ⟨?_, ?_, ?_, ?_, ?_, ?_, ?_, ?_, ?_, ?_, ?_, ?_, ?_, ?_, ?_, ?_, ?_, ?_, ?_, ?_, ?_⟩
  · exact R.sc.cong (fun j _ _ => (by first | rfl | (simp (disch := omega) only [fr]; done))) (by first | rfl | (simp (disch := omega) only [fr]; done)) (fun j _ _ _ => (by first | rfl | (simp (disch := omega) only [fr]; done))) (fun k _ _ _ _ => (by first | rfl | (simp (disch := omega) only [fr]; done)))
  · exact R.bk.cong (fun b' j _ _ => (by first | rfl | (simp (disch := omega) only [fr]; done))) (fun b' c _ _ => (by first | rfl | (simp (disch := omega) only [fr]; done)))
  · exact R.fr.cong (fun j f _ _ _ => (by first | rfl | (simp (disch := omega) only [fr]; done))) (fun f c _ _ => (by first | rfl | (simp (disch := omega) only [fr]; done)))
  · exact R.ksn.cong (fun k j _ _ => (by first | rfl | (simp (disch := omega) only [fr]; done))) (fun k _ _ => (by first | rfl | (simp (disch := omega) only [fr]; done))) R.sn4
  · exact R.is.cong (fun k _ _ _ _ _ _ => (by first | rfl | (simp (disch := omega) only [fr]; done)))
  · exact R.br.cong (fun b' c _ _ => (by first | rfl | (simp (disch := omega) only [fr]; done)))
  · exact R.fi.cong (fun f c _ _ => (by first | rfl | (simp (disch := omega) only [fr]; done))) R.n200
  · exact R.si.cong (fun k c _ _ => (by first | rfl | (simp (disch := omega) only [fr]; done))) R.sn4
  · exact R.li.cong (fun k _ _ _ => (by first | rfl | (simp (disch := omega) only [fr]; done))) (fun b' _ => (by first | rfl | (simp (disch := omega) only [fr]; done))) R.my
  · exact R.lc.cong (fun j => (by first | rfl | (simp (disch := omega) only [fr]; done))) (fun j => (by first | rfl | (simp (disch := omega) only [fr]; done)))
  · exact R.cb.cong (fun b' j _ _ => (by first | rfl | (simp (disch := omega) only [fr]; done))) (fun f c _ _ => (by first | rfl | (simp (disch := omega) only [fr]; done))) (fun b' _ => (by first | rfl | (simp (disch := omega) only [fr]; done)))
  · exact R.cf.cong (fun f _ => (by first | rfl | (simp (disch := omega) only [fr]; done))) (by first | rfl | (simp (disch := omega) only [fr]; done)) (fun f c _ _ => (by first | rfl | (simp (disch := omega) only [fr]; done))) (by first | rfl | (simp (disch := omega) only [fr]; done)) (fun b' _ => (by first | rfl | (simp (disch := omega) only [fr]; done)))
  · exact R.el.cong R.n200 (by first | rfl | (simp (disch := omega) only [fr]; done)) (fun i _ => (by first | rfl | (simp (disch := omega) only [fr]; done))) (fun k _ _ => (by first | rfl | (simp (disch := omega) only [fr]; done))) (fun f c _ _ => (by first | rfl | (simp (disch := omega) only [fr]; done)))
  · exact R.ep.cong R.hL R.hl (fun k _ => (by first | rfl | (simp (disch := omega) only [fr]; done))) (fun f c _ _ => (by first | rfl | (simp (disch := omega) only [fr]; done)))
  · exact R.eh.cong R.hL2 R.sn4 (fun k _ => (by first | rfl | (simp (disch := omega) only [fr]; done))) (fun f c _ _ => (by first | rfl | (simp (disch := omega) only [fr]; done)))
  · exact R.wi.cong (fun j i _ _ => (by first | rfl | (simp (disch := omega) only [fr]; done))) (fun k _ => (by first | rfl | (simp (disch := omega) only [fr]; done)))
  · exact R.ta.cong (fun j _ => (by first | rfl | (simp (disch := omega) only [fr]; done))) (fun k _ _ => (by first | rfl | (simp (disch := omega) only [fr]; done)))
  · exact R.pk.cong (by first | rfl | (simp (disch := omega) only [fr]; done)) (by first | rfl | (simp (disch := omega) only [fr]; done))
  · exact R.kbg.cong (fun b' _ => (by first | rfl | (simp (disch := omega) only [fr]; done))) (fun f c _ _ => (by first | rfl | (simp (disch := omega) only [fr]; done))) (fun b' _ => (by first | rfl | (simp (disch := omega) only [fr]; done)))
  · exact R.px.cong R.hL2 (fun f _ _ => (by first | rfl | (simp (disch := omega) only [fr]; done)))
  · exact R.lt.cong (by first | rfl | (simp (disch := omega) only [fr]; done)) (by first | rfl | (simp (disch := omega) only [fr]; done))
theorem Rel.irr (R : Rel bg rl tb m y sn Bd n N tk nw ol L h w S) {S' : Nat → Int32} (fs : ∀ k, k ≠ 4 → k ≠ 7 → S' k = S k) : Rel bg rl tb m y sn Bd n N tk nw ol L h w S' := by
  have hn200 := R.n200
  have hmy := R.my
  refine ⟨?_, ?_, ?_, ?_, ?_, ?_, ?_, ?_, ?_, ?_, ?_, ?_, ?_, ?_, ?_, ?_, ?_, ?_, ?_, ?_, ?_⟩
  · exact R.sc.cong (fun j _ _ => (by first | rfl | (simp (disch := omega) only [fs]; done))) (by first | rfl | (simp (disch := omega) only [fs]; done)) (fun j _ _ _ => (by first | rfl | (simp (disch := omega) only [fs]; done))) (fun k _ _ _ _ => (by first | rfl | (simp (disch := omega) only [fs]; done)))
  · exact R.bk.cong (fun b' j _ _ => (by first | rfl | (simp (disch := omega) only [fs]; done))) (fun b' c _ _ => (by first | rfl | (simp (disch := omega) only [fs]; done)))
  · exact R.fr.cong (fun j f _ _ _ => (by first | rfl | (simp (disch := omega) only [fs]; done))) (fun f c _ _ => (by first | rfl | (simp (disch := omega) only [fs]; done)))
  · exact R.ksn.cong (fun k j _ _ => (by first | rfl | (simp (disch := omega) only [fs]; done))) (fun k _ _ => (by first | rfl | (simp (disch := omega) only [fs]; done))) R.sn4
  · exact R.is.cong (fun k _ _ _ _ _ _ => (by first | rfl | (simp (disch := omega) only [fs]; done)))
  · exact R.br.cong (fun b' c _ _ => (by first | rfl | (simp (disch := omega) only [fs]; done)))
  · exact R.fi.cong (fun f c _ _ => (by first | rfl | (simp (disch := omega) only [fs]; done))) R.n200
  · exact R.si.cong (fun k c _ _ => (by first | rfl | (simp (disch := omega) only [fs]; done))) R.sn4
  · exact R.li.cong (fun k _ _ _ => (by first | rfl | (simp (disch := omega) only [fs]; done))) (fun b' _ => (by first | rfl | (simp (disch := omega) only [fs]; done))) R.my
  · exact R.lc.cong (fun j => (by first | rfl | (simp (disch := omega) only [fs]; done))) (fun j => (by first | rfl | (simp (disch := omega) only [fs]; done)))
  · exact R.cb.cong (fun b' j _ _ => (by first | rfl | (simp (disch := omega) only [fs]; done))) (fun f c _ _ => (by first | rfl | (simp (disch := omega) only [fs]; done))) (fun b' _ => (by first | rfl | (simp (disch := omega) only [fs]; done)))
  · exact R.cf.cong (fun f _ => (by first | rfl | (simp (disch := omega) only [fs]; done))) (by first | rfl | (simp (disch := omega) only [fs]; done)) (fun f c _ _ => (by first | rfl | (simp (disch := omega) only [fs]; done))) (by first | rfl | (simp (disch := omega) only [fs]; done)) (fun b' _ => (by first | rfl | (simp (disch := omega) only [fs]; done)))
  · exact R.el.cong R.n200 (by first | rfl | (simp (disch := omega) only [fs]; done)) (fun i _ => (by first | rfl | (simp (disch := omega) only [fs]; done))) (fun k _ _ => (by first | rfl | (simp (disch := omega) only [fs]; done))) (fun f c _ _ => (by first | rfl | (simp (disch := omega) only [fs]; done)))
  · exact R.ep.cong R.hL R.hl (fun k _ => (by first | rfl | (simp (disch := omega) only [fs]; done))) (fun f c _ _ => (by first | rfl | (simp (disch := omega) only [fs]; done)))
  · exact R.eh.cong R.hL2 R.sn4 (fun k _ => (by first | rfl | (simp (disch := omega) only [fs]; done))) (fun f c _ _ => (by first | rfl | (simp (disch := omega) only [fs]; done)))
  · exact R.wi.cong (fun j i _ _ => (by first | rfl | (simp (disch := omega) only [fs]; done))) (fun k _ => (by first | rfl | (simp (disch := omega) only [fs]; done)))
  · exact R.ta.cong (fun j _ => (by first | rfl | (simp (disch := omega) only [fs]; done))) (fun k _ _ => (by first | rfl | (simp (disch := omega) only [fs]; done)))
  · exact R.pk.cong (by first | rfl | (simp (disch := omega) only [fs]; done)) (by first | rfl | (simp (disch := omega) only [fs]; done))
  · exact R.kbg.cong (fun b' _ => (by first | rfl | (simp (disch := omega) only [fs]; done))) (fun f c _ _ => (by first | rfl | (simp (disch := omega) only [fs]; done))) (fun b' _ => (by first | rfl | (simp (disch := omega) only [fs]; done)))
  · exact R.px.cong R.hL2 (fun f _ _ => (by first | rfl | (simp (disch := omega) only [fs]; done)))
  · exact R.lt.cong (by first | rfl | (simp (disch := omega) only [fs]; done)) (by first | rfl | (simp (disch := omega) only [fs]; done))
theorem Rel.bd (R : Rel bg rl tb m y sn Bd n N tk nw ol L h w S) {Bd' : Nat} (h1 : Bd ≤ Bd') (h2 : Bd' ≤ 5000000) : Rel bg rl tb m y sn Bd' n N tk nw ol L h w S := by
  have hn200 := R.n200
  have hmy := R.my
  refine ⟨?_, ?_, ?_, ?_, ?_, ?_, ?_, ?_, ?_, ?_, ?_, ?_, ?_, ?_, ?_, ?_, ?_, ?_, ?_, ?_, ?_⟩
  · exact R.sc.cong (fun j _ _ => (by first | rfl | (simp (disch := omega) only [hp_s, hp_o', hp_k, vu_o, upd_s, upd_n]; done))) (by first | rfl | (simp (disch := omega) only [hp_s, hp_o', hp_k, vu_o, upd_s, upd_n]; done)) (fun j _ _ _ => (by first | rfl | (simp (disch := omega) only [hp_s, hp_o', hp_k, vu_o, upd_s, upd_n]; done))) (fun k _ _ _ _ => (by first | rfl | (simp (disch := omega) only [hp_s, hp_o', hp_k, vu_o, upd_s, upd_n]; done)))
  · exact R.bk.cong (fun b' j _ _ => (by first | rfl | (simp (disch := omega) only [hp_s, hp_o', hp_k, vu_o, upd_s, upd_n]; done))) (fun b' c _ _ => (by first | rfl | (simp (disch := omega) only [hp_s, hp_o', hp_k, vu_o, upd_s, upd_n]; done)))
  · exact R.fr.cong (fun j f _ _ _ => (by first | rfl | (simp (disch := omega) only [hp_s, hp_o', hp_k, vu_o, upd_s, upd_n]; done))) (fun f c _ _ => (by first | rfl | (simp (disch := omega) only [hp_s, hp_o', hp_k, vu_o, upd_s, upd_n]; done)))
  · exact R.ksn.cong (fun k j _ _ => (by first | rfl | (simp (disch := omega) only [hp_s, hp_o', hp_k, vu_o, upd_s, upd_n]; done))) (fun k _ _ => (by first | rfl | (simp (disch := omega) only [hp_s, hp_o', hp_k, vu_o, upd_s, upd_n]; done))) R.sn4
  · exact R.is.cong (fun k _ _ _ _ _ _ => (by first | rfl | (simp (disch := omega) only [hp_s, hp_o', hp_k, vu_o, upd_s, upd_n]; done)))
  · exact R.br.cong (fun b' c _ _ => (by first | rfl | (simp (disch := omega) only [hp_s, hp_o', hp_k, vu_o, upd_s, upd_n]; done)))
  · exact R.fi.cong (fun f c _ _ => (by first | rfl | (simp (disch := omega) only [hp_s, hp_o', hp_k, vu_o, upd_s, upd_n]; done))) R.n200
  · exact R.si.cong (fun k c _ _ => (by first | rfl | (simp (disch := omega) only [hp_s, hp_o', hp_k, vu_o, upd_s, upd_n]; done))) R.sn4
  · exact R.li.cong (fun k _ _ _ => (by first | rfl | (simp (disch := omega) only [hp_s, hp_o', hp_k, vu_o, upd_s, upd_n]; done))) (fun b' _ => (by first | rfl | (simp (disch := omega) only [hp_s, hp_o', hp_k, vu_o, upd_s, upd_n]; done))) R.my
  · exact R.lc.cong (fun j => (by first | rfl | (simp (disch := omega) only [hp_s, hp_o', hp_k, vu_o, upd_s, upd_n]; done))) (fun j => (by first | rfl | (simp (disch := omega) only [hp_s, hp_o', hp_k, vu_o, upd_s, upd_n]; done)))
  · exact R.cb.cong (fun b' j _ _ => (by first | rfl | (simp (disch := omega) only [hp_s, hp_o', hp_k, vu_o, upd_s, upd_n]; done))) (fun f c _ _ => (by first | rfl | (simp (disch := omega) only [hp_s, hp_o', hp_k, vu_o, upd_s, upd_n]; done))) (fun b' _ => (by first | rfl | (simp (disch := omega) only [hp_s, hp_o', hp_k, vu_o, upd_s, upd_n]; done)))
  · exact R.cf.cong (fun f _ => (by first | rfl | (simp (disch := omega) only [hp_s, hp_o', hp_k, vu_o, upd_s, upd_n]; done))) (by first | rfl | (simp (disch := omega) only [hp_s, hp_o', hp_k, vu_o, upd_s, upd_n]; done)) (fun f c _ _ => (by first | rfl | (simp (disch := omega) only [hp_s, hp_o', hp_k, vu_o, upd_s, upd_n]; done))) (by first | rfl | (simp (disch := omega) only [hp_s, hp_o', hp_k, vu_o, upd_s, upd_n]; done)) (fun b' _ => (by first | rfl | (simp (disch := omega) only [hp_s, hp_o', hp_k, vu_o, upd_s, upd_n]; done)))
  · exact R.el.cong R.n200 (by first | rfl | (simp (disch := omega) only [hp_s, hp_o', hp_k, vu_o, upd_s, upd_n]; done)) (fun i _ => (by first | rfl | (simp (disch := omega) only [hp_s, hp_o', hp_k, vu_o, upd_s, upd_n]; done))) (fun k _ _ => (by first | rfl | (simp (disch := omega) only [hp_s, hp_o', hp_k, vu_o, upd_s, upd_n]; done))) (fun f c _ _ => (by first | rfl | (simp (disch := omega) only [hp_s, hp_o', hp_k, vu_o, upd_s, upd_n]; done)))
  · obtain ⟨x1, x2, x3, x4, x5, x6, x7, x8, x9, x10⟩ := R.ep
    exact ⟨x1, x2, x3, x4, x5, x6, x7, x8, by omega, h2⟩
  · exact R.eh.cong R.hL2 R.sn4 (fun k _ => (by first | rfl | (simp (disch := omega) only [hp_s, hp_o', hp_k, vu_o, upd_s, upd_n]; done))) (fun f c _ _ => (by first | rfl | (simp (disch := omega) only [hp_s, hp_o', hp_k, vu_o, upd_s, upd_n]; done)))
  · exact R.wi.cong (fun j i _ _ => (by first | rfl | (simp (disch := omega) only [hp_s, hp_o', hp_k, vu_o, upd_s, upd_n]; done))) (fun k _ => (by first | rfl | (simp (disch := omega) only [hp_s, hp_o', hp_k, vu_o, upd_s, upd_n]; done)))
  · exact R.ta.cong (fun j _ => (by first | rfl | (simp (disch := omega) only [hp_s, hp_o', hp_k, vu_o, upd_s, upd_n]; done))) (fun k _ _ => (by first | rfl | (simp (disch := omega) only [hp_s, hp_o', hp_k, vu_o, upd_s, upd_n]; done)))
  · exact R.pk.cong (by first | rfl | (simp (disch := omega) only [hp_s, hp_o', hp_k, vu_o, upd_s, upd_n]; done)) (by first | rfl | (simp (disch := omega) only [hp_s, hp_o', hp_k, vu_o, upd_s, upd_n]; done))
  · exact R.kbg.cong (fun b' _ => (by first | rfl | (simp (disch := omega) only [hp_s, hp_o', hp_k, vu_o, upd_s, upd_n]; done))) (fun f c _ _ => (by first | rfl | (simp (disch := omega) only [hp_s, hp_o', hp_k, vu_o, upd_s, upd_n]; done))) (fun b' _ => (by first | rfl | (simp (disch := omega) only [hp_s, hp_o', hp_k, vu_o, upd_s, upd_n]; done)))
  · exact R.px.cong R.hL2 (fun f _ _ => (by first | rfl | (simp (disch := omega) only [hp_s, hp_o', hp_k, vu_o, upd_s, upd_n]; done)))
  · exact R.lt.cong (by first | rfl | (simp (disch := omega) only [hp_s, hp_o', hp_k, vu_o, upd_s, upd_n]; done)) (by first | rfl | (simp (disch := omega) only [hp_s, hp_o', hp_k, vu_o, upd_s, upd_n]; done))
end Ot
theorem cpB (h : Hp) {p q : Nat} (hne : p ≠ q) (hb : rg (h q 12) 0 1) : ∃ h', p_X0_copyFrom h p q = some h' ∧ (∀ j, j < 14 → h' p j = h q j) ∧ ∀ o', o' ≠ p → h' o' = h o' := by
  have hq : q ≠ p := hne.symm
  have hbb : ∀ h2 : Hp, h2 q = h q → bb (h2 q 12) := fun h2 e => by rw [e]; exact rg01 hb
  refine ⟨hp (hp (hp (hp (hp (hp (hp (hp (hp (hp (hp (hp (hp (hp h p 0 (h q 0)) p 1 (h q 1)) p 2 (h q 2)) p 3 (h q 3)) p 4 (h q 4)) p 5 (h q 5)) p 6 (h q 6)) p 7 (h q 7)) p 8 (h q 8)) p 9 (h q 9)) p 10 (h q 10)) p 11 (h q 11)) p 12 (h q 12)) p 13 (h q 13), ?_, fun j hj => ?_, fun o' ho => ?_⟩
  · unfold p_X0_copyFrom
    simp only [nv_eq, hp_o' _ _ hq]
    rw [if_pos (rg01 hb)]
  · have h14 : j = 0 ∨ j = 1 ∨ j = 2 ∨ j = 3 ∨ j = 4 ∨ j = 5 ∨ j = 6 ∨ j = 7 ∨ j = 8 ∨ j = 9 ∨ j = 10 ∨ j = 11 ∨ j = 12 ∨ j = 13 := by omega
    rcases h14 with rfl | rfl | rfl | rfl | rfl | rfl | rfl | rfl | rfl | rfl | rfl | rfl | rfl | rfl <;> simp (disch := omega) only [hp_s, hp_k]
  · simp (disch := exact ho) only [hp_n]
theorem cpS (h : Hp) {p q : Nat} (hne : p ≠ q) : ∃ h', p_X5_copyFrom h p q = some h' ∧ (∀ j, j < 10 → h' p j = h q j) ∧ ∀ o', o' ≠ p → h' o' = h o' := by
  have hq : q ≠ p := hne.symm
  refine ⟨hp (hp (hp (hp (hp (hp (hp (hp (hp (hp h p 0 (h q 0)) p 1 (h q 1)) p 2 (h q 2)) p 3 (h q 3)) p 4 (h q 4)) p 5 (h q 5)) p 6 (h q 6)) p 7 (h q 7)) p 8 (h q 8)) p 9 (h q 9), ?_, fun j hj => ?_, fun o' ho => ?_⟩
  · unfold p_X5_copyFrom
    simp only [nv_eq, hp_o' _ _ hq]
  · have h10 : j = 0 ∨ j = 1 ∨ j = 2 ∨ j = 3 ∨ j = 4 ∨ j = 5 ∨ j = 6 ∨ j = 7 ∨ j = 8 ∨ j = 9 := by omega
    rcases h10 with rfl | rfl | rfl | rfl | rfl | rfl | rfl | rfl | rfl | rfl <;> simp (disch := omega) only [hp_s, hp_k]
  · simp (disch := exact ho) only [hp_n]
theorem cpy_i (f g : Nat → Int32) {n j : Nat} (h : j < n) : va_cpy f g 0 0 n j = f j := by
  rw [pk_cpy_in (Nat.zero_le _) (by omega)]
  congr 1
  omega
theorem cpL (h : Hp) {p q : Nat} (h1 : q + 1 < p) : ∃ h', p_X2_copyFrom h p q = some h' ∧ h' p 1 = h q 1 ∧ h' p 2 = h q 2 ∧ (∀ j, j < 16 → h' (p + 1) j = h (q + 1) j) ∧ ∀ o', o' ≠ p → o' ≠ p + 1 → h' o' = h o' := by
  have c16 : Int32.toNatClampNeg 16 = 16 := by decide
  refine ⟨va_up (hp (hp h p 1 (h q 1)) p 2 (h q 2)) (p + 1) (va_cpy (h (q + 1)) (h (p + 1)) 0 0 16), ?_, ?_, ?_, fun j hj => ?_, fun o' n1 n2 => ?_⟩
  · unfold p_X2_copyFrom
    simp only [nv_eq, c16]
    rw [hp_o' _ _ (show q ≠ p by omega), hp_n (show q + 1 ≠ p by omega), hp_n (show q + 1 ≠ p by omega), hp_n (show p + 1 ≠ p by omega), hp_n (show p + 1 ≠ p by omega)]
  · rw [vu_o _ _ (by omega), hp_k _ _ (by decide), hp_s]
  · rw [vu_o _ _ (by omega), hp_s]
  · rw [vu_s, cpy_i _ _ hj]
  · rw [vu_o _ _ n2, hp_n n1, hp_n n1]

theorem cst13 (g : Hp) {p q a n : Nat} (ha : 1 ≤ a) (hx : g p 13 = nI n) (hn2 : n ≤ 200) : ∃ g', (∀ K : Hp → Option Hp, (if cpk (g p 13) 200 200 then (nv (va_up g (p + a) (va_cpy (g (q + a)) (g (p + a)) 0 0 (Int32.toNatClampNeg (g p 13)))) K) else none) = K g') ∧ (∀ j, j < n → g' (p + a) j = g (q + a) j) ∧ ∀ o', o' ≠ p + a → g' o' = g o' := by
  have cn : cpk (nI n) 200 200 := ⟨nI_pos (by omega), by rw [nI_clamp (by omega)]; exact hn2, by rw [nI_clamp (by omega)]; exact hn2⟩
  refine ⟨va_up g (p + a) (va_cpy (g (q + a)) (g (p + a)) 0 0 n), fun K => ?_, fun j hj => by rw [vu_s, cpy_i _ _ hj], fun o' ho => vu_o _ _ ho⟩
  rw [if_pos (by rw [hx]; exact cn), hx, nI_clamp (by omega), nv_eq]
theorem cst14 (g : Hp) {p q a n : Nat} (ha : 1 ≤ a) (hx : g p 14 = nI n) (hn2 : n ≤ 200) : ∃ g', (∀ K : Hp → Option Hp, (if cpk (g p 14) 200 200 then (nv (va_up g (p + a) (va_cpy (g (q + a)) (g (p + a)) 0 0 (Int32.toNatClampNeg (g p 14)))) K) else none) = K g') ∧ (∀ j, j < n → g' (p + a) j = g (q + a) j) ∧ ∀ o', o' ≠ p + a → g' o' = g o' := by
  have cn : cpk (nI n) 200 200 := ⟨nI_pos (by omega), by rw [nI_clamp (by omega)]; exact hn2, by rw [nI_clamp (by omega)]; exact hn2⟩
  refine ⟨va_up g (p + a) (va_cpy (g (q + a)) (g (p + a)) 0 0 n), fun K => ?_, fun j hj => by rw [vu_s, cpy_i _ _ hj], fun o' ho => vu_o _ _ ho⟩
  rw [if_pos (by rw [hx]; exact cn), hx, nI_clamp (by omega), nv_eq]
theorem cpF (h : Hp) {p q n e : Nat} (h1 : q + 13 < p) (hn : h q 13 = nI n) (he : h q 14 = nI e) (hn2 : n ≤ 200) (he2 : e ≤ 200) : ∃ h', p_X1_copyFrom h p q = some h' ∧ h' p 13 = nI n ∧ h' p 14 = nI e ∧ (∀ a j, 1 ≤ a → a ≤ 11 → j < n → h' (p + a) j = h (q + a) j) ∧ (∀ j, j < e → h' (p + 12) j = h (q + 12) j) ∧ (∀ j, j < 5 → h' (p + 13) j = h (q + 13) j) ∧ ∀ o', o' < p ∨ p + 13 < o' → h' o' = h o' := by
  have c5 : Int32.toNatClampNeg 5 = 5 := by decide
  obtain ⟨g0, hg0⟩ : ∃ g0 : Hp, g0 = hp (hp h p 13 (nI n)) p 14 (nI e) := ⟨_, rfl⟩
  have z13 : g0 p 13 = nI n := by rw [hg0, hp_k _ _ (by decide), hp_s]
  have z14 : g0 p 14 = nI e := by rw [hg0, hp_s]
  have zo : ∀ o', o' ≠ p → g0 o' = h o' := fun o' ho => by rw [hg0, hp_n ho, hp_n ho]
  have e0 : g0 p 13 = nI n := by simp (disch := omega) only [z13]
  obtain ⟨g1, k1, r1, f1⟩ := cst13 g0 (p := p) (q := q) (a := 1) (by omega) e0 hn2
  have e1 : g1 p 13 = nI n := by simp (disch := omega) only [f1, z13]
  obtain ⟨g2, k2, r2, f2⟩ := cst13 g1 (p := p) (q := q) (a := 2) (by omega) e1 hn2
  have e2 : g2 p 13 = nI n := by simp (disch := omega) only [f2, f1, z13]
  obtain ⟨g3, k3, r3, f3⟩ := cst13 g2 (p := p) (q := q) (a := 3) (by omega) e2 hn2
  have e3 : g3 p 13 = nI n := by simp (disch := omega) only [f3, f2, f1, z13]
  obtain ⟨g4, k4, r4, f4⟩ := cst13 g3 (p := p) (q := q) (a := 4) (by omega) e3 hn2
  have e4 : g4 p 13 = nI n := by simp (disch := omega) only [f4, f3, f2, f1, z13]
  obtain ⟨g5, k5, r5, f5⟩ := cst13 g4 (p := p) (q := q) (a := 5) (by omega) e4 hn2
  have e5 : g5 p 13 = nI n := by simp (disch := omega) only [f5, f4, f3, f2, f1, z13]
  obtain ⟨g6, k6, r6, f6⟩ := cst13 g5 (p := p) (q := q) (a := 6) (by omega) e5 hn2
  have e6 : g6 p 13 = nI n := by simp (disch := omega) only [f6, f5, f4, f3, f2, f1, z13]
  obtain ⟨g7, k7, r7, f7⟩ := cst13 g6 (p := p) (q := q) (a := 7) (by omega) e6 hn2
  have e7 : g7 p 13 = nI n := by simp (disch := omega) only [f7, f6, f5, f4, f3, f2, f1, z13]
  obtain ⟨g8, k8, r8, f8⟩ := cst13 g7 (p := p) (q := q) (a := 8) (by omega) e7 hn2
  have e8 : g8 p 13 = nI n := by simp (disch := omega) only [f8, f7, f6, f5, f4, f3, f2, f1, z13]
  obtain ⟨g9, k9, r9, f9⟩ := cst13 g8 (p := p) (q := q) (a := 9) (by omega) e8 hn2
  have e9 : g9 p 13 = nI n := by simp (disch := omega) only [f9, f8, f7, f6, f5, f4, f3, f2, f1, z13]
  obtain ⟨g10, k10, r10, f10⟩ := cst13 g9 (p := p) (q := q) (a := 10) (by omega) e9 hn2
  have e10 : g10 p 13 = nI n := by simp (disch := omega) only [f10, f9, f8, f7, f6, f5, f4, f3, f2, f1, z13]
  obtain ⟨g11, k11, r11, f11⟩ := cst13 g10 (p := p) (q := q) (a := 11) (by omega) e10 hn2
  have e11 : g11 p 14 = nI e := by simp (disch := omega) only [f11, f10, f9, f8, f7, f6, f5, f4, f3, f2, f1, z14]
  obtain ⟨g12, k12, r12, f12⟩ := cst14 g11 (p := p) (q := q) (a := 12) (by omega) e11 he2
  refine ⟨va_up g12 (p + 13) (va_cpy (g12 (q + 13)) (g12 (p + 13)) 0 0 5), ?_, ?_, ?_, fun a j a1 a2 hj => ?_, fun j hj => ?_, fun j hj => ?_, fun o' ho => ?_⟩
  · unfold p_X1_copyFrom
    rw [hn, nv_eq, hp_o' _ _ (show q ≠ p by omega), he, nv_eq, ← hg0, k1, k2, k3, k4, k5, k6, k7, k8, k9, k10, k11, k12, nv_eq, c5]
  · rw [vu_o _ _ (by omega)]
    simp (disch := omega) only [f12, f11, f10, f9, f8, f7, f6, f5, f4, f3, f2, f1, z13]
  · rw [vu_o _ _ (by omega)]
    simp (disch := omega) only [f12, f11, f10, f9, f8, f7, f6, f5, f4, f3, f2, f1, z14]
  · rw [vu_o _ _ (by omega)]
    have h11 : a = 1 ∨ a = 2 ∨ a = 3 ∨ a = 4 ∨ a = 5 ∨ a = 6 ∨ a = 7 ∨ a = 8 ∨ a = 9 ∨ a = 10 ∨ a = 11 := by omega
    rcases h11 with rfl | rfl | rfl | rfl | rfl | rfl | rfl | rfl | rfl | rfl | rfl
    · simp (disch := omega) only [f12, f11, f10, f9, f8, f7, f6, f5, f4, f3, f2]
      rw [r1 j hj]
      simp (disch := omega) only [zo]
    · simp (disch := omega) only [f12, f11, f10, f9, f8, f7, f6, f5, f4, f3]
      rw [r2 j hj]
      simp (disch := omega) only [f1, zo]
    · simp (disch := omega) only [f12, f11, f10, f9, f8, f7, f6, f5, f4]
      rw [r3 j hj]
      simp (disch := omega) only [f2, f1, zo]
    · simp (disch := omega) only [f12, f11, f10, f9, f8, f7, f6, f5]
      rw [r4 j hj]
      simp (disch := omega) only [f3, f2, f1, zo]
    · simp (disch := omega) only [f12, f11, f10, f9, f8, f7, f6]
      rw [r5 j hj]
      simp (disch := omega) only [f4, f3, f2, f1, zo]
    · simp (disch := omega) only [f12, f11, f10, f9, f8, f7]
      rw [r6 j hj]
      simp (disch := omega) only [f5, f4, f3, f2, f1, zo]
    · simp (disch := omega) only [f12, f11, f10, f9, f8]
      rw [r7 j hj]
      simp (disch := omega) only [f6, f5, f4, f3, f2, f1, zo]
    · simp (disch := omega) only [f12, f11, f10, f9]
      rw [r8 j hj]
      simp (disch := omega) only [f7, f6, f5, f4, f3, f2, f1, zo]
    · simp (disch := omega) only [f12, f11, f10]
      rw [r9 j hj]
      simp (disch := omega) only [f8, f7, f6, f5, f4, f3, f2, f1, zo]
    · simp (disch := omega) only [f12, f11]
      rw [r10 j hj]
      simp (disch := omega) only [f9, f8, f7, f6, f5, f4, f3, f2, f1, zo]
    · simp (disch := omega) only [f12]
      rw [r11 j hj]
      simp (disch := omega) only [f10, f9, f8, f7, f6, f5, f4, f3, f2, f1, zo]
  · rw [vu_o _ _ (by omega), r12 j hj]
    simp (disch := omega) only [f11, f10, f9, f8, f7, f6, f5, f4, f3, f2, f1, zo]
  · rw [vu_s, cpy_i _ _ hj]
    simp (disch := omega) only [f12, f11, f10, f9, f8, f7, f6, f5, f4, f3, f2, f1, zo]
  · rw [vu_o _ _ (by omega)]
    simp (disch := omega) only [f12, f11, f10, f9, f8, f7, f6, f5, f4, f3, f2, f1, zo]

