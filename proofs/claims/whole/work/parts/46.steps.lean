/-! single steps that keep the relation -/
section El
variable {bg rl : Bool} {tb : Nat → Int32} {m y sn Bd n N tk : Nat} {nw ol L : List Nat} {h : Hp} {w : Nat} {S : Nat → Int32}
theorem Rel.hL (R : Rel bg rl tb m y sn Bd n N tk nw ol L h w S) : ∀ f ∈ lr tk L, f < n := fun f hf => by
  rcases lr_sub hf with h1 | ⟨h1, h2⟩
  · exact ((R.el.2.2.2.2.2.1 f).mp h1).1
  · rw [h1]
    exact (R.el.2.2.2.2.2.2.1 h2).1
theorem Rel.hl (R : Rel bg rl tb m y sn Bd n N tk nw ol L h w S) : (lr tk L).length ≤ 200 := Nat.le_trans (R.el.lr200 R.n200) R.n200
theorem Rel.hL2 (R : Rel bg rl tb m y sn Bd n N tk nw ol L h w S) : ∀ f ∈ L, f < n := fun f hf => ((R.el.2.2.2.2.2.1 f).mp hf).1
theorem Rel.u7 (R : Rel bg rl tb m y sn Bd n N tk nw ol L h w S) {b : Nat} (hb : b < 16) (v : Int32) (hv : rg v 0 999) : Rel bg rl tb m y sn Bd n N tk nw ol L (hp h (w + 16 + 1 + b) 7 v) w (upd S (68 + 13 * b + 3) v) := by
  have hn200 := R.n200
  have hmy := R.my
  refine ⟨?_, ?_, ?_, ?_, ?_, ?_, ?_, ?_, ?_, ?_, ?_, ?_, ?_, ?_, ?_, ?_, ?_, ?_, ?_, ?_, ?_⟩
  · exact R.sc.cong (fun j _ _ => (by first | rfl | (simp (disch := omega) only [hp_s, hp_o', hp_k, vu_o, upd_s, upd_n]; done))) (by first | rfl | (simp (disch := omega) only [hp_s, hp_o', hp_k, vu_o, upd_s, upd_n]; done)) (fun j _ _ _ => (by first | rfl | (simp (disch := omega) only [hp_s, hp_o', hp_k, vu_o, upd_s, upd_n]; done))) (fun k _ _ _ _ => (by first | rfl | (simp (disch := omega) only [hp_s, hp_o', hp_k, vu_o, upd_s, upd_n]; done)))
  · intro b' hb'
    obtain ⟨e1, e2, e3, e4, e5, e6, e7, e8, e9, e10⟩ := R.bk b' hb'
    by_cases e : b' = b
    · subst e
      refine ⟨?_, ?_, ?_, ?_, ?_, ?_, ?_, ?_, ?_, ?_⟩ <;> simp (disch := omega) only [hp_s, hp_o', hp_k, vu_o, upd_s, upd_n, e1, e2, e3, e4, e5, e6, e7, e8, e9, e10]
    · refine ⟨?_, ?_, ?_, ?_, ?_, ?_, ?_, ?_, ?_, ?_⟩ <;> simp (disch := omega) only [hp_s, hp_o', hp_k, vu_o, upd_s, upd_n, e1, e2, e3, e4, e5, e6, e7, e8, e9, e10]
  · exact R.fr.cong (fun j f _ _ _ => (by first | rfl | (simp (disch := omega) only [hp_s, hp_o', hp_k, vu_o, upd_s, upd_n]; done))) (fun f c _ _ => (by first | rfl | (simp (disch := omega) only [hp_s, hp_o', hp_k, vu_o, upd_s, upd_n]; done)))
  · exact R.ksn.cong (fun k j _ _ => (by first | rfl | (simp (disch := omega) only [hp_s, hp_o', hp_k, vu_o, upd_s, upd_n]; done))) (fun k _ _ => (by first | rfl | (simp (disch := omega) only [hp_s, hp_o', hp_k, vu_o, upd_s, upd_n]; done))) R.sn4
  · exact R.is.cong (fun k _ _ _ _ _ _ => (by first | rfl | (simp (disch := omega) only [hp_s, hp_o', hp_k, vu_o, upd_s, upd_n]; done)))
  · intro b' hb'
    obtain ⟨x1, x2, x3, x4, x5, x6⟩ := R.br b' hb'
    by_cases e : b' = b
    · subst e
      refine ⟨?_, ?_, ?_, ?_, ?_, ?_⟩ <;> first | assumption | (simp (disch := omega) only [upd_s, upd_n]; assumption)
    · refine ⟨?_, ?_, ?_, ?_, ?_, ?_⟩ <;> first | assumption | (simp (disch := omega) only [upd_s, upd_n]; assumption)
  · exact R.fi.cong (fun f c _ _ => (by first | rfl | (simp (disch := omega) only [hp_s, hp_o', hp_k, vu_o, upd_s, upd_n]; done))) R.n200
  · exact R.si.cong (fun k c _ _ => (by first | rfl | (simp (disch := omega) only [hp_s, hp_o', hp_k, vu_o, upd_s, upd_n]; done))) R.sn4
  · exact R.li.cong (fun k _ _ _ => (by first | rfl | (simp (disch := omega) only [hp_s, hp_o', hp_k, vu_o, upd_s, upd_n]; done))) (fun b' _ => (by first | rfl | (simp (disch := omega) only [hp_s, hp_o', hp_k, vu_o, upd_s, upd_n]; done))) R.my
  · exact R.lc.cong (fun j => (by first | rfl | (simp (disch := omega) only [hp_s, hp_o', hp_k, vu_o, upd_s, upd_n]; done))) (fun j => (by first | rfl | (simp (disch := omega) only [hp_s, hp_o', hp_k, vu_o, upd_s, upd_n]; done)))
  · exact R.cb.cong (fun b' j _ _ => (by first | rfl | (simp (disch := omega) only [hp_s, hp_o', hp_k, vu_o, upd_s, upd_n]; done))) (fun f c _ _ => (by first | rfl | (simp (disch := omega) only [hp_s, hp_o', hp_k, vu_o, upd_s, upd_n]; done))) (fun b' _ => (by first | rfl | (simp (disch := omega) only [hp_s, hp_o', hp_k, vu_o, upd_s, upd_n]; done)))
  · exact R.cf.cong (fun f _ => (by first | rfl | (simp (disch := omega) only [hp_s, hp_o', hp_k, vu_o, upd_s, upd_n]; done))) (by first | rfl | (simp (disch := omega) only [hp_s, hp_o', hp_k, vu_o, upd_s, upd_n]; done)) (fun f c _ _ => (by first | rfl | (simp (disch := omega) only [hp_s, hp_o', hp_k, vu_o, upd_s, upd_n]; done))) (by first | rfl | (simp (disch := omega) only [hp_s, hp_o', hp_k, vu_o, upd_s, upd_n]; done)) (fun b' _ => (by first | rfl | (simp (disch := omega) only [hp_s, hp_o', hp_k, vu_o, upd_s, upd_n]; done)))
  · exact R.el.cong R.n200 (by first | rfl | (simp (disch := omega) only [hp_s, hp_o', hp_k, vu_o, upd_s, upd_n]; done)) (fun i _ => (by first | rfl | (simp (disch := omega) only [hp_s, hp_o', hp_k, vu_o, upd_s, upd_n]; done))) (fun k _ _ => (by first | rfl | (simp (disch := omega) only [hp_s, hp_o', hp_k, vu_o, upd_s, upd_n]; done))) (fun f c _ _ => (by first | rfl | (simp (disch := omega) only [hp_s, hp_o', hp_k, vu_o, upd_s, upd_n]; done)))
  · exact R.ep.cong R.hL R.hl (fun k _ => (by first | rfl | (simp (disch := omega) only [hp_s, hp_o', hp_k, vu_o, upd_s, upd_n]; done))) (fun f c _ _ => (by first | rfl | (simp (disch := omega) only [hp_s, hp_o', hp_k, vu_o, upd_s, upd_n]; done)))
  · exact R.eh.cong R.hL2 R.sn4 (fun k _ => (by first | rfl | (simp (disch := omega) only [hp_s, hp_o', hp_k, vu_o, upd_s, upd_n]; done))) (fun f c _ _ => (by first | rfl | (simp (disch := omega) only [hp_s, hp_o', hp_k, vu_o, upd_s, upd_n]; done)))
  · exact R.wi.cong (fun j i _ _ => (by first | rfl | (simp (disch := omega) only [hp_s, hp_o', hp_k, vu_o, upd_s, upd_n]; done))) (fun k _ => (by first | rfl | (simp (disch := omega) only [hp_s, hp_o', hp_k, vu_o, upd_s, upd_n]; done)))
  · exact R.ta.cong (fun j _ => (by first | rfl | (simp (disch := omega) only [hp_s, hp_o', hp_k, vu_o, upd_s, upd_n]; done))) (fun k _ _ => (by first | rfl | (simp (disch := omega) only [hp_s, hp_o', hp_k, vu_o, upd_s, upd_n]; done)))
  · exact R.pk.cong (by first | rfl | (simp (disch := omega) only [hp_s, hp_o', hp_k, vu_o, upd_s, upd_n]; done)) (by first | rfl | (simp (disch := omega) only [hp_s, hp_o', hp_k, vu_o, upd_s, upd_n]; done))
  · exact R.kbg.cong (fun b' _ => (by first | rfl | (simp (disch := omega) only [hp_s, hp_o', hp_k, vu_o, upd_s, upd_n]; done))) (fun f c _ _ => (by first | rfl | (simp (disch := omega) only [hp_s, hp_o', hp_k, vu_o, upd_s, upd_n]; done))) (fun b' _ => (by first | rfl | (simp (disch := omega) only [hp_s, hp_o', hp_k, vu_o, upd_s, upd_n]; done)))
  · exact R.px.cong R.hL2 (fun f _ _ => (by first | rfl | (simp (disch := omega) only [hp_s, hp_o', hp_k, vu_o, upd_s, upd_n]; done)))
  · exact R.lt.cong (by first | rfl | (simp (disch := omega) only [hp_s, hp_o', hp_k, vu_o, upd_s, upd_n]; done)) (by first | rfl | (simp (disch := omega) only [hp_s, hp_o', hp_k, vu_o, upd_s, upd_n]; done))
theorem Rel.u8 (R : Rel bg rl tb m y sn Bd n N tk nw ol L h w S) {b : Nat} (hb : b < 16) (v : Int32) (hv : rg v 0 999) : Rel bg rl tb m y sn Bd n N tk nw ol L (hp h (w + 16 + 1 + b) 8 v) w (upd S (68 + 13 * b + 4) v) := by
  have hn200 := R.n200
  have hmy := R.my
  refine ⟨?_, ?_, ?_, ?_, ?_, ?_, ?_, ?_, ?_, ?_, ?_, ?_, ?_, ?_, ?_, ?_, ?_, ?_, ?_, ?_, ?_⟩
  · exact R.sc.cong (fun j _ _ => (by first | rfl | (simp (disch := omega) only [hp_s, hp_o', hp_k, vu_o, upd_s, upd_n]; done))) (by first | rfl | (simp (disch := omega) only [hp_s, hp_o', hp_k, vu_o, upd_s, upd_n]; done)) (fun j _ _ _ => (by first | rfl | (simp (disch := omega) only [hp_s, hp_o', hp_k, vu_o, upd_s, upd_n]; done))) (fun k _ _ _ _ => (by first | rfl | (simp (disch := omega) only [hp_s, hp_o', hp_k, vu_o, upd_s, upd_n]; done)))
  · intro b' hb'
    obtain ⟨e1, e2, e3, e4, e5, e6, e7, e8, e9, e10⟩ := R.bk b' hb'
    by_cases e : b' = b
    · subst e
      refine ⟨?_, ?_, ?_, ?_, ?_, ?_, ?_, ?_, ?_, ?_⟩ <;> simp (disch := omega) only [hp_s, hp_o', hp_k, vu_o, upd_s, upd_n, e1, e2, e3, e4, e5, e6, e7, e8, e9, e10]
    · refine ⟨?_, ?_, ?_, ?_, ?_, ?_, ?_, ?_, ?_, ?_⟩ <;> simp (disch := omega) only [hp_s, hp_o', hp_k, vu_o, upd_s, upd_n, e1, e2, e3, e4, e5, e6, e7, e8, e9, e10]
  · exact R.fr.cong (fun j f _ _ _ => (by first | rfl | (simp (disch := omega) only [hp_s, hp_o', hp_k, vu_o, upd_s, upd_n]; done))) (fun f c _ _ => (by first | rfl | (simp (disch := omega) only [hp_s, hp_o', hp_k, vu_o, upd_s, upd_n]; done)))
  · exact R.ksn.cong (fun k j _ _ => (by first | rfl | (simp (disch := omega) only [hp_s, hp_o', hp_k, vu_o, upd_s, upd_n]; done))) (fun k _ _ => (by first | rfl | (simp (disch := omega) only [hp_s, hp_o', hp_k, vu_o, upd_s, upd_n]; done))) R.sn4
  · exact R.is.cong (fun k _ _ _ _ _ _ => (by first | rfl | (simp (disch := omega) only [hp_s, hp_o', hp_k, vu_o, upd_s, upd_n]; done)))
  · intro b' hb'
    obtain ⟨x1, x2, x3, x4, x5, x6⟩ := R.br b' hb'
    by_cases e : b' = b
    · subst e
      refine ⟨?_, ?_, ?_, ?_, ?_, ?_⟩ <;> first | assumption | (simp (disch := omega) only [upd_s, upd_n]; assumption)
    · refine ⟨?_, ?_, ?_, ?_, ?_, ?_⟩ <;> first | assumption | (simp (disch := omega) only [upd_s, upd_n]; assumption)
  · exact R.fi.cong (fun f c _ _ => (by first | rfl | (simp (disch := omega) only [hp_s, hp_o', hp_k, vu_o, upd_s, upd_n]; done))) R.n200
  · exact R.si.cong (fun k c _ _ => (by first | rfl | (simp (disch := omega) only [hp_s, hp_o', hp_k, vu_o, upd_s, upd_n]; done))) R.sn4
  · exact R.li.cong (fun k _ _ _ => (by first | rfl | (simp (disch := omega) only [hp_s, hp_o', hp_k, vu_o, upd_s, upd_n]; done))) (fun b' _ => (by first | rfl | (simp (disch := omega) only [hp_s, hp_o', hp_k, vu_o, upd_s, upd_n]; done))) R.my
  · exact R.lc.cong (fun j => (by first | rfl | (simp (disch := omega) only [hp_s, hp_o', hp_k, vu_o, upd_s, upd_n]; done))) (fun j => (by first | rfl | (simp (disch := omega) only [hp_s, hp_o', hp_k, vu_o, upd_s, upd_n]; done)))
  · exact R.cb.cong (fun b' j _ _ => (by first | rfl | (simp (disch := omega) only [hp_s, hp_o', hp_k, vu_o, upd_s, upd_n]; done))) (fun f c _ _ => (by first | rfl | (simp (disch := omega) only [hp_s, hp_o', hp_k, vu_o, upd_s, upd_n]; done))) (fun b' _ => (by first | rfl | (simp (disch := omega) only [hp_s, hp_o', hp_k, vu_o, upd_s, upd_n]; done)))
  · exact R.cf.cong (fun f _ => (by first | rfl | (simp (disch := omega) only [hp_s, hp_o', hp_k, vu_o, upd_s, upd_n]; done))) (by first | rfl | (simp (disch := omega) only [hp_s, hp_o', hp_k, vu_o, upd_s, upd_n]; done)) (fun f c _ _ => (by first | rfl | (simp (disch := omega) only [hp_s, hp_o', hp_k, vu_o, upd_s, upd_n]; done))) (by first | rfl | (simp (disch := omega) only [hp_s, hp_o', hp_k, vu_o, upd_s, upd_n]; done)) (fun b' _ => (by first | rfl | (simp (disch := omega) only [hp_s, hp_o', hp_k, vu_o, upd_s, upd_n]; done)))
  · exact R.el.cong R.n200 (by first | rfl | (simp (disch := omega) only [hp_s, hp_o', hp_k, vu_o, upd_s, upd_n]; done)) (fun i _ => (by first | rfl | (simp (disch := omega) only [hp_s, hp_o', hp_k, vu_o, upd_s, upd_n]; done))) (fun k _ _ => (by first | rfl | (simp (disch := omega) only [hp_s, hp_o', hp_k, vu_o, upd_s, upd_n]; done))) (fun f c _ _ => (by first | rfl | (simp (disch := omega) only [hp_s, hp_o', hp_k, vu_o, upd_s, upd_n]; done)))
  · exact R.ep.cong R.hL R.hl (fun k _ => (by first | rfl | (simp (disch := omega) only [hp_s, hp_o', hp_k, vu_o, upd_s, upd_n]; done))) (fun f c _ _ => (by first | rfl | (simp (disch := omega) only [hp_s, hp_o', hp_k, vu_o, upd_s, upd_n]; done)))
  · exact R.eh.cong R.hL2 R.sn4 (fun k _ => (by first | rfl | (simp (disch := omega) only [hp_s, hp_o', hp_k, vu_o, upd_s, upd_n]; done))) (fun f c _ _ => (by first | rfl | (simp (disch := omega) only [hp_s, hp_o', hp_k, vu_o, upd_s, upd_n]; done)))
  · exact R.wi.cong (fun j i _ _ => (by first | rfl | (simp (disch := omega) only [hp_s, hp_o', hp_k, vu_o, upd_s, upd_n]; done))) (fun k _ => (by first | rfl | (simp (disch := omega) only [hp_s, hp_o', hp_k, vu_o, upd_s, upd_n]; done)))
  · exact R.ta.cong (fun j _ => (by first | rfl | (simp (disch := omega) only [hp_s, hp_o', hp_k, vu_o, upd_s, upd_n]; done))) (fun k _ _ => (by first | rfl | (simp (disch := omega) only [hp_s, hp_o', hp_k, vu_o, upd_s, upd_n]; done)))
  · exact R.pk.cong (by first | rfl | (simp (disch := omega) only [hp_s, hp_o', hp_k, vu_o, upd_s, upd_n]; done)) (by first | rfl | (simp (disch := omega) only [hp_s, hp_o', hp_k, vu_o, upd_s, upd_n]; done))
  · exact R.kbg.cong (fun b' _ => (by first | rfl | (simp (disch := omega) only [hp_s, hp_o', hp_k, vu_o, upd_s, upd_n]; done))) (fun f c _ _ => (by first | rfl | (simp (disch := omega) only [hp_s, hp_o', hp_k, vu_o, upd_s, upd_n]; done))) (fun b' _ => (by first | rfl | (simp (disch := omega) only [hp_s, hp_o', hp_k, vu_o, upd_s, upd_n]; done)))
  · exact R.px.cong R.hL2 (fun f _ _ => (by first | rfl | (simp (disch := omega) only [hp_s, hp_o', hp_k, vu_o, upd_s, upd_n]; done)))
  · exact R.lt.cong (by first | rfl | (simp (disch := omega) only [hp_s, hp_o', hp_k, vu_o, upd_s, upd_n]; done)) (by first | rfl | (simp (disch := omega) only [hp_s, hp_o', hp_k, vu_o, upd_s, upd_n]; done))
theorem Rel.u12 (R : Rel bg rl tb m y sn Bd n N tk nw ol L h w S) {b : Nat} (hb : b < 16) (v : Int32) (hv : rg v 0 1) : Rel bg rl tb m y sn Bd n N tk nw ol L (hp h (w + 16 + 1 + b) 12 v) w (upd S (68 + 13 * b + 5) v) := by
  have hn200 := R.n200
  have hmy := R.my
  refine ⟨?_, ?_, ?_, ?_, ?_, ?_, ?_, ?_, ?_, ?_, ?_, ?_, ?_, ?_, ?_, ?_, ?_, ?_, ?_, ?_, ?_⟩
  · exact R.sc.cong (fun j _ _ => (by first | rfl | (simp (disch := omega) only [hp_s, hp_o', hp_k, vu_o, upd_s, upd_n]; done))) (by first | rfl | (simp (disch := omega) only [hp_s, hp_o', hp_k, vu_o, upd_s, upd_n]; done)) (fun j _ _ _ => (by first | rfl | (simp (disch := omega) only [hp_s, hp_o', hp_k, vu_o, upd_s, upd_n]; done))) (fun k _ _ _ _ => (by first | rfl | (simp (disch := omega) only [hp_s, hp_o', hp_k, vu_o, upd_s, upd_n]; done)))
  · intro b' hb'
    obtain ⟨e1, e2, e3, e4, e5, e6, e7, e8, e9, e10⟩ := R.bk b' hb'
    by_cases e : b' = b
    · subst e
      refine ⟨?_, ?_, ?_, ?_, ?_, ?_, ?_, ?_, ?_, ?_⟩ <;> simp (disch := omega) only [hp_s, hp_o', hp_k, vu_o, upd_s, upd_n, e1, e2, e3, e4, e5, e6, e7, e8, e9, e10]
    · refine ⟨?_, ?_, ?_, ?_, ?_, ?_, ?_, ?_, ?_, ?_⟩ <;> simp (disch := omega) only [hp_s, hp_o', hp_k, vu_o, upd_s, upd_n, e1, e2, e3, e4, e5, e6, e7, e8, e9, e10]
  · exact R.fr.cong (fun j f _ _ _ => (by first | rfl | (simp (disch := omega) only [hp_s, hp_o', hp_k, vu_o, upd_s, upd_n]; done))) (fun f c _ _ => (by first | rfl | (simp (disch := omega) only [hp_s, hp_o', hp_k, vu_o, upd_s, upd_n]; done)))
  · exact R.ksn.cong (fun k j _ _ => (by first | rfl | (simp (disch := omega) only [hp_s, hp_o', hp_k, vu_o, upd_s, upd_n]; done))) (fun k _ _ => (by first | rfl | (simp (disch := omega) only [hp_s, hp_o', hp_k, vu_o, upd_s, upd_n]; done))) R.sn4
  · exact R.is.cong (fun k _ _ _ _ _ _ => (by first | rfl | (simp (disch := omega) only [hp_s, hp_o', hp_k, vu_o, upd_s, upd_n]; done)))
  · intro b' hb'
    obtain ⟨x1, x2, x3, x4, x5, x6⟩ := R.br b' hb'
    by_cases e : b' = b
    · subst e
      refine ⟨?_, ?_, ?_, ?_, ?_, ?_⟩ <;> first | assumption | (simp (disch := omega) only [upd_s, upd_n]; assumption)
    · refine ⟨?_, ?_, ?_, ?_, ?_, ?_⟩ <;> first | assumption | (simp (disch := omega) only [upd_s, upd_n]; assumption)
  · exact R.fi.cong (fun f c _ _ => (by first | rfl | (simp (disch := omega) only [hp_s, hp_o', hp_k, vu_o, upd_s, upd_n]; done))) R.n200
  · exact R.si.cong (fun k c _ _ => (by first | rfl | (simp (disch := omega) only [hp_s, hp_o', hp_k, vu_o, upd_s, upd_n]; done))) R.sn4
  · exact R.li.cong (fun k _ _ _ => (by first | rfl | (simp (disch := omega) only [hp_s, hp_o', hp_k, vu_o, upd_s, upd_n]; done))) (fun b' _ => (by first | rfl | (simp (disch := omega) only [hp_s, hp_o', hp_k, vu_o, upd_s, upd_n]; done))) R.my
  · exact R.lc.cong (fun j => (by first | rfl | (simp (disch := omega) only [hp_s, hp_o', hp_k, vu_o, upd_s, upd_n]; done))) (fun j => (by first | rfl | (simp (disch := omega) only [hp_s, hp_o', hp_k, vu_o, upd_s, upd_n]; done)))
  · exact R.cb.cong (fun b' j _ _ => (by first | rfl | (simp (disch := omega) only [hp_s, hp_o', hp_k, vu_o, upd_s, upd_n]; done))) (fun f c _ _ => (by first | rfl | (simp (disch := omega) only [hp_s, hp_o', hp_k, vu_o, upd_s, upd_n]; done))) (fun b' _ => (by first | rfl | (simp (disch := omega) only [hp_s, hp_o', hp_k, vu_o, upd_s, upd_n]; done)))
  · exact R.cf.cong (fun f _ => (by first | rfl | (simp (disch := omega) only [hp_s, hp_o', hp_k, vu_o, upd_s, upd_n]; done))) (by first | rfl | (simp (disch := omega) only [hp_s, hp_o', hp_k, vu_o, upd_s, upd_n]; done)) (fun f c _ _ => (by first | rfl | (simp (disch := omega) only [hp_s, hp_o', hp_k, vu_o, upd_s, upd_n]; done))) (by first | rfl | (simp (disch := omega) only [hp_s, hp_o', hp_k, vu_o, upd_s, upd_n]; done)) (fun b' _ => (by first | rfl | (simp (disch := omega) only [hp_s, hp_o', hp_k, vu_o, upd_s, upd_n]; done)))
  · exact R.el.cong R.n200 (by first | rfl | (simp (disch := omega) only [hp_s, hp_o', hp_k, vu_o, upd_s, upd_n]; done)) (fun i _ => (by first | rfl | (simp (disch := omega) only [hp_s, hp_o', hp_k, vu_o, upd_s, upd_n]; done))) (fun k _ _ => (by first | rfl | (simp (disch := omega) only [hp_s, hp_o', hp_k, vu_o, upd_s, upd_n]; done))) (fun f c _ _ => (by first | rfl | (simp (disch := omega) only [hp_s, hp_o', hp_k, vu_o, upd_s, upd_n]; done)))
  · exact R.ep.cong R.hL R.hl (fun k _ => (by first | rfl | (simp (disch := omega) only [hp_s, hp_o', hp_k, vu_o, upd_s, upd_n]; done))) (fun f c _ _ => (by first | rfl | (simp (disch := omega) only [hp_s, hp_o', hp_k, vu_o, upd_s, upd_n]; done)))
  · exact R.eh.cong R.hL2 R.sn4 (fun k _ => (by first | rfl | (simp (disch := omega) only [hp_s, hp_o', hp_k, vu_o, upd_s, upd_n]; done))) (fun f c _ _ => (by first | rfl | (simp (disch := omega) only [hp_s, hp_o', hp_k, vu_o, upd_s, upd_n]; done)))
  · exact R.wi.cong (fun j i _ _ => (by first | rfl | (simp (disch := omega) only [hp_s, hp_o', hp_k, vu_o, upd_s, upd_n]; done))) (fun k _ => (by first | rfl | (simp (disch := omega) only [hp_s, hp_o', hp_k, vu_o, upd_s, upd_n]; done)))
  · exact R.ta.cong (fun j _ => (by first | rfl | (simp (disch := omega) only [hp_s, hp_o', hp_k, vu_o, upd_s, upd_n]; done))) (fun k _ _ => (by first | rfl | (simp (disch := omega) only [hp_s, hp_o', hp_k, vu_o, upd_s, upd_n]; done)))
  · exact R.pk.cong (by first | rfl | (simp (disch := omega) only [hp_s, hp_o', hp_k, vu_o, upd_s, upd_n]; done)) (by first | rfl | (simp (disch := omega) only [hp_s, hp_o', hp_k, vu_o, upd_s, upd_n]; done))
  · exact R.kbg.cong (fun b' _ => (by first | rfl | (simp (disch := omega) only [hp_s, hp_o', hp_k, vu_o, upd_s, upd_n]; done))) (fun f c _ _ => (by first | rfl | (simp (disch := omega) only [hp_s, hp_o', hp_k, vu_o, upd_s, upd_n]; done))) (fun b' _ => (by first | rfl | (simp (disch := omega) only [hp_s, hp_o', hp_k, vu_o, upd_s, upd_n]; done)))
  · exact R.px.cong R.hL2 (fun f _ _ => (by first | rfl | (simp (disch := omega) only [hp_s, hp_o', hp_k, vu_o, upd_s, upd_n]; done)))
  · exact R.lt.cong (by first | rfl | (simp (disch := omega) only [hp_s, hp_o', hp_k, vu_o, upd_s, upd_n]; done)) (by first | rfl | (simp (disch := omega) only [hp_s, hp_o', hp_k, vu_o, upd_s, upd_n]; done))
theorem Rel.u9 (R : Rel bg rl tb m y sn Bd n N tk nw ol L h w S) {b : Nat} (hb : b < 16) (v : Int32)  : Rel bg rl tb m y sn Bd n N tk nw ol L (hp h (w + 16 + 1 + b) 9 v) w (upd S (68 + 13 * b + 6) v) := by
  have hn200 := R.n200
  have hmy := R.my
  refine ⟨?_, ?_, ?_, ?_, ?_, ?_, ?_, ?_, ?_, ?_, ?_, ?_, ?_, ?_, ?_, ?_, ?_, ?_, ?_, ?_, ?_⟩
  · exact R.sc.cong (fun j _ _ => (by first | rfl | (simp (disch := omega) only [hp_s, hp_o', hp_k, vu_o, upd_s, upd_n]; done))) (by first | rfl | (simp (disch := omega) only [hp_s, hp_o', hp_k, vu_o, upd_s, upd_n]; done)) (fun j _ _ _ => (by first | rfl | (simp (disch := omega) only [hp_s, hp_o', hp_k, vu_o, upd_s, upd_n]; done))) (fun k _ _ _ _ => (by first | rfl | (simp (disch := omega) only [hp_s, hp_o', hp_k, vu_o, upd_s, upd_n]; done)))
  · intro b' hb'
    obtain ⟨e1, e2, e3, e4, e5, e6, e7, e8, e9, e10⟩ := R.bk b' hb'
    by_cases e : b' = b
    · subst e
      refine ⟨?_, ?_, ?_, ?_, ?_, ?_, ?_, ?_, ?_, ?_⟩ <;> simp (disch := omega) only [hp_s, hp_o', hp_k, vu_o, upd_s, upd_n, e1, e2, e3, e4, e5, e6, e7, e8, e9, e10]
    · refine ⟨?_, ?_, ?_, ?_, ?_, ?_, ?_, ?_, ?_, ?_⟩ <;> simp (disch := omega) only [hp_s, hp_o', hp_k, vu_o, upd_s, upd_n, e1, e2, e3, e4, e5, e6, e7, e8, e9, e10]
  · exact R.fr.cong (fun j f _ _ _ => (by first | rfl | (simp (disch := omega) only [hp_s, hp_o', hp_k, vu_o, upd_s, upd_n]; done))) (fun f c _ _ => (by first | rfl | (simp (disch := omega) only [hp_s, hp_o', hp_k, vu_o, upd_s, upd_n]; done)))
  · exact R.ksn.cong (fun k j _ _ => (by first | rfl | (simp (disch := omega) only [hp_s, hp_o', hp_k, vu_o, upd_s, upd_n]; done))) (fun k _ _ => (by first | rfl | (simp (disch := omega) only [hp_s, hp_o', hp_k, vu_o, upd_s, upd_n]; done))) R.sn4
  · exact R.is.cong (fun k _ _ _ _ _ _ => (by first | rfl | (simp (disch := omega) only [hp_s, hp_o', hp_k, vu_o, upd_s, upd_n]; done)))
  · exact R.br.cong (fun b' c _ _ => (by first | rfl | (simp (disch := omega) only [hp_s, hp_o', hp_k, vu_o, upd_s, upd_n]; done)))
  · exact R.fi.cong (fun f c _ _ => (by first | rfl | (simp (disch := omega) only [hp_s, hp_o', hp_k, vu_o, upd_s, upd_n]; done))) R.n200
  · exact R.si.cong (fun k c _ _ => (by first | rfl | (simp (disch := omega) only [hp_s, hp_o', hp_k, vu_o, upd_s, upd_n]; done))) R.sn4
  · exact R.li.cong (fun k _ _ _ => (by first | rfl | (simp (disch := omega) only [hp_s, hp_o', hp_k, vu_o, upd_s, upd_n]; done))) (fun b' _ => (by first | rfl | (simp (disch := omega) only [hp_s, hp_o', hp_k, vu_o, upd_s, upd_n]; done))) R.my
  · exact R.lc.cong (fun j => (by first | rfl | (simp (disch := omega) only [hp_s, hp_o', hp_k, vu_o, upd_s, upd_n]; done))) (fun j => (by first | rfl | (simp (disch := omega) only [hp_s, hp_o', hp_k, vu_o, upd_s, upd_n]; done)))
  · exact R.cb.cong (fun b' j _ _ => (by first | rfl | (simp (disch := omega) only [hp_s, hp_o', hp_k, vu_o, upd_s, upd_n]; done))) (fun f c _ _ => (by first | rfl | (simp (disch := omega) only [hp_s, hp_o', hp_k, vu_o, upd_s, upd_n]; done))) (fun b' _ => (by first | rfl | (simp (disch := omega) only [hp_s, hp_o', hp_k, vu_o, upd_s, upd_n]; done)))
  · exact R.cf.cong (fun f _ => (by first | rfl | (simp (disch := omega) only [hp_s, hp_o', hp_k, vu_o, upd_s, upd_n]; done))) (by first | rfl | (simp (disch := omega) only [hp_s, hp_o', hp_k, vu_o, upd_s, upd_n]; done)) (fun f c _ _ => (by first | rfl | (simp (disch := omega) only [hp_s, hp_o', hp_k, vu_o, upd_s, upd_n]; done))) (by first | rfl | (simp (disch := omega) only [hp_s, hp_o', hp_k, vu_o, upd_s, upd_n]; done)) (fun b' _ => (by first | rfl | (simp (disch := omega) only [hp_s, hp_o', hp_k, vu_o, upd_s, upd_n]; done)))
  · exact R.el.cong R.n200 (by first | rfl | (simp (disch := omega) only [hp_s, hp_o', hp_k, vu_o, upd_s, upd_n]; done)) (fun i _ => (by first | rfl | (simp (disch := omega) only [hp_s, hp_o', hp_k, vu_o, upd_s, upd_n]; done))) (fun k _ _ => (by first | rfl | (simp (disch := omega) only [hp_s, hp_o', hp_k, vu_o, upd_s, upd_n]; done))) (fun f c _ _ => (by first | rfl | (simp (disch := omega) only [hp_s, hp_o', hp_k, vu_o, upd_s, upd_n]; done)))
  · exact R.ep.cong R.hL R.hl (fun k _ => (by first | rfl | (simp (disch := omega) only [hp_s, hp_o', hp_k, vu_o, upd_s, upd_n]; done))) (fun f c _ _ => (by first | rfl | (simp (disch := omega) only [hp_s, hp_o', hp_k, vu_o, upd_s, upd_n]; done)))
  · exact R.eh.cong R.hL2 R.sn4 (fun k _ => (by first | rfl | (simp (disch := omega) only [hp_s, hp_o', hp_k, vu_o, upd_s, upd_n]; done))) (fun f c _ _ => (by first | rfl | (simp (disch := omega) only [hp_s, hp_o', hp_k, vu_o, upd_s, upd_n]; done)))
  · exact R.wi.cong (fun j i _ _ => (by first | rfl | (simp (disch := omega) only [hp_s, hp_o', hp_k, vu_o, upd_s, upd_n]; done))) (fun k _ => (by first | rfl | (simp (disch := omega) only [hp_s, hp_o', hp_k, vu_o, upd_s, upd_n]; done)))
  · exact R.ta.cong (fun j _ => (by first | rfl | (simp (disch := omega) only [hp_s, hp_o', hp_k, vu_o, upd_s, upd_n]; done))) (fun k _ _ => (by first | rfl | (simp (disch := omega) only [hp_s, hp_o', hp_k, vu_o, upd_s, upd_n]; done)))
  · exact R.pk.cong (by first | rfl | (simp (disch := omega) only [hp_s, hp_o', hp_k, vu_o, upd_s, upd_n]; done)) (by first | rfl | (simp (disch := omega) only [hp_s, hp_o', hp_k, vu_o, upd_s, upd_n]; done))
  · exact R.kbg.cong (fun b' _ => (by first | rfl | (simp (disch := omega) only [hp_s, hp_o', hp_k, vu_o, upd_s, upd_n]; done))) (fun f c _ _ => (by first | rfl | (simp (disch := omega) only [hp_s, hp_o', hp_k, vu_o, upd_s, upd_n]; done))) (fun b' _ => (by first | rfl | (simp (disch := omega) only [hp_s, hp_o', hp_k, vu_o, upd_s, upd_n]; done)))
  · exact R.px.cong R.hL2 (fun f _ _ => (by first | rfl | (simp (disch := omega) only [hp_s, hp_o', hp_k, vu_o, upd_s, upd_n]; done)))
  · exact R.lt.cong (by first | rfl | (simp (disch := omega) only [hp_s, hp_o', hp_k, vu_o, upd_s, upd_n]; done)) (by first | rfl | (simp (disch := omega) only [hp_s, hp_o', hp_k, vu_o, upd_s, upd_n]; done))
theorem Rel.u10 (R : Rel bg rl tb m y sn Bd n N tk nw ol L h w S) {b : Nat} (hb : b < 16) (v : Int32)  : Rel bg rl tb m y sn Bd n N tk nw ol L (hp h (w + 16 + 1 + b) 10 v) w (upd S (68 + 13 * b + 7) v) := by
  have hn200 := R.n200
  have hmy := R.my
  refine ⟨?_, ?_, ?_, ?_, ?_, ?_, ?_, ?_, ?_, ?_, ?_, ?_, ?_, ?_, ?_, ?_, ?_, ?_, ?_, ?_, ?_⟩
  · exact R.sc.cong (fun j _ _ => (by first | rfl | (simp (disch := omega) only [hp_s, hp_o', hp_k, vu_o, upd_s, upd_n]; done))) (by first | rfl | (simp (disch := omega) only [hp_s, hp_o', hp_k, vu_o, upd_s, upd_n]; done)) (fun j _ _ _ => (by first | rfl | (simp (disch := omega) only [hp_s, hp_o', hp_k, vu_o, upd_s, upd_n]; done))) (fun k _ _ _ _ => (by first | rfl | (simp (disch := omega) only [hp_s, hp_o', hp_k, vu_o, upd_s, upd_n]; done)))
  · intro b' hb'
    obtain ⟨e1, e2, e3, e4, e5, e6, e7, e8, e9, e10⟩ := R.bk b' hb'
    by_cases e : b' = b
    · subst e
      refine ⟨?_, ?_, ?_, ?_, ?_, ?_, ?_, ?_, ?_, ?_⟩ <;> simp (disch := omega) only [hp_s, hp_o', hp_k, vu_o, upd_s, upd_n, e1, e2, e3, e4, e5, e6, e7, e8, e9, e10]
    · refine ⟨?_, ?_, ?_, ?_, ?_, ?_, ?_, ?_, ?_, ?_⟩ <;> simp (disch := omega) only [hp_s, hp_o', hp_k, vu_o, upd_s, upd_n, e1, e2, e3, e4, e5, e6, e7, e8, e9, e10]
  · exact R.fr.cong (fun j f _ _ _ => (by first | rfl | (simp (disch := omega) only [hp_s, hp_o', hp_k, vu_o, upd_s, upd_n]; done))) (fun f c _ _ => (by first | rfl | (simp (disch := omega) only [hp_s, hp_o', hp_k, vu_o, upd_s, upd_n]; done)))
  · exact R.ksn.cong (fun k j _ _ => (by first | rfl | (simp (disch := omega) only [hp_s, hp_o', hp_k, vu_o, upd_s, upd_n]; done))) (fun k _ _ => (by first | rfl | (simp (disch := omega) only [hp_s, hp_o', hp_k, vu_o, upd_s, upd_n]; done))) R.sn4
  · exact R.is.cong (fun k _ _ _ _ _ _ => (by first | rfl | (simp (disch := omega) only [hp_s, hp_o', hp_k, vu_o, upd_s, upd_n]; done)))
  · exact R.br.cong (fun b' c _ _ => (by first | rfl | (simp (disch := omega) only [hp_s, hp_o', hp_k, vu_o, upd_s, upd_n]; done)))
  · exact R.fi.cong (fun f c _ _ => (by first | rfl | (simp (disch := omega) only [hp_s, hp_o', hp_k, vu_o, upd_s, upd_n]; done))) R.n200
  · exact R.si.cong (fun k c _ _ => (by first | rfl | (simp (disch := omega) only [hp_s, hp_o', hp_k, vu_o, upd_s, upd_n]; done))) R.sn4
  · exact R.li.cong (fun k _ _ _ => (by first | rfl | (simp (disch := omega) only [hp_s, hp_o', hp_k, vu_o, upd_s, upd_n]; done))) (fun b' _ => (by first | rfl | (simp (disch := omega) only [hp_s, hp_o', hp_k, vu_o, upd_s, upd_n]; done))) R.my
  · exact R.lc.cong (fun j => (by first | rfl | (simp (disch := omega) only [hp_s, hp_o', hp_k, vu_o, upd_s, upd_n]; done))) (fun j => (by first | rfl | (simp (disch := omega) only [hp_s, hp_o', hp_k, vu_o, upd_s, upd_n]; done)))
  · exact R.cb.cong (fun b' j _ _ => (by first | rfl | (simp (disch := omega) only [hp_s, hp_o', hp_k, vu_o, upd_s, upd_n]; done))) (fun f c _ _ => (by first | rfl | (simp (disch := omega) only [hp_s, hp_o', hp_k, vu_o, upd_s, upd_n]; done))) (fun b' _ => (by first | rfl | (simp (disch := omega) only [hp_s, hp_o', hp_k, vu_o, upd_s, upd_n]; done)))
  · exact R.cf.cong (fun f _ => (by first | rfl | (simp (disch := omega) only [hp_s, hp_o', hp_k, vu_o, upd_s, upd_n]; done))) (by first | rfl | (simp (disch := omega) only [hp_s, hp_o', hp_k, vu_o, upd_s, upd_n]; done)) (fun f c _ _ => (by first | rfl | (simp (disch := omega) only [hp_s, hp_o', hp_k, vu_o, upd_s, upd_n]; done))) (by first | rfl | (simp (disch := omega) only [hp_s, hp_o', hp_k, vu_o, upd_s, upd_n]; done)) (fun b' _ => (by first | rfl | (simp (disch := omega) only [hp_s, hp_o', hp_k, vu_o, upd_s, upd_n]; done)))
  · exact R.el.cong R.n200 (by first | rfl | (simp (disch := omega) only [hp_s, hp_o', hp_k, vu_o, upd_s, upd_n]; done)) (fun i _ => (by first | rfl | (simp (disch := omega) only [hp_s, hp_o', hp_k, vu_o, upd_s, upd_n]; done))) (fun k _ _ => (by first | rfl | (simp (disch := omega) only [hp_s, hp_o', hp_k, vu_o, upd_s, upd_n]; done))) (fun f c _ _ => (by first | rfl | (simp (disch := omega) only [hp_s, hp_o', hp_k, vu_o, upd_s, upd_n]; done)))
  · exact R.ep.cong R.hL R.hl (fun k _ => (by first | rfl | (simp (disch := omega) only [hp_s, hp_o', hp_k, vu_o, upd_s, upd_n]; done))) (fun f c _ _ => (by first | rfl | (simp (disch := omega) only [hp_s, hp_o', hp_k, vu_o, upd_s, upd_n]; done)))
  · exact R.eh.cong R.hL2 R.sn4 (fun k _ => (by first | rfl | (simp (disch := omega) only [hp_s, hp_o', hp_k, vu_o, upd_s, upd_n]; done))) (fun f c _ _ => (by first | rfl | (simp (disch := omega) only [hp_s, hp_o', hp_k, vu_o, upd_s, upd_n]; done)))
  · exact R.wi.cong (fun j i _ _ => (by first | rfl | (simp (disch := omega) only [hp_s, hp_o', hp_k, vu_o, upd_s, upd_n]; done))) (fun k _ => (by first | rfl | (simp (disch := omega) only [hp_s, hp_o', hp_k, vu_o, upd_s, upd_n]; done)))
  · exact R.ta.cong (fun j _ => (by first | rfl | (simp (disch := omega) only [hp_s, hp_o', hp_k, vu_o, upd_s, upd_n]; done))) (fun k _ _ => (by first | rfl | (simp (disch := omega) only [hp_s, hp_o', hp_k, vu_o, upd_s, upd_n]; done)))
  · exact R.pk.cong (by first | rfl | (simp (disch := omega) only [hp_s, hp_o', hp_k, vu_o, upd_s, upd_n]; done)) (by first | rfl | (simp (disch := omega) only [hp_s, hp_o', hp_k, vu_o, upd_s, upd_n]; done))
  · exact R.kbg.cong (fun b' _ => (by first | rfl | (simp (disch := omega) only [hp_s, hp_o', hp_k, vu_o, upd_s, upd_n]; done))) (fun f c _ _ => (by first | rfl | (simp (disch := omega) only [hp_s, hp_o', hp_k, vu_o, upd_s, upd_n]; done))) (fun b' _ => (by first | rfl | (simp (disch := omega) only [hp_s, hp_o', hp_k, vu_o, upd_s, upd_n]; done)))
  · exact R.px.cong R.hL2 (fun f _ _ => (by first | rfl | (simp (disch := omega) only [hp_s, hp_o', hp_k, vu_o, upd_s, upd_n]; done)))
  · exact R.lt.cong (by first | rfl | (simp (disch := omega) only [hp_s, hp_o', hp_k, vu_o, upd_s, upd_n]; done)) (by first | rfl | (simp (disch := omega) only [hp_s, hp_o', hp_k, vu_o, upd_s, upd_n]; done))
theorem Rel.u11 (R : Rel bg rl tb m y sn Bd n N tk nw ol L h w S) {b : Nat} (hb : b < 16) (v : Int32) (hv : rg v 1 65535) : Rel bg rl tb m y sn Bd n N tk nw ol L (hp h (w + 16 + 1 + b) 11 v) w (upd S (68 + 13 * b + 8) v) := by
  have hn200 := R.n200
  have hmy := R.my
  refine ⟨?_, ?_, ?_, ?_, ?_, ?_, ?_, ?_, ?_, ?_, ?_, ?_, ?_, ?_, ?_, ?_, ?_, ?_, ?_, ?_, ?_⟩
  · exact R.sc.cong (fun j _ _ => (by first | rfl | (simp (disch := omega) only [hp_s, hp_o', hp_k, vu_o, upd_s, upd_n]; done))) (by first | rfl | (simp (disch := omega) only [hp_s, hp_o', hp_k, vu_o, upd_s, upd_n]; done)) (fun j _ _ _ => (by first | rfl | (simp (disch := omega) only [hp_s, hp_o', hp_k, vu_o, upd_s, upd_n]; done))) (fun k _ _ _ _ => (by first | rfl | (simp (disch := omega) only [hp_s, hp_o', hp_k, vu_o, upd_s, upd_n]; done)))
  · intro b' hb'
    obtain ⟨e1, e2, e3, e4, e5, e6, e7, e8, e9, e10⟩ := R.bk b' hb'
    by_cases e : b' = b
    · subst e
      refine ⟨?_, ?_, ?_, ?_, ?_, ?_, ?_, ?_, ?_, ?_⟩ <;> simp (disch := omega) only [hp_s, hp_o', hp_k, vu_o, upd_s, upd_n, e1, e2, e3, e4, e5, e6, e7, e8, e9, e10]
    · refine ⟨?_, ?_, ?_, ?_, ?_, ?_, ?_, ?_, ?_, ?_⟩ <;> simp (disch := omega) only [hp_s, hp_o', hp_k, vu_o, upd_s, upd_n, e1, e2, e3, e4, e5, e6, e7, e8, e9, e10]
  · exact R.fr.cong (fun j f _ _ _ => (by first | rfl | (simp (disch := omega) only [hp_s, hp_o', hp_k, vu_o, upd_s, upd_n]; done))) (fun f c _ _ => (by first | rfl | (simp (disch := omega) only [hp_s, hp_o', hp_k, vu_o, upd_s, upd_n]; done)))
  · exact R.ksn.cong (fun k j _ _ => (by first | rfl | (simp (disch := omega) only [hp_s, hp_o', hp_k, vu_o, upd_s, upd_n]; done))) (fun k _ _ => (by first | rfl | (simp (disch := omega) only [hp_s, hp_o', hp_k, vu_o, upd_s, upd_n]; done))) R.sn4
  · exact R.is.cong (fun k _ _ _ _ _ _ => (by first | rfl | (simp (disch := omega) only [hp_s, hp_o', hp_k, vu_o, upd_s, upd_n]; done)))
  · intro b' hb'
    obtain ⟨x1, x2, x3, x4, x5, x6⟩ := R.br b' hb'
    by_cases e : b' = b
    · subst e
      refine ⟨?_, ?_, ?_, ?_, ?_, ?_⟩ <;> first | assumption | (simp (disch := omega) only [upd_s, upd_n]; assumption)
    · refine ⟨?_, ?_, ?_, ?_, ?_, ?_⟩ <;> first | assumption | (simp (disch := omega) only [upd_s, upd_n]; assumption)
  · exact R.fi.cong (fun f c _ _ => (by first | rfl | (simp (disch := omega) only [hp_s, hp_o', hp_k, vu_o, upd_s, upd_n]; done))) R.n200
  · exact R.si.cong (fun k c _ _ => (by first | rfl | (simp (disch := omega) only [hp_s, hp_o', hp_k, vu_o, upd_s, upd_n]; done))) R.sn4
  · exact R.li.cong (fun k _ _ _ => (by first | rfl | (simp (disch := omega) only [hp_s, hp_o', hp_k, vu_o, upd_s, upd_n]; done))) (fun b' _ => (by first | rfl | (simp (disch := omega) only [hp_s, hp_o', hp_k, vu_o, upd_s, upd_n]; done))) R.my
  · exact R.lc.cong (fun j => (by first | rfl | (simp (disch := omega) only [hp_s, hp_o', hp_k, vu_o, upd_s, upd_n]; done))) (fun j => (by first | rfl | (simp (disch := omega) only [hp_s, hp_o', hp_k, vu_o, upd_s, upd_n]; done)))
  · exact R.cb.cong (fun b' j _ _ => (by first | rfl | (simp (disch := omega) only [hp_s, hp_o', hp_k, vu_o, upd_s, upd_n]; done))) (fun f c _ _ => (by first | rfl | (simp (disch := omega) only [hp_s, hp_o', hp_k, vu_o, upd_s, upd_n]; done))) (fun b' _ => (by first | rfl | (simp (disch := omega) only [hp_s, hp_o', hp_k, vu_o, upd_s, upd_n]; done)))
  · exact R.cf.cong (fun f _ => (by first | rfl | (simp (disch := omega) only [hp_s, hp_o', hp_k, vu_o, upd_s, upd_n]; done))) (by first | rfl | (simp (disch := omega) only [hp_s, hp_o', hp_k, vu_o, upd_s, upd_n]; done)) (fun f c _ _ => (by first | rfl | (simp (disch := omega) only [hp_s, hp_o', hp_k, vu_o, upd_s, upd_n]; done))) (by first | rfl | (simp (disch := omega) only [hp_s, hp_o', hp_k, vu_o, upd_s, upd_n]; done)) (fun b' _ => (by first | rfl | (simp (disch := omega) only [hp_s, hp_o', hp_k, vu_o, upd_s, upd_n]; done)))
  · exact R.el.cong R.n200 (by first | rfl | (simp (disch := omega) only [hp_s, hp_o', hp_k, vu_o, upd_s, upd_n]; done)) (fun i _ => (by first | rfl | (simp (disch := omega) only [hp_s, hp_o', hp_k, vu_o, upd_s, upd_n]; done))) (fun k _ _ => (by first | rfl | (simp (disch := omega) only [hp_s, hp_o', hp_k, vu_o, upd_s, upd_n]; done))) (fun f c _ _ => (by first | rfl | (simp (disch := omega) only [hp_s, hp_o', hp_k, vu_o, upd_s, upd_n]; done)))
  · exact R.ep.cong R.hL R.hl (fun k _ => (by first | rfl | (simp (disch := omega) only [hp_s, hp_o', hp_k, vu_o, upd_s, upd_n]; done))) (fun f c _ _ => (by first | rfl | (simp (disch := omega) only [hp_s, hp_o', hp_k, vu_o, upd_s, upd_n]; done)))
  · exact R.eh.cong R.hL2 R.sn4 (fun k _ => (by first | rfl | (simp (disch := omega) only [hp_s, hp_o', hp_k, vu_o, upd_s, upd_n]; done))) (fun f c _ _ => (by first | rfl | (simp (disch := omega) only [hp_s, hp_o', hp_k, vu_o, upd_s, upd_n]; done)))
  · exact R.wi.cong (fun j i _ _ => (by first | rfl | (simp (disch := omega) only [hp_s, hp_o', hp_k, vu_o, upd_s, upd_n]; done))) (fun k _ => (by first | rfl | (simp (disch := omega) only [hp_s, hp_o', hp_k, vu_o, upd_s, upd_n]; done)))
  · exact R.ta.cong (fun j _ => (by first | rfl | (simp (disch := omega) only [hp_s, hp_o', hp_k, vu_o, upd_s, upd_n]; done))) (fun k _ _ => (by first | rfl | (simp (disch := omega) only [hp_s, hp_o', hp_k, vu_o, upd_s, upd_n]; done)))
  · exact R.pk.cong (by first | rfl | (simp (disch := omega) only [hp_s, hp_o', hp_k, vu_o, upd_s, upd_n]; done)) (by first | rfl | (simp (disch := omega) only [hp_s, hp_o', hp_k, vu_o, upd_s, upd_n]; done))
  · exact R.kbg.cong (fun b' _ => (by first | rfl | (simp (disch := omega) only [hp_s, hp_o', hp_k, vu_o, upd_s, upd_n]; done))) (fun f c _ _ => (by first | rfl | (simp (disch := omega) only [hp_s, hp_o', hp_k, vu_o, upd_s, upd_n]; done))) (fun b' _ => (by first | rfl | (simp (disch := omega) only [hp_s, hp_o', hp_k, vu_o, upd_s, upd_n]; done)))
  · exact R.px.cong R.hL2 (fun f _ _ => (by first | rfl | (simp (disch := omega) only [hp_s, hp_o', hp_k, vu_o, upd_s, upd_n]; done)))
  · exact R.lt.cong (by first | rfl | (simp (disch := omega) only [hp_s, hp_o', hp_k, vu_o, upd_s, upd_n]; done)) (by first | rfl | (simp (disch := omega) only [hp_s, hp_o', hp_k, vu_o, upd_s, upd_n]; done))
theorem Rel.u5 (R : Rel bg rl tb m y sn Bd n N tk nw ol L h w S) {b : Nat} (hb : b < 16) (v : Int32) (hv1 : -1500 ≤ v.toInt) (hv2 : v.toInt ≤ 3000) : Rel bg rl tb m y sn Bd n N tk nw ol L (hp h (w + 16 + 1 + b) 5 v) w (upd S (68 + 13 * b + 1) v) := by
  have hn200 := R.n200
  have hmy := R.my
  refine ⟨?_, ?_, ?_, ?_, ?_, ?_, ?_, ?_, ?_, ?_, ?_, ?_, ?_, ?_, ?_, ?_, ?_, ?_, ?_, ?_, ?_⟩
  · exact R.sc.cong (fun j _ _ => (by first | rfl | (simp (disch := omega) only [hp_s, hp_o', hp_k, vu_o, upd_s, upd_n]; done))) (by first | rfl | (simp (disch := omega) only [hp_s, hp_o', hp_k, vu_o, upd_s, upd_n]; done)) (fun j _ _ _ => (by first | rfl | (simp (disch := omega) only [hp_s, hp_o', hp_k, vu_o, upd_s, upd_n]; done))) (fun k _ _ _ _ => (by first | rfl | (simp (disch := omega) only [hp_s, hp_o', hp_k, vu_o, upd_s, upd_n]; done)))
  · intro b' hb'
    obtain ⟨e1, e2, e3, e4, e5, e6, e7, e8, e9, e10⟩ := R.bk b' hb'
    by_cases e : b' = b
    · subst e
      refine ⟨?_, ?_, ?_, ?_, ?_, ?_, ?_, ?_, ?_, ?_⟩ <;> simp (disch := omega) only [hp_s, hp_o', hp_k, vu_o, upd_s, upd_n, e1, e2, e3, e4, e5, e6, e7, e8, e9, e10]
    · refine ⟨?_, ?_, ?_, ?_, ?_, ?_, ?_, ?_, ?_, ?_⟩ <;> simp (disch := omega) only [hp_s, hp_o', hp_k, vu_o, upd_s, upd_n, e1, e2, e3, e4, e5, e6, e7, e8, e9, e10]
  · exact R.fr.cong (fun j f _ _ _ => (by first | rfl | (simp (disch := omega) only [hp_s, hp_o', hp_k, vu_o, upd_s, upd_n]; done))) (fun f c _ _ => (by first | rfl | (simp (disch := omega) only [hp_s, hp_o', hp_k, vu_o, upd_s, upd_n]; done)))
  · exact R.ksn.cong (fun k j _ _ => (by first | rfl | (simp (disch := omega) only [hp_s, hp_o', hp_k, vu_o, upd_s, upd_n]; done))) (fun k _ _ => (by first | rfl | (simp (disch := omega) only [hp_s, hp_o', hp_k, vu_o, upd_s, upd_n]; done))) R.sn4
  · exact R.is.cong (fun k _ _ _ _ _ _ => (by first | rfl | (simp (disch := omega) only [hp_s, hp_o', hp_k, vu_o, upd_s, upd_n]; done)))
  · intro b' hb'
    obtain ⟨x1, x2, x3, x4, x5, x6⟩ := R.br b' hb'
    by_cases e : b' = b
    · subst e
      refine ⟨?_, ?_, ?_, ?_, ?_, ?_⟩ <;> first | assumption | (simp (disch := omega) only [upd_s, upd_n]; assumption)
    · refine ⟨?_, ?_, ?_, ?_, ?_, ?_⟩ <;> first | assumption | (simp (disch := omega) only [upd_s, upd_n]; assumption)
  · exact R.fi.cong (fun f c _ _ => (by first | rfl | (simp (disch := omega) only [hp_s, hp_o', hp_k, vu_o, upd_s, upd_n]; done))) R.n200
  · exact R.si.cong (fun k c _ _ => (by first | rfl | (simp (disch := omega) only [hp_s, hp_o', hp_k, vu_o, upd_s, upd_n]; done))) R.sn4
  · exact R.li.cong (fun k _ _ _ => (by first | rfl | (simp (disch := omega) only [hp_s, hp_o', hp_k, vu_o, upd_s, upd_n]; done))) (fun b' _ => (by first | rfl | (simp (disch := omega) only [hp_s, hp_o', hp_k, vu_o, upd_s, upd_n]; done))) R.my
  · exact R.lc.cong (fun j => (by first | rfl | (simp (disch := omega) only [hp_s, hp_o', hp_k, vu_o, upd_s, upd_n]; done))) (fun j => (by first | rfl | (simp (disch := omega) only [hp_s, hp_o', hp_k, vu_o, upd_s, upd_n]; done)))
  · exact R.cb.cong (fun b' j _ _ => (by first | rfl | (simp (disch := omega) only [hp_s, hp_o', hp_k, vu_o, upd_s, upd_n]; done))) (fun f c _ _ => (by first | rfl | (simp (disch := omega) only [hp_s, hp_o', hp_k, vu_o, upd_s, upd_n]; done))) (fun b' _ => (by first | rfl | (simp (disch := omega) only [hp_s, hp_o', hp_k, vu_o, upd_s, upd_n]; done)))
  · exact R.cf.cong (fun f _ => (by first | rfl | (simp (disch := omega) only [hp_s, hp_o', hp_k, vu_o, upd_s, upd_n]; done))) (by first | rfl | (simp (disch := omega) only [hp_s, hp_o', hp_k, vu_o, upd_s, upd_n]; done)) (fun f c _ _ => (by first | rfl | (simp (disch := omega) only [hp_s, hp_o', hp_k, vu_o, upd_s, upd_n]; done))) (by first | rfl | (simp (disch := omega) only [hp_s, hp_o', hp_k, vu_o, upd_s, upd_n]; done)) (fun b' _ => (by first | rfl | (simp (disch := omega) only [hp_s, hp_o', hp_k, vu_o, upd_s, upd_n]; done)))
  · exact R.el.cong R.n200 (by first | rfl | (simp (disch := omega) only [hp_s, hp_o', hp_k, vu_o, upd_s, upd_n]; done)) (fun i _ => (by first | rfl | (simp (disch := omega) only [hp_s, hp_o', hp_k, vu_o, upd_s, upd_n]; done))) (fun k _ _ => (by first | rfl | (simp (disch := omega) only [hp_s, hp_o', hp_k, vu_o, upd_s, upd_n]; done))) (fun f c _ _ => (by first | rfl | (simp (disch := omega) only [hp_s, hp_o', hp_k, vu_o, upd_s, upd_n]; done)))
  · exact R.ep.cong R.hL R.hl (fun k _ => (by first | rfl | (simp (disch := omega) only [hp_s, hp_o', hp_k, vu_o, upd_s, upd_n]; done))) (fun f c _ _ => (by first | rfl | (simp (disch := omega) only [hp_s, hp_o', hp_k, vu_o, upd_s, upd_n]; done)))
  · exact R.eh.cong R.hL2 R.sn4 (fun k _ => (by first | rfl | (simp (disch := omega) only [hp_s, hp_o', hp_k, vu_o, upd_s, upd_n]; done))) (fun f c _ _ => (by first | rfl | (simp (disch := omega) only [hp_s, hp_o', hp_k, vu_o, upd_s, upd_n]; done)))
  · exact R.wi.cong (fun j i _ _ => (by first | rfl | (simp (disch := omega) only [hp_s, hp_o', hp_k, vu_o, upd_s, upd_n]; done))) (fun k _ => (by first | rfl | (simp (disch := omega) only [hp_s, hp_o', hp_k, vu_o, upd_s, upd_n]; done)))
  · exact R.ta.cong (fun j _ => (by first | rfl | (simp (disch := omega) only [hp_s, hp_o', hp_k, vu_o, upd_s, upd_n]; done))) (fun k _ _ => (by first | rfl | (simp (disch := omega) only [hp_s, hp_o', hp_k, vu_o, upd_s, upd_n]; done)))
  · exact R.pk.cong (by first | rfl | (simp (disch := omega) only [hp_s, hp_o', hp_k, vu_o, upd_s, upd_n]; done)) (by first | rfl | (simp (disch := omega) only [hp_s, hp_o', hp_k, vu_o, upd_s, upd_n]; done))
  · exact R.kbg.cong (fun b' _ => (by first | rfl | (simp (disch := omega) only [hp_s, hp_o', hp_k, vu_o, upd_s, upd_n]; done))) (fun f c _ _ => (by first | rfl | (simp (disch := omega) only [hp_s, hp_o', hp_k, vu_o, upd_s, upd_n]; done))) (fun b' _ => (by first | rfl | (simp (disch := omega) only [hp_s, hp_o', hp_k, vu_o, upd_s, upd_n]; done)))
  · exact R.px.cong R.hL2 (fun f _ _ => (by first | rfl | (simp (disch := omega) only [hp_s, hp_o', hp_k, vu_o, upd_s, upd_n]; done)))
  · exact R.lt.cong (by first | rfl | (simp (disch := omega) only [hp_s, hp_o', hp_k, vu_o, upd_s, upd_n]; done)) (by first | rfl | (simp (disch := omega) only [hp_s, hp_o', hp_k, vu_o, upd_s, upd_n]; done))
theorem Rel.late (R : Rel bg rl tb m y sn Bd n N tk nw ol L h w S) (v : Int32) : Rel bg rl tb m y sn Bd n N tk nw ol L (hp h w 11 v) w S := by
  have hn200 := R.n200
  have hmy := R.my
  refine ⟨?_, ?_, ?_, ?_, ?_, ?_, ?_, ?_, ?_, ?_, ?_, ?_, ?_, ?_, ?_, ?_, ?_, ?_, ?_, ?_, ?_⟩
  · exact R.sc.cong (fun j _ _ => (by first | rfl | (simp (disch := omega) only [hp_s, hp_o', hp_k, vu_o, upd_s, upd_n]; done))) (by first | rfl | (simp (disch := omega) only [hp_s, hp_o', hp_k, vu_o, upd_s, upd_n]; done)) (fun j _ _ _ => (by first | rfl | (simp (disch := omega) only [hp_s, hp_o', hp_k, vu_o, upd_s, upd_n]; done))) (fun k _ _ _ _ => (by first | rfl | (simp (disch := omega) only [hp_s, hp_o', hp_k, vu_o, upd_s, upd_n]; done)))
  · exact R.bk.cong (fun b' j _ _ => (by first | rfl | (simp (disch := omega) only [hp_s, hp_o', hp_k, vu_o, upd_s, upd_n]; done))) (fun b' c _ _ => (by first | rfl | (simp (disch := omega) only [hp_s, hp_o', hp_k, vu_o, upd_s, upd_n]; done)))
  · exact R.fr.cong (fun j f _ _ _ => (by first | rfl | (simp (disch := omega) only [hp_s, hp_o', hp_k, vu_o, upd_s, upd_n]; done))) (fun f c _ _ => (by first | rfl | (simp (disch := omega) only [hp_s, hp_o', hp_k, vu_o, upd_s, upd_n]; done)))
  · exact R.ksn.cong (fun k j _ _ => (by first | rfl | (simp (disch := omega) only [hp_s, hp_o', hp_k, vu_o, upd_s, upd_n]; done))) (fun k _ _ => (by first | rfl | (simp (disch := omega) only [hp_s, hp_o', hp_k, vu_o, upd_s, upd_n]; done))) R.sn4
  · exact R.is.cong (fun k _ _ _ _ _ _ => (by first | rfl | (simp (disch := omega) only [hp_s, hp_o', hp_k, vu_o, upd_s, upd_n]; done)))
  · exact R.br.cong (fun b' c _ _ => (by first | rfl | (simp (disch := omega) only [hp_s, hp_o', hp_k, vu_o, upd_s, upd_n]; done)))
  · exact R.fi.cong (fun f c _ _ => (by first | rfl | (simp (disch := omega) only [hp_s, hp_o', hp_k, vu_o, upd_s, upd_n]; done))) R.n200
  · exact R.si.cong (fun k c _ _ => (by first | rfl | (simp (disch := omega) only [hp_s, hp_o', hp_k, vu_o, upd_s, upd_n]; done))) R.sn4
  · exact R.li.cong (fun k _ _ _ => (by first | rfl | (simp (disch := omega) only [hp_s, hp_o', hp_k, vu_o, upd_s, upd_n]; done))) (fun b' _ => (by first | rfl | (simp (disch := omega) only [hp_s, hp_o', hp_k, vu_o, upd_s, upd_n]; done))) R.my
  · exact R.lc.cong (fun j => (by first | rfl | (simp (disch := omega) only [hp_s, hp_o', hp_k, vu_o, upd_s, upd_n]; done))) (fun j => (by first | rfl | (simp (disch := omega) only [hp_s, hp_o', hp_k, vu_o, upd_s, upd_n]; done)))
  · exact R.cb.cong (fun b' j _ _ => (by first | rfl | (simp (disch := omega) only [hp_s, hp_o', hp_k, vu_o, upd_s, upd_n]; done))) (fun f c _ _ => (by first | rfl | (simp (disch := omega) only [hp_s, hp_o', hp_k, vu_o, upd_s, upd_n]; done))) (fun b' _ => (by first | rfl | (simp (disch := omega) only [hp_s, hp_o', hp_k, vu_o, upd_s, upd_n]; done)))
  · exact R.cf.cong (fun f _ => (by first | rfl | (simp (disch := omega) only [hp_s, hp_o', hp_k, vu_o, upd_s, upd_n]; done))) (by first | rfl | (simp (disch := omega) only [hp_s, hp_o', hp_k, vu_o, upd_s, upd_n]; done)) (fun f c _ _ => (by first | rfl | (simp (disch := omega) only [hp_s, hp_o', hp_k, vu_o, upd_s, upd_n]; done))) (by first | rfl | (simp (disch := omega) only [hp_s, hp_o', hp_k, vu_o, upd_s, upd_n]; done)) (fun b' _ => (by first | rfl | (simp (disch := omega) only [hp_s, hp_o', hp_k, vu_o, upd_s, upd_n]; done)))
  · exact R.el.cong R.n200 (by first | rfl | (simp (disch := omega) only [hp_s, hp_o', hp_k, vu_o, upd_s, upd_n]; done)) (fun i _ => (by first | rfl | (simp (disch := omega) only [hp_s, hp_o', hp_k, vu_o, upd_s, upd_n]; done))) (fun k _ _ => (by first | rfl | (simp (disch := omega) only [hp_s, hp_o', hp_k, vu_o, upd_s, upd_n]; done))) (fun f c _ _ => (by first | rfl | (simp (disch := omega) only [hp_s, hp_o', hp_k, vu_o, upd_s, upd_n]; done)))
  · exact R.ep.cong R.hL R.hl (fun k _ => (by first | rfl | (simp (disch := omega) only [hp_s, hp_o', hp_k, vu_o, upd_s, upd_n]; done))) (fun f c _ _ => (by first | rfl | (simp (disch := omega) only [hp_s, hp_o', hp_k, vu_o, upd_s, upd_n]; done)))
  · exact R.eh.cong R.hL2 R.sn4 (fun k _ => (by first | rfl | (simp (disch := omega) only [hp_s, hp_o', hp_k, vu_o, upd_s, upd_n]; done))) (fun f c _ _ => (by first | rfl | (simp (disch := omega) only [hp_s, hp_o', hp_k, vu_o, upd_s, upd_n]; done)))
  · exact R.wi.cong (fun j i _ _ => (by first | rfl | (simp (disch := omega) only [hp_s, hp_o', hp_k, vu_o, upd_s, upd_n]; done))) (fun k _ => (by first | rfl | (simp (disch := omega) only [hp_s, hp_o', hp_k, vu_o, upd_s, upd_n]; done)))
  · exact R.ta.cong (fun j _ => (by first | rfl | (simp (disch := omega) only [hp_s, hp_o', hp_k, vu_o, upd_s, upd_n]; done))) (fun k _ _ => (by first | rfl | (simp (disch := omega) only [hp_s, hp_o', hp_k, vu_o, upd_s, upd_n]; done)))
  · exact R.pk.cong (by first | rfl | (simp (disch := omega) only [hp_s, hp_o', hp_k, vu_o, upd_s, upd_n]; done)) (by first | rfl | (simp (disch := omega) only [hp_s, hp_o', hp_k, vu_o, upd_s, upd_n]; done))
  · exact R.kbg.cong (fun b' _ => (by first | rfl | (simp (disch := omega) only [hp_s, hp_o', hp_k, vu_o, upd_s, upd_n]; done))) (fun f c _ _ => (by first | rfl | (simp (disch := omega) only [hp_s, hp_o', hp_k, vu_o, upd_s, upd_n]; done))) (fun b' _ => (by first | rfl | (simp (disch := omega) only [hp_s, hp_o', hp_k, vu_o, upd_s, upd_n]; done)))
  · exact R.px.cong R.hL2 (fun f _ _ => (by first | rfl | (simp (disch := omega) only [hp_s, hp_o', hp_k, vu_o, upd_s, upd_n]; done)))
  · exact R.lt.cong (by first | rfl | (simp (disch := omega) only [hp_s, hp_o', hp_k, vu_o, upd_s, upd_n]; done)) (by first | rfl | (simp (disch := omega) only [hp_s, hp_o', hp_k, vu_o, upd_s, upd_n]; done))
theorem Rel.ll (R : Rel bg rl tb m y sn Bd n N tk nw ol L h w S) (v : Int32) (hv : tb 11 ≤ v) : Rel bg rl tb m y sn Bd n N tk nw ol L (hp h w 12 v) w S := by
  have hn200 := R.n200
  have hmy := R.my
  refine ⟨?_, ?_, ?_, ?_, ?_, ?_, ?_, ?_, ?_, ?_, ?_, ?_, ?_, ?_, ?_, ?_, ?_, ?_, ?_, ?_, ?_⟩
  · exact R.sc.cong (fun j _ _ => (by first | rfl | (simp (disch := omega) only [hp_s, hp_o', hp_k, vu_o, upd_s, upd_n]; done))) (by first | rfl | (simp (disch := omega) only [hp_s, hp_o', hp_k, vu_o, upd_s, upd_n]; done)) (fun j _ _ _ => (by first | rfl | (simp (disch := omega) only [hp_s, hp_o', hp_k, vu_o, upd_s, upd_n]; done))) (fun k _ _ _ _ => (by first | rfl | (simp (disch := omega) only [hp_s, hp_o', hp_k, vu_o, upd_s, upd_n]; done)))
  · exact R.bk.cong (fun b' j _ _ => (by first | rfl | (simp (disch := omega) only [hp_s, hp_o', hp_k, vu_o, upd_s, upd_n]; done))) (fun b' c _ _ => (by first | rfl | (simp (disch := omega) only [hp_s, hp_o', hp_k, vu_o, upd_s, upd_n]; done)))
  · exact R.fr.cong (fun j f _ _ _ => (by first | rfl | (simp (disch := omega) only [hp_s, hp_o', hp_k, vu_o, upd_s, upd_n]; done))) (fun f c _ _ => (by first | rfl | (simp (disch := omega) only [hp_s, hp_o', hp_k, vu_o, upd_s, upd_n]; done)))
  · exact R.ksn.cong (fun k j _ _ => (by first | rfl | (simp (disch := omega) only [hp_s, hp_o', hp_k, vu_o, upd_s, upd_n]; done))) (fun k _ _ => (by first | rfl | (simp (disch := omega) only [hp_s, hp_o', hp_k, vu_o, upd_s, upd_n]; done))) R.sn4
  · exact R.is.cong (fun k _ _ _ _ _ _ => (by first | rfl | (simp (disch := omega) only [hp_s, hp_o', hp_k, vu_o, upd_s, upd_n]; done)))
  · exact R.br.cong (fun b' c _ _ => (by first | rfl | (simp (disch := omega) only [hp_s, hp_o', hp_k, vu_o, upd_s, upd_n]; done)))
  · exact R.fi.cong (fun f c _ _ => (by first | rfl | (simp (disch := omega) only [hp_s, hp_o', hp_k, vu_o, upd_s, upd_n]; done))) R.n200
  · exact R.si.cong (fun k c _ _ => (by first | rfl | (simp (disch := omega) only [hp_s, hp_o', hp_k, vu_o, upd_s, upd_n]; done))) R.sn4
  · exact R.li.cong (fun k _ _ _ => (by first | rfl | (simp (disch := omega) only [hp_s, hp_o', hp_k, vu_o, upd_s, upd_n]; done))) (fun b' _ => (by first | rfl | (simp (disch := omega) only [hp_s, hp_o', hp_k, vu_o, upd_s, upd_n]; done))) R.my
  · exact R.lc.cong (fun j => (by first | rfl | (simp (disch := omega) only [hp_s, hp_o', hp_k, vu_o, upd_s, upd_n]; done))) (fun j => (by first | rfl | (simp (disch := omega) only [hp_s, hp_o', hp_k, vu_o, upd_s, upd_n]; done)))
  · exact R.cb.cong (fun b' j _ _ => (by first | rfl | (simp (disch := omega) only [hp_s, hp_o', hp_k, vu_o, upd_s, upd_n]; done))) (fun f c _ _ => (by first | rfl | (simp (disch := omega) only [hp_s, hp_o', hp_k, vu_o, upd_s, upd_n]; done))) (fun b' _ => (by first | rfl | (simp (disch := omega) only [hp_s, hp_o', hp_k, vu_o, upd_s, upd_n]; done)))
  · exact R.cf.cong (fun f _ => (by first | rfl | (simp (disch := omega) only [hp_s, hp_o', hp_k, vu_o, upd_s, upd_n]; done))) (by first | rfl | (simp (disch := omega) only [hp_s, hp_o', hp_k, vu_o, upd_s, upd_n]; done)) (fun f c _ _ => (by first | rfl | (simp (disch := omega) only [hp_s, hp_o', hp_k, vu_o, upd_s, upd_n]; done))) (by first | rfl | (simp (disch := omega) only [hp_s, hp_o', hp_k, vu_o, upd_s, upd_n]; done)) (fun b' _ => (by first | rfl | (simp (disch := omega) only [hp_s, hp_o', hp_k, vu_o, upd_s, upd_n]; done)))
  · exact R.el.cong R.n200 (by first | rfl | (simp (disch := omega) only [hp_s, hp_o', hp_k, vu_o, upd_s, upd_n]; done)) (fun i _ => (by first | rfl | (simp (disch := omega) only [hp_s, hp_o', hp_k, vu_o, upd_s, upd_n]; done))) (fun k _ _ => (by first | rfl | (simp (disch := omega) only [hp_s, hp_o', hp_k, vu_o, upd_s, upd_n]; done))) (fun f c _ _ => (by first | rfl | (simp (disch := omega) only [hp_s, hp_o', hp_k, vu_o, upd_s, upd_n]; done)))
  · exact R.ep.cong R.hL R.hl (fun k _ => (by first | rfl | (simp (disch := omega) only [hp_s, hp_o', hp_k, vu_o, upd_s, upd_n]; done))) (fun f c _ _ => (by first | rfl | (simp (disch := omega) only [hp_s, hp_o', hp_k, vu_o, upd_s, upd_n]; done)))
  · exact R.eh.cong R.hL2 R.sn4 (fun k _ => (by first | rfl | (simp (disch := omega) only [hp_s, hp_o', hp_k, vu_o, upd_s, upd_n]; done))) (fun f c _ _ => (by first | rfl | (simp (disch := omega) only [hp_s, hp_o', hp_k, vu_o, upd_s, upd_n]; done)))
  · exact R.wi.cong (fun j i _ _ => (by first | rfl | (simp (disch := omega) only [hp_s, hp_o', hp_k, vu_o, upd_s, upd_n]; done))) (fun k _ => (by first | rfl | (simp (disch := omega) only [hp_s, hp_o', hp_k, vu_o, upd_s, upd_n]; done)))
  · exact R.ta.cong (fun j _ => (by first | rfl | (simp (disch := omega) only [hp_s, hp_o', hp_k, vu_o, upd_s, upd_n]; done))) (fun k _ _ => (by first | rfl | (simp (disch := omega) only [hp_s, hp_o', hp_k, vu_o, upd_s, upd_n]; done)))
  · exact R.pk.cong (by first | rfl | (simp (disch := omega) only [hp_s, hp_o', hp_k, vu_o, upd_s, upd_n]; done)) (by first | rfl | (simp (disch := omega) only [hp_s, hp_o', hp_k, vu_o, upd_s, upd_n]; done))
  · exact R.kbg.cong (fun b' _ => (by first | rfl | (simp (disch := omega) only [hp_s, hp_o', hp_k, vu_o, upd_s, upd_n]; done))) (fun f c _ _ => (by first | rfl | (simp (disch := omega) only [hp_s, hp_o', hp_k, vu_o, upd_s, upd_n]; done))) (fun b' _ => (by first | rfl | (simp (disch := omega) only [hp_s, hp_o', hp_k, vu_o, upd_s, upd_n]; done)))
  · exact R.px.cong R.hL2 (fun f _ _ => (by first | rfl | (simp (disch := omega) only [hp_s, hp_o', hp_k, vu_o, upd_s, upd_n]; done)))
  · refine ⟨?_, ?_⟩
    · rw [hp_o' _ _ (by omega)]
      exact R.lt.1
    · rw [hp_s]
      exact hv
theorem Rel.mlate (R : Rel bg rl tb m y sn Bd n N tk nw ol L h w S) {b : Nat} (hb : b < 16) (v : Int32) : Rel bg rl tb m y sn Bd n N tk nw ol L h w (upd S (68 + 13 * b + 11) v) := by
  have hn200 := R.n200
  have hmy := R.my
  refine ⟨?_, ?_, ?_, ?_, ?_, ?_, ?_, ?_, ?_, ?_, ?_, ?_, ?_, ?_, ?_, ?_, ?_, ?_, ?_, ?_, ?_⟩
  · exact R.sc.cong (fun j _ _ => (by first | rfl | (simp (disch := omega) only [hp_s, hp_o', hp_k, vu_o, upd_s, upd_n]; done))) (by first | rfl | (simp (disch := omega) only [hp_s, hp_o', hp_k, vu_o, upd_s, upd_n]; done)) (fun j _ _ _ => (by first | rfl | (simp (disch := omega) only [hp_s, hp_o', hp_k, vu_o, upd_s, upd_n]; done))) (fun k _ _ _ _ => (by first | rfl | (simp (disch := omega) only [hp_s, hp_o', hp_k, vu_o, upd_s, upd_n]; done)))
  · exact R.bk.cong (fun b' j _ _ => (by first | rfl | (simp (disch := omega) only [hp_s, hp_o', hp_k, vu_o, upd_s, upd_n]; done))) (fun b' c _ _ => (by first | rfl | (simp (disch := omega) only [hp_s, hp_o', hp_k, vu_o, upd_s, upd_n]; done)))
  · exact R.fr.cong (fun j f _ _ _ => (by first | rfl | (simp (disch := omega) only [hp_s, hp_o', hp_k, vu_o, upd_s, upd_n]; done))) (fun f c _ _ => (by first | rfl | (simp (disch := omega) only [hp_s, hp_o', hp_k, vu_o, upd_s, upd_n]; done)))
  · exact R.ksn.cong (fun k j _ _ => (by first | rfl | (simp (disch := omega) only [hp_s, hp_o', hp_k, vu_o, upd_s, upd_n]; done))) (fun k _ _ => (by first | rfl | (simp (disch := omega) only [hp_s, hp_o', hp_k, vu_o, upd_s, upd_n]; done))) R.sn4
  · exact R.is.cong (fun k _ _ _ _ _ _ => (by first | rfl | (simp (disch := omega) only [hp_s, hp_o', hp_k, vu_o, upd_s, upd_n]; done)))
  · exact R.br.cong (fun b' c _ _ => (by first | rfl | (simp (disch := omega) only [hp_s, hp_o', hp_k, vu_o, upd_s, upd_n]; done)))
  · exact R.fi.cong (fun f c _ _ => (by first | rfl | (simp (disch := omega) only [hp_s, hp_o', hp_k, vu_o, upd_s, upd_n]; done))) R.n200
  · exact R.si.cong (fun k c _ _ => (by first | rfl | (simp (disch := omega) only [hp_s, hp_o', hp_k, vu_o, upd_s, upd_n]; done))) R.sn4
  · exact R.li.cong (fun k _ _ _ => (by first | rfl | (simp (disch := omega) only [hp_s, hp_o', hp_k, vu_o, upd_s, upd_n]; done))) (fun b' _ => (by first | rfl | (simp (disch := omega) only [hp_s, hp_o', hp_k, vu_o, upd_s, upd_n]; done))) R.my
  · exact R.lc.cong (fun j => (by first | rfl | (simp (disch := omega) only [hp_s, hp_o', hp_k, vu_o, upd_s, upd_n]; done))) (fun j => (by first | rfl | (simp (disch := omega) only [hp_s, hp_o', hp_k, vu_o, upd_s, upd_n]; done)))
  · exact R.cb.cong (fun b' j _ _ => (by first | rfl | (simp (disch := omega) only [hp_s, hp_o', hp_k, vu_o, upd_s, upd_n]; done))) (fun f c _ _ => (by first | rfl | (simp (disch := omega) only [hp_s, hp_o', hp_k, vu_o, upd_s, upd_n]; done))) (fun b' _ => (by first | rfl | (simp (disch := omega) only [hp_s, hp_o', hp_k, vu_o, upd_s, upd_n]; done)))
  · exact R.cf.cong (fun f _ => (by first | rfl | (simp (disch := omega) only [hp_s, hp_o', hp_k, vu_o, upd_s, upd_n]; done))) (by first | rfl | (simp (disch := omega) only [hp_s, hp_o', hp_k, vu_o, upd_s, upd_n]; done)) (fun f c _ _ => (by first | rfl | (simp (disch := omega) only [hp_s, hp_o', hp_k, vu_o, upd_s, upd_n]; done))) (by first | rfl | (simp (disch := omega) only [hp_s, hp_o', hp_k, vu_o, upd_s, upd_n]; done)) (fun b' _ => (by first | rfl | (simp (disch := omega) only [hp_s, hp_o', hp_k, vu_o, upd_s, upd_n]; done)))
  · exact R.el.cong R.n200 (by first | rfl | (simp (disch := omega) only [hp_s, hp_o', hp_k, vu_o, upd_s, upd_n]; done)) (fun i _ => (by first | rfl | (simp (disch := omega) only [hp_s, hp_o', hp_k, vu_o, upd_s, upd_n]; done))) (fun k _ _ => (by first | rfl | (simp (disch := omega) only [hp_s, hp_o', hp_k, vu_o, upd_s, upd_n]; done))) (fun f c _ _ => (by first | rfl | (simp (disch := omega) only [hp_s, hp_o', hp_k, vu_o, upd_s, upd_n]; done)))
  · exact R.ep.cong R.hL R.hl (fun k _ => (by first | rfl | (simp (disch := omega) only [hp_s, hp_o', hp_k, vu_o, upd_s, upd_n]; done))) (fun f c _ _ => (by first | rfl | (simp (disch := omega) only [hp_s, hp_o', hp_k, vu_o, upd_s, upd_n]; done)))
  · exact R.eh.cong R.hL2 R.sn4 (fun k _ => (by first | rfl | (simp (disch := omega) only [hp_s, hp_o', hp_k, vu_o, upd_s, upd_n]; done))) (fun f c _ _ => (by first | rfl | (simp (disch := omega) only [hp_s, hp_o', hp_k, vu_o, upd_s, upd_n]; done)))
  · exact R.wi.cong (fun j i _ _ => (by first | rfl | (simp (disch := omega) only [hp_s, hp_o', hp_k, vu_o, upd_s, upd_n]; done))) (fun k _ => (by first | rfl | (simp (disch := omega) only [hp_s, hp_o', hp_k, vu_o, upd_s, upd_n]; done)))
  · exact R.ta.cong (fun j _ => (by first | rfl | (simp (disch := omega) only [hp_s, hp_o', hp_k, vu_o, upd_s, upd_n]; done))) (fun k _ _ => (by first | rfl | (simp (disch := omega) only [hp_s, hp_o', hp_k, vu_o, upd_s, upd_n]; done)))
  · exact R.pk.cong (by first | rfl | (simp (disch := omega) only [hp_s, hp_o', hp_k, vu_o, upd_s, upd_n]; done)) (by first | rfl | (simp (disch := omega) only [hp_s, hp_o', hp_k, vu_o, upd_s, upd_n]; done))
  · exact R.kbg.cong (fun b' _ => (by first | rfl | (simp (disch := omega) only [hp_s, hp_o', hp_k, vu_o, upd_s, upd_n]; done))) (fun f c _ _ => (by first | rfl | (simp (disch := omega) only [hp_s, hp_o', hp_k, vu_o, upd_s, upd_n]; done))) (fun b' _ => (by first | rfl | (simp (disch := omega) only [hp_s, hp_o', hp_k, vu_o, upd_s, upd_n]; done)))
  · exact R.px.cong R.hL2 (fun f _ _ => (by first | rfl | (simp (disch := omega) only [hp_s, hp_o', hp_k, vu_o, upd_s, upd_n]; done)))
  · exact R.lt.cong (by first | rfl | (simp (disch := omega) only [hp_s, hp_o', hp_k, vu_o, upd_s, upd_n]; done)) (by first | rfl | (simp (disch := omega) only [hp_s, hp_o', hp_k, vu_o, upd_s, upd_n]; done))
theorem Rel.peak (R : Rel bg rl tb m y sn Bd n N tk nw ol L h w S) (v v' : Int32) (hv : rg v 0 200) (hr : rl = true ∨ tb 8 = 1 → v = v') : Rel bg rl tb m y sn Bd n N tk nw ol L (hp h w 10 v) w (upd S 3476 v') := by
  have hn200 := R.n200
  have hmy := R.my
  refine ⟨?_, ?_, ?_, ?_, ?_, ?_, ?_, ?_, ?_, ?_, ?_, ?_, ?_, ?_, ?_, ?_, ?_, ?_, ?_, ?_, ?_⟩
  · exact R.sc.cong (fun j _ _ => (by first | rfl | (simp (disch := omega) only [hp_s, hp_o', hp_k, vu_o, upd_s, upd_n]; done))) (by first | rfl | (simp (disch := omega) only [hp_s, hp_o', hp_k, vu_o, upd_s, upd_n]; done)) (fun j _ _ _ => (by first | rfl | (simp (disch := omega) only [hp_s, hp_o', hp_k, vu_o, upd_s, upd_n]; done))) (fun k _ _ _ _ => (by first | rfl | (simp (disch := omega) only [hp_s, hp_o', hp_k, vu_o, upd_s, upd_n]; done)))
  · exact R.bk.cong (fun b' j _ _ => (by first | rfl | (simp (disch := omega) only [hp_s, hp_o', hp_k, vu_o, upd_s, upd_n]; done))) (fun b' c _ _ => (by first | rfl | (simp (disch := omega) only [hp_s, hp_o', hp_k, vu_o, upd_s, upd_n]; done)))
  · exact R.fr.cong (fun j f _ _ _ => (by first | rfl | (simp (disch := omega) only [hp_s, hp_o', hp_k, vu_o, upd_s, upd_n]; done))) (fun f c _ _ => (by first | rfl | (simp (disch := omega) only [hp_s, hp_o', hp_k, vu_o, upd_s, upd_n]; done)))
  · exact R.ksn.cong (fun k j _ _ => (by first | rfl | (simp (disch := omega) only [hp_s, hp_o', hp_k, vu_o, upd_s, upd_n]; done))) (fun k _ _ => (by first | rfl | (simp (disch := omega) only [hp_s, hp_o', hp_k, vu_o, upd_s, upd_n]; done))) R.sn4
  · exact R.is.cong (fun k _ _ _ _ _ _ => (by first | rfl | (simp (disch := omega) only [hp_s, hp_o', hp_k, vu_o, upd_s, upd_n]; done)))
  · exact R.br.cong (fun b' c _ _ => (by first | rfl | (simp (disch := omega) only [hp_s, hp_o', hp_k, vu_o, upd_s, upd_n]; done)))
  · exact R.fi.cong (fun f c _ _ => (by first | rfl | (simp (disch := omega) only [hp_s, hp_o', hp_k, vu_o, upd_s, upd_n]; done))) R.n200
  · exact R.si.cong (fun k c _ _ => (by first | rfl | (simp (disch := omega) only [hp_s, hp_o', hp_k, vu_o, upd_s, upd_n]; done))) R.sn4
  · exact R.li.cong (fun k _ _ _ => (by first | rfl | (simp (disch := omega) only [hp_s, hp_o', hp_k, vu_o, upd_s, upd_n]; done))) (fun b' _ => (by first | rfl | (simp (disch := omega) only [hp_s, hp_o', hp_k, vu_o, upd_s, upd_n]; done))) R.my
  · exact R.lc.cong (fun j => (by first | rfl | (simp (disch := omega) only [hp_s, hp_o', hp_k, vu_o, upd_s, upd_n]; done))) (fun j => (by first | rfl | (simp (disch := omega) only [hp_s, hp_o', hp_k, vu_o, upd_s, upd_n]; done)))
  · exact R.cb.cong (fun b' j _ _ => (by first | rfl | (simp (disch := omega) only [hp_s, hp_o', hp_k, vu_o, upd_s, upd_n]; done))) (fun f c _ _ => (by first | rfl | (simp (disch := omega) only [hp_s, hp_o', hp_k, vu_o, upd_s, upd_n]; done))) (fun b' _ => (by first | rfl | (simp (disch := omega) only [hp_s, hp_o', hp_k, vu_o, upd_s, upd_n]; done)))
  · exact R.cf.cong (fun f _ => (by first | rfl | (simp (disch := omega) only [hp_s, hp_o', hp_k, vu_o, upd_s, upd_n]; done))) (by first | rfl | (simp (disch := omega) only [hp_s, hp_o', hp_k, vu_o, upd_s, upd_n]; done)) (fun f c _ _ => (by first | rfl | (simp (disch := omega) only [hp_s, hp_o', hp_k, vu_o, upd_s, upd_n]; done))) (by first | rfl | (simp (disch := omega) only [hp_s, hp_o', hp_k, vu_o, upd_s, upd_n]; done)) (fun b' _ => (by first | rfl | (simp (disch := omega) only [hp_s, hp_o', hp_k, vu_o, upd_s, upd_n]; done)))
  · exact R.el.cong R.n200 (by first | rfl | (simp (disch := omega) only [hp_s, hp_o', hp_k, vu_o, upd_s, upd_n]; done)) (fun i _ => (by first | rfl | (simp (disch := omega) only [hp_s, hp_o', hp_k, vu_o, upd_s, upd_n]; done))) (fun k _ _ => (by first | rfl | (simp (disch := omega) only [hp_s, hp_o', hp_k, vu_o, upd_s, upd_n]; done))) (fun f c _ _ => (by first | rfl | (simp (disch := omega) only [hp_s, hp_o', hp_k, vu_o, upd_s, upd_n]; done)))
  · exact R.ep.cong R.hL R.hl (fun k _ => (by first | rfl | (simp (disch := omega) only [hp_s, hp_o', hp_k, vu_o, upd_s, upd_n]; done))) (fun f c _ _ => (by first | rfl | (simp (disch := omega) only [hp_s, hp_o', hp_k, vu_o, upd_s, upd_n]; done)))
  · exact R.eh.cong R.hL2 R.sn4 (fun k _ => (by first | rfl | (simp (disch := omega) only [hp_s, hp_o', hp_k, vu_o, upd_s, upd_n]; done))) (fun f c _ _ => (by first | rfl | (simp (disch := omega) only [hp_s, hp_o', hp_k, vu_o, upd_s, upd_n]; done)))
  · exact R.wi.cong (fun j i _ _ => (by first | rfl | (simp (disch := omega) only [hp_s, hp_o', hp_k, vu_o, upd_s, upd_n]; done))) (fun k _ => (by first | rfl | (simp (disch := omega) only [hp_s, hp_o', hp_k, vu_o, upd_s, upd_n]; done)))
  · exact R.ta.cong (fun j _ => (by first | rfl | (simp (disch := omega) only [hp_s, hp_o', hp_k, vu_o, upd_s, upd_n]; done))) (fun k _ _ => (by first | rfl | (simp (disch := omega) only [hp_s, hp_o', hp_k, vu_o, upd_s, upd_n]; done)))
  · exact ⟨by rw [hp_s]; exact hv, fun hr2 => by rw [hp_s, upd_s]; exact hr hr2⟩
  · exact R.kbg.cong (fun b' _ => (by first | rfl | (simp (disch := omega) only [hp_s, hp_o', hp_k, vu_o, upd_s, upd_n]; done))) (fun f c _ _ => (by first | rfl | (simp (disch := omega) only [hp_s, hp_o', hp_k, vu_o, upd_s, upd_n]; done))) (fun b' _ => (by first | rfl | (simp (disch := omega) only [hp_s, hp_o', hp_k, vu_o, upd_s, upd_n]; done)))
  · exact R.px.cong R.hL2 (fun f _ _ => (by first | rfl | (simp (disch := omega) only [hp_s, hp_o', hp_k, vu_o, upd_s, upd_n]; done)))
  · exact R.lt.cong (by first | rfl | (simp (disch := omega) only [hp_s, hp_o', hp_k, vu_o, upd_s, upd_n]; done)) (by first | rfl | (simp (disch := omega) only [hp_s, hp_o', hp_k, vu_o, upd_s, upd_n]; done))
def wup (S : Nat → Int32) (d : Nat → Int32) : Nat → Int32 := fun k => if 50 ≤ k ∧ k < 68 then d k else S k
theorem wup_n (S d : Nat → Int32) {k : Nat} (e : k < 50 ∨ 68 ≤ k) : wup S d k = S k := if_neg (by omega)
theorem wup_i (S d : Nat → Int32) {k : Nat} (e : 50 ≤ k) (e2 : k < 68) : wup S d k = d k := if_pos ⟨e, e2⟩
theorem Rel.watch (R : Rel bg rl tb m y sn Bd n N tk nw ol L h w S) (d d' : Nat → Int32) (hw : kWI rl (va_up h (w + 40 + 3) d) w (wup S d')) : Rel bg rl tb m y sn Bd n N tk nw ol L (va_up h (w + 40 + 3) d) w (wup S d') := by
  have hn200 := R.n200
  have hmy := R.my
  refine ⟨?_, ?_, ?_, ?_, ?_, ?_, ?_, ?_, ?_, ?_, ?_, ?_, ?_, ?_, ?_, ?_, ?_, ?_, ?_, ?_, ?_⟩
  · exact R.sc.cong (fun j _ _ => (by first | rfl | (simp (disch := omega) only [hp_s, hp_o', hp_k, vu_o, upd_s, upd_n, wup_n]; done))) (by first | rfl | (simp (disch := omega) only [hp_s, hp_o', hp_k, vu_o, upd_s, upd_n, wup_n]; done)) (fun j _ _ _ => (by first | rfl | (simp (disch := omega) only [hp_s, hp_o', hp_k, vu_o, upd_s, upd_n, wup_n]; done))) (fun k _ _ _ _ => (by first | rfl | (simp (disch := omega) only [hp_s, hp_o', hp_k, vu_o, upd_s, upd_n, wup_n]; done)))
  · exact R.bk.cong (fun b' j _ _ => (by first | rfl | (simp (disch := omega) only [hp_s, hp_o', hp_k, vu_o, upd_s, upd_n, wup_n]; done))) (fun b' c _ _ => (by first | rfl | (simp (disch := omega) only [hp_s, hp_o', hp_k, vu_o, upd_s, upd_n, wup_n]; done)))
  · exact R.fr.cong (fun j f _ _ _ => (by first | rfl | (simp (disch := omega) only [hp_s, hp_o', hp_k, vu_o, upd_s, upd_n, wup_n]; done))) (fun f c _ _ => (by first | rfl | (simp (disch := omega) only [hp_s, hp_o', hp_k, vu_o, upd_s, upd_n, wup_n]; done)))
  · exact R.ksn.cong (fun k j _ _ => (by first | rfl | (simp (disch := omega) only [hp_s, hp_o', hp_k, vu_o, upd_s, upd_n, wup_n]; done))) (fun k _ _ => (by first | rfl | (simp (disch := omega) only [hp_s, hp_o', hp_k, vu_o, upd_s, upd_n, wup_n]; done))) R.sn4
  · exact R.is.cong (fun k _ _ _ _ _ _ => (by first | rfl | (simp (disch := omega) only [hp_s, hp_o', hp_k, vu_o, upd_s, upd_n, wup_n]; done)))
  · exact R.br.cong (fun b' c _ _ => (by first | rfl | (simp (disch := omega) only [hp_s, hp_o', hp_k, vu_o, upd_s, upd_n, wup_n]; done)))
  · exact R.fi.cong (fun f c _ _ => (by first | rfl | (simp (disch := omega) only [hp_s, hp_o', hp_k, vu_o, upd_s, upd_n, wup_n]; done))) R.n200
  · exact R.si.cong (fun k c _ _ => (by first | rfl | (simp (disch := omega) only [hp_s, hp_o', hp_k, vu_o, upd_s, upd_n, wup_n]; done))) R.sn4
  · exact R.li.cong (fun k _ _ _ => (by first | rfl | (simp (disch := omega) only [hp_s, hp_o', hp_k, vu_o, upd_s, upd_n, wup_n]; done))) (fun b' _ => (by first | rfl | (simp (disch := omega) only [hp_s, hp_o', hp_k, vu_o, upd_s, upd_n, wup_n]; done))) R.my
  · exact R.lc.cong (fun j => (by first | rfl | (simp (disch := omega) only [hp_s, hp_o', hp_k, vu_o, upd_s, upd_n, wup_n]; done))) (fun j => (by first | rfl | (simp (disch := omega) only [hp_s, hp_o', hp_k, vu_o, upd_s, upd_n, wup_n]; done)))
  · exact R.cb.cong (fun b' j _ _ => (by first | rfl | (simp (disch := omega) only [hp_s, hp_o', hp_k, vu_o, upd_s, upd_n, wup_n]; done))) (fun f c _ _ => (by first | rfl | (simp (disch := omega) only [hp_s, hp_o', hp_k, vu_o, upd_s, upd_n, wup_n]; done))) (fun b' _ => (by first | rfl | (simp (disch := omega) only [hp_s, hp_o', hp_k, vu_o, upd_s, upd_n, wup_n]; done)))
  · exact R.cf.cong (fun f _ => (by first | rfl | (simp (disch := omega) only [hp_s, hp_o', hp_k, vu_o, upd_s, upd_n, wup_n]; done))) (by first | rfl | (simp (disch := omega) only [hp_s, hp_o', hp_k, vu_o, upd_s, upd_n, wup_n]; done)) (fun f c _ _ => (by first | rfl | (simp (disch := omega) only [hp_s, hp_o', hp_k, vu_o, upd_s, upd_n, wup_n]; done))) (by first | rfl | (simp (disch := omega) only [hp_s, hp_o', hp_k, vu_o, upd_s, upd_n, wup_n]; done)) (fun b' _ => (by first | rfl | (simp (disch := omega) only [hp_s, hp_o', hp_k, vu_o, upd_s, upd_n, wup_n]; done)))
  · exact R.el.cong R.n200 (by first | rfl | (simp (disch := omega) only [hp_s, hp_o', hp_k, vu_o, upd_s, upd_n, wup_n]; done)) (fun i _ => (by first | rfl | (simp (disch := omega) only [hp_s, hp_o', hp_k, vu_o, upd_s, upd_n, wup_n]; done))) (fun k _ _ => (by first | rfl | (simp (disch := omega) only [hp_s, hp_o', hp_k, vu_o, upd_s, upd_n, wup_n]; done))) (fun f c _ _ => (by first | rfl | (simp (disch := omega) only [hp_s, hp_o', hp_k, vu_o, upd_s, upd_n, wup_n]; done)))
  · exact R.ep.cong R.hL R.hl (fun k _ => (by first | rfl | (simp (disch := omega) only [hp_s, hp_o', hp_k, vu_o, upd_s, upd_n, wup_n]; done))) (fun f c _ _ => (by first | rfl | (simp (disch := omega) only [hp_s, hp_o', hp_k, vu_o, upd_s, upd_n, wup_n]; done)))
  · exact R.eh.cong R.hL2 R.sn4 (fun k _ => (by first | rfl | (simp (disch := omega) only [hp_s, hp_o', hp_k, vu_o, upd_s, upd_n, wup_n]; done))) (fun f c _ _ => (by first | rfl | (simp (disch := omega) only [hp_s, hp_o', hp_k, vu_o, upd_s, upd_n, wup_n]; done)))
  · exact hw
  · exact R.ta.cong (fun j _ => (by first | rfl | (simp (disch := omega) only [hp_s, hp_o', hp_k, vu_o, upd_s, upd_n, wup_n]; done))) (fun k _ _ => (by first | rfl | (simp (disch := omega) only [hp_s, hp_o', hp_k, vu_o, upd_s, upd_n, wup_n]; done)))
  · exact R.pk.cong (by first | rfl | (simp (disch := omega) only [hp_s, hp_o', hp_k, vu_o, upd_s, upd_n, wup_n]; done)) (by first | rfl | (simp (disch := omega) only [hp_s, hp_o', hp_k, vu_o, upd_s, upd_n, wup_n]; done))
  · exact R.kbg.cong (fun b' _ => (by first | rfl | (simp (disch := omega) only [hp_s, hp_o', hp_k, vu_o, upd_s, upd_n, wup_n]; done))) (fun f c _ _ => (by first | rfl | (simp (disch := omega) only [hp_s, hp_o', hp_k, vu_o, upd_s, upd_n, wup_n]; done))) (fun b' _ => (by first | rfl | (simp (disch := omega) only [hp_s, hp_o', hp_k, vu_o, upd_s, upd_n, wup_n]; done)))
  · exact R.px.cong R.hL2 (fun f _ _ => (by first | rfl | (simp (disch := omega) only [hp_s, hp_o', hp_k, vu_o, upd_s, upd_n, wup_n]; done)))
  · exact R.lt.cong (by first | rfl | (simp (disch := omega) only [hp_s, hp_o', hp_k, vu_o, upd_s, upd_n, wup_n]; done)) (by first | rfl | (simp (disch := omega) only [hp_s, hp_o', hp_k, vu_o, upd_s, upd_n, wup_n]; done))
theorem Rel.time (R : Rel bg rl tb m y sn Bd n N tk nw ol L h w S) {N' Bd' : Nat} (ht : 200 ≤ tk) (h1 : N ≤ N') (h2 : N' ≤ Bd' + 1500 * (pl S 1 L).length) (h3 : Bd' ≤ 5000000) : Rel bg rl tb m y sn Bd' n N' tk nw ol L (hp h w 7 (nI N')) w (upd S 0 (nI N')) := by
  have hn200 := R.n200
  have hmy := R.my
  refine ⟨?_, ?_, ?_, ?_, ?_, ?_, ?_, ?_, ?_, ?_, ?_, ?_, ?_, ?_, ?_, ?_, ?_, ?_, ?_, ?_, ?_⟩
  · obtain ⟨e1, e2, e3, e4, e5, e6, e7, e8, e9, e10⟩ := R.sc
    refine ⟨?_, ?_, ?_, ?_, ?_, ?_, ?_, ?_, ?_, ?_⟩ <;> simp (disch := omega) only [hp_s, hp_o', hp_k, vu_o, upd_s, upd_n, e1, e2, e3, e4, e5, e6, e7, e8, e9, e10]
  · exact R.bk.cong (fun b' j _ _ => (by first | rfl | (simp (disch := omega) only [hp_s, hp_o', hp_k, vu_o, upd_s, upd_n]; done))) (fun b' c _ _ => (by first | rfl | (simp (disch := omega) only [hp_s, hp_o', hp_k, vu_o, upd_s, upd_n]; done)))
  · exact R.fr.cong (fun j f _ _ _ => (by first | rfl | (simp (disch := omega) only [hp_s, hp_o', hp_k, vu_o, upd_s, upd_n]; done))) (fun f c _ _ => (by first | rfl | (simp (disch := omega) only [hp_s, hp_o', hp_k, vu_o, upd_s, upd_n]; done)))
  · exact R.ksn.cong (fun k j _ _ => (by first | rfl | (simp (disch := omega) only [hp_s, hp_o', hp_k, vu_o, upd_s, upd_n]; done))) (fun k _ _ => (by first | rfl | (simp (disch := omega) only [hp_s, hp_o', hp_k, vu_o, upd_s, upd_n]; done))) R.sn4
  · obtain ⟨_, x1, x2, x3, x4, x5, x6, x7, x8, x9, x10, x11, x12, x13⟩ := R.is
    refine ⟨upd_s _ _ _, ?_, ?_, ?_, ?_, ?_, ?_, ?_, ?_, ?_, ?_, ?_, ?_, ?_⟩ <;> first | assumption | (simp (disch := omega) only [upd_n]; assumption)
  · exact R.br.cong (fun b' c _ _ => (by first | rfl | (simp (disch := omega) only [hp_s, hp_o', hp_k, vu_o, upd_s, upd_n]; done)))
  · have hf := R.fi.cong (S' := upd S 0 (nI N')) (fun f c _ _ => (by first | rfl | (simp (disch := omega) only [hp_s, hp_o', hp_k, vu_o, upd_s, upd_n]; done))) R.n200
    refine ⟨fun f hf2 => ?_, hf.2⟩
    obtain ⟨x1, x2, x3, x4, x5, x6, x7, x8, x9, x10, x11, x12⟩ := hf.1 f hf2
    refine ⟨x1, x2, x3, x4.mono (Nat.le_refl _) h1, x5, x6, x7, fun z => ?_, x9, x10, x11, x12⟩
    obtain ⟨c, v, y1, y2, y3, y4⟩ := x8 z
    exact ⟨c, v, y1, y2, y3, Nat.le_trans y4 h1⟩
  · exact R.si.cong (fun k c _ _ => (by first | rfl | (simp (disch := omega) only [hp_s, hp_o', hp_k, vu_o, upd_s, upd_n]; done))) R.sn4
  · exact R.li.cong (fun k _ _ _ => (by first | rfl | (simp (disch := omega) only [hp_s, hp_o', hp_k, vu_o, upd_s, upd_n]; done))) (fun b' _ => (by first | rfl | (simp (disch := omega) only [hp_s, hp_o', hp_k, vu_o, upd_s, upd_n]; done))) R.my
  · exact R.lc.cong (fun j => (by first | rfl | (simp (disch := omega) only [hp_s, hp_o', hp_k, vu_o, upd_s, upd_n]; done))) (fun j => (by first | rfl | (simp (disch := omega) only [hp_s, hp_o', hp_k, vu_o, upd_s, upd_n]; done)))
  · exact R.cb.cong (fun b' j _ _ => (by first | rfl | (simp (disch := omega) only [hp_s, hp_o', hp_k, vu_o, upd_s, upd_n]; done))) (fun f c _ _ => (by first | rfl | (simp (disch := omega) only [hp_s, hp_o', hp_k, vu_o, upd_s, upd_n]; done))) (fun b' _ => (by first | rfl | (simp (disch := omega) only [hp_s, hp_o', hp_k, vu_o, upd_s, upd_n]; done)))
  · exact R.cf.cong (fun f _ => (by first | rfl | (simp (disch := omega) only [hp_s, hp_o', hp_k, vu_o, upd_s, upd_n]; done))) (by first | rfl | (simp (disch := omega) only [hp_s, hp_o', hp_k, vu_o, upd_s, upd_n]; done)) (fun f c _ _ => (by first | rfl | (simp (disch := omega) only [hp_s, hp_o', hp_k, vu_o, upd_s, upd_n]; done))) (by first | rfl | (simp (disch := omega) only [hp_s, hp_o', hp_k, vu_o, upd_s, upd_n]; done)) (fun b' _ => (by first | rfl | (simp (disch := omega) only [hp_s, hp_o', hp_k, vu_o, upd_s, upd_n]; done)))
  · obtain ⟨x1, x2, x3, x4, x5, x6, x7, x8⟩ := R.el.cong (w' := w) (h' := hp h w 7 (nI N')) (S' := upd S 0 (nI N')) R.n200 (by first | rfl | (simp (disch := omega) only [hp_s, hp_o', hp_k, vu_o, upd_s, upd_n]; done)) (fun i _ => (by first | rfl | (simp (disch := omega) only [hp_s, hp_o', hp_k, vu_o, upd_s, upd_n]; done))) (fun k _ _ => (by first | rfl | (simp (disch := omega) only [hp_s, hp_o', hp_k, vu_o, upd_s, upd_n]; done))) (fun f c _ _ => (by first | rfl | (simp (disch := omega) only [hp_s, hp_o', hp_k, vu_o, upd_s, upd_n]; done)))
    exact ⟨x1, x2, x3, x4, x5, x6, fun z => absurd z (by omega), x8⟩
  · obtain ⟨x1, x2, x3, x4, x5, x6, x7, x8, x9, x10⟩ := R.ep.cong (S' := upd S 0 (nI N')) R.hL R.hl (fun k _ => (by first | rfl | (simp (disch := omega) only [hp_s, hp_o', hp_k, vu_o, upd_s, upd_n]; done))) (fun f c _ _ => (by first | rfl | (simp (disch := omega) only [hp_s, hp_o', hp_k, vu_o, upd_s, upd_n]; done)))
    refine ⟨x1, x2, x3, x4, x5, x6, x7, x8, ?_, h3⟩
    have : pl (upd S 0 (nI N')) 1 L = pl S 1 L := List.filter_congr fun f hf => by rw [upd_n _ _ (by omega)]
    rw [this]
    exact h2
  · exact R.eh.cong R.hL2 R.sn4 (fun k _ => (by first | rfl | (simp (disch := omega) only [hp_s, hp_o', hp_k, vu_o, upd_s, upd_n]; done))) (fun f c _ _ => (by first | rfl | (simp (disch := omega) only [hp_s, hp_o', hp_k, vu_o, upd_s, upd_n]; done)))
  · exact R.wi.cong (fun j i _ _ => (by first | rfl | (simp (disch := omega) only [hp_s, hp_o', hp_k, vu_o, upd_s, upd_n]; done))) (fun k _ => (by first | rfl | (simp (disch := omega) only [hp_s, hp_o', hp_k, vu_o, upd_s, upd_n]; done)))
  · exact R.ta.cong (fun j _ => (by first | rfl | (simp (disch := omega) only [hp_s, hp_o', hp_k, vu_o, upd_s, upd_n]; done))) (fun k _ _ => (by first | rfl | (simp (disch := omega) only [hp_s, hp_o', hp_k, vu_o, upd_s, upd_n]; done)))
  · exact R.pk.cong (by first | rfl | (simp (disch := omega) only [hp_s, hp_o', hp_k, vu_o, upd_s, upd_n]; done)) (by first | rfl | (simp (disch := omega) only [hp_s, hp_o', hp_k, vu_o, upd_s, upd_n]; done))
  · exact R.kbg.cong (fun b' _ => (by first | rfl | (simp (disch := omega) only [hp_s, hp_o', hp_k, vu_o, upd_s, upd_n]; done))) (fun f c _ _ => (by first | rfl | (simp (disch := omega) only [hp_s, hp_o', hp_k, vu_o, upd_s, upd_n]; done))) (fun b' _ => (by first | rfl | (simp (disch := omega) only [hp_s, hp_o', hp_k, vu_o, upd_s, upd_n]; done)))
  · exact R.px.cong R.hL2 (fun f _ _ => (by first | rfl | (simp (disch := omega) only [hp_s, hp_o', hp_k, vu_o, upd_s, upd_n]; done)))
  · exact R.lt.cong (by first | rfl | (simp (disch := omega) only [hp_s, hp_o', hp_k, vu_o, upd_s, upd_n]; done)) (by first | rfl | (simp (disch := omega) only [hp_s, hp_o', hp_k, vu_o, upd_s, upd_n]; done))
end El
