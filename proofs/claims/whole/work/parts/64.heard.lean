/-! who sends: single steps, and hearing -/
section Se
variable {bg rl : Bool} {tb : Nat → Int32} {m y sn Bd n N tk : Nat} {nw ol L : List Nat} {h : Hp} {w : Nat} {S : Nat → Int32}
theorem Rel.s2 (R : Rel bg rl tb m y sn Bd n N tk nw ol L h w S) {k : Nat} (hk : k < sn) (v : Int32) (hv : rg v 100 2000) : Rel bg rl tb m y sn Bd n N tk nw ol L (hp h (w + 35 + 1 + k) 2 v) w (upd S (3478 + 9 * k + 2) v) := by
  have hs4 := R.sn4
  have hn200 := R.n200
  have hmy := R.my
  refine ⟨?_, ?_, ?_, ?_, ?_, ?_, ?_, ?_, ?_, ?_, ?_, ?_, ?_, ?_, ?_, ?_, ?_, ?_, ?_, ?_, ?_⟩
  · exact R.sc.cong (fun j _ _ => (by first | rfl | (simp (disch := omega) only [hp_s, hp_o', hp_k, vu_o, upd_s, upd_n]; done))) (by first | rfl | (simp (disch := omega) only [hp_s, hp_o', hp_k, vu_o, upd_s, upd_n]; done)) (fun j _ _ _ => (by first | rfl | (simp (disch := omega) only [hp_s, hp_o', hp_k, vu_o, upd_s, upd_n]; done))) (fun k _ _ _ _ => (by first | rfl | (simp (disch := omega) only [hp_s, hp_o', hp_k, vu_o, upd_s, upd_n]; done)))
  · exact R.bk.cong (fun b' j _ _ => (by first | rfl | (simp (disch := omega) only [hp_s, hp_o', hp_k, vu_o, upd_s, upd_n]; done))) (fun b' c _ _ => (by first | rfl | (simp (disch := omega) only [hp_s, hp_o', hp_k, vu_o, upd_s, upd_n]; done)))
  · exact R.fr.cong (fun j f _ _ _ => (by first | rfl | (simp (disch := omega) only [hp_s, hp_o', hp_k, vu_o, upd_s, upd_n]; done))) (fun f c _ _ => (by first | rfl | (simp (disch := omega) only [hp_s, hp_o', hp_k, vu_o, upd_s, upd_n]; done)))
  · refine ⟨fun k' hk' c' hc' h5 => ?_, fun k' hk' => ?_⟩
    · have old := R.ksn.1 k' hk' c' hc' h5
      by_cases e : k' = k
      · subst e
        by_cases e2 : c' = 2
        · subst e2
          rw [hp_s, upd_s]
        · rw [hp_k _ _ e2, upd_n _ _ (by omega), old]
      · rw [hp_o' _ _ (by omega), upd_n _ _ (by omega), old]
    · have old := R.ksn.2 k' hk'
      rw [upd_n _ _ (by omega), old]
      by_cases e : k' = k
      · subst e
        rw [hp_k _ _ (by omega)]
      · rw [hp_o' _ _ (by omega)]
  · exact R.is.cong (fun k _ _ _ _ _ _ => (by first | rfl | (simp (disch := omega) only [hp_s, hp_o', hp_k, vu_o, upd_s, upd_n]; done)))
  · exact R.br.cong (fun b' c _ _ => (by first | rfl | (simp (disch := omega) only [hp_s, hp_o', hp_k, vu_o, upd_s, upd_n]; done)))
  · exact R.fi.cong (fun f c _ _ => (by first | rfl | (simp (disch := omega) only [hp_s, hp_o', hp_k, vu_o, upd_s, upd_n]; done))) R.n200
  · intro k' hk'
    obtain ⟨x1, x2, x3, x4, x5⟩ := R.si k' hk'
    by_cases e : k' = k
    · subst e
      rw [upd_n _ _ (by omega), upd_n _ _ (by omega), upd_s, upd_n _ _ (by omega), upd_n _ _ (by omega)]
      exact ⟨x1, x2, hv, x4, x5⟩
    · rw [upd_n _ _ (by omega), upd_n _ _ (by omega), upd_n _ _ (by omega), upd_n _ _ (by omega), upd_n _ _ (by omega)]
      exact ⟨x1, x2, x3, x4, x5⟩
  · exact R.li.cong (fun k _ _ _ => (by first | rfl | (simp (disch := omega) only [hp_s, hp_o', hp_k, vu_o, upd_s, upd_n]; done))) (fun b' _ => (by first | rfl | (simp (disch := omega) only [hp_s, hp_o', hp_k, vu_o, upd_s, upd_n]; done))) R.my
  · exact R.lc.cong (fun j => (by first | rfl | (simp (disch := omega) only [hp_s, hp_o', hp_k, vu_o, upd_s, upd_n]; done))) (fun j => (by first | rfl | (simp (disch := omega) only [hp_s, hp_o', hp_k, vu_o, upd_s, upd_n]; done)))
  · exact R.cb.cong (fun b' j _ _ => (by first | rfl | (simp (disch := omega) only [hp_s, hp_o', hp_k, vu_o, upd_s, upd_n]; done))) (fun f c _ _ => (by first | rfl | (simp (disch := omega) only [hp_s, hp_o', hp_k, vu_o, upd_s, upd_n]; done))) (fun b' _ => (by first | rfl | (simp (disch := omega) only [hp_s, hp_o', hp_k, vu_o, upd_s, upd_n]; done)))
  · exact R.cf.cong (fun f _ => (by first | rfl | (simp (disch := omega) only [hp_s, hp_o', hp_k, vu_o, upd_s, upd_n]; done))) (by first | rfl | (simp (disch := omega) only [hp_s, hp_o', hp_k, vu_o, upd_s, upd_n]; done)) (fun f c _ _ => (by first | rfl | (simp (disch := omega) only [hp_s, hp_o', hp_k, vu_o, upd_s, upd_n]; done))) (by first | rfl | (simp (disch := omega) only [hp_s, hp_o', hp_k, vu_o, upd_s, upd_n]; done)) (fun b' _ => (by first | rfl | (simp (disch := omega) only [hp_s, hp_o', hp_k, vu_o, upd_s, upd_n]; done)))
  · exact R.el.cong R.n200 (by first | rfl | (simp (disch := omega) only [hp_s, hp_o', hp_k, vu_o, upd_s, upd_n]; done)) (fun i _ => (by first | rfl | (simp (disch := omega) only [hp_s, hp_o', hp_k, vu_o, upd_s, upd_n]; done))) (fun k _ _ => (by first | rfl | (simp (disch := omega) only [hp_s, hp_o', hp_k, vu_o, upd_s, upd_n]; done))) (fun f c _ _ => (by first | rfl | (simp (disch := omega) only [hp_s, hp_o', hp_k, vu_o, upd_s, upd_n]; done)))
  · exact R.ep.cong R.hL R.hl (fun k _ => (by first | rfl | (simp (disch := omega) only [hp_s, hp_o', hp_k, vu_o, upd_s, upd_n]; done))) (fun f c _ _ => (by first | rfl | (simp (disch := omega) only [hp_s, hp_o', hp_k, vu_o, upd_s, upd_n]; done)))
  · exact R.eh.cong R.hL2 R.sn4 (fun k _ => (by first | rfl | (simp (disch := omega) only [hp_s, hp_o', hp_k, vu_o, upd_s, upd_n]; done))) (fun f c _ _ => (by first | rfl | (simp (disch := omega) only [hp_s, hp_o', hp_k, vu_o, upd_s, upd_n]; done)))
  · exact R.wi.cong (fun j i _ _ => (by first | rfl | (simp (disch := omega) only [hp_s, hp_o', hp_k, vu_o, upd_s, upd_n]; done))) (fun k _ => (by first | rfl | (simp (disch := omega) only [hp_s, hp_o', hp_k, vu_o, upd_s, upd_n]; done)))
  · exact R.ta.cong (fun j _ => (by first | rfl | (simp (disch := omega) only [hp_s, hp_o', hp_k, vu_o, upd_s, upd_n]; done))) (fun k _ _ => (by first | rfl | (simp (disch := omega) only [hp_s, hp_o', hp_k, vu_o, upd_s, upd_n]; done)))
  · exact R.pk.cong (by first | rfl | (simp (disch := omega) only [hp_s, hp_o', hp_k, vu_o, upd_s, upd_n]; done)) (by first | rfl | (simp (disch := omega) only [hp_s, hp_o', hp_k, vu_o, upd_s, upd_n]; done))
  · exact R.kbg.cong (fun b' _ => (by first | rfl | (simp (disch := omega) only [hp_s, hp_o', hp_k, vu_o, upd_s, upd_n]; done))) (fun f c _ _ => (by first | rfl | (simp (disch := omega) only [hp_s, hp_o', hp_k, vu_o, upd_s, upd_n]; done))) (fun b' _ => (by first | rfl | (simp (disch := omega) only [hp_s, hp_o', hp_k, vu_o, upd_s, upd_n]; done)))
  · exact R.px.cong R.hL2 (fun f _ _ => (by first | rfl | (simp (disch := omega) only [hp_s, hp_o', hp_k, vu_o, upd_s, upd_n]; done)))
  · exact R.lt.cong (by first | rfl | (simp (disch := omega) only [hp_s, hp_o', hp_k, vu_o, upd_s, upd_n]; done)) (by first | rfl | (simp (disch := omega) only [hp_s, hp_o', hp_k, vu_o, upd_s, upd_n]; done))
theorem Rel.s6 (R : Rel bg rl tb m y sn Bd n N tk nw ol L h w S) {k : Nat} (hk : k < sn) (v : Int32) : Rel bg rl tb m y sn Bd n N tk nw ol L (hp h (w + 35 + 1 + k) 6 v) w (upd S (3478 + 9 * k + 6) v) := by
  have hs4 := R.sn4
  have hn200 := R.n200
  have hmy := R.my
  refine ⟨?_, ?_, ?_, ?_, ?_, ?_, ?_, ?_, ?_, ?_, ?_, ?_, ?_, ?_, ?_, ?_, ?_, ?_, ?_, ?_, ?_⟩
  · exact R.sc.cong (fun j _ _ => (by first | rfl | (simp (disch := omega) only [hp_s, hp_o', hp_k, vu_o, upd_s, upd_n]; done))) (by first | rfl | (simp (disch := omega) only [hp_s, hp_o', hp_k, vu_o, upd_s, upd_n]; done)) (fun j _ _ _ => (by first | rfl | (simp (disch := omega) only [hp_s, hp_o', hp_k, vu_o, upd_s, upd_n]; done))) (fun k _ _ _ _ => (by first | rfl | (simp (disch := omega) only [hp_s, hp_o', hp_k, vu_o, upd_s, upd_n]; done)))
  · exact R.bk.cong (fun b' j _ _ => (by first | rfl | (simp (disch := omega) only [hp_s, hp_o', hp_k, vu_o, upd_s, upd_n]; done))) (fun b' c _ _ => (by first | rfl | (simp (disch := omega) only [hp_s, hp_o', hp_k, vu_o, upd_s, upd_n]; done)))
  · exact R.fr.cong (fun j f _ _ _ => (by first | rfl | (simp (disch := omega) only [hp_s, hp_o', hp_k, vu_o, upd_s, upd_n]; done))) (fun f c _ _ => (by first | rfl | (simp (disch := omega) only [hp_s, hp_o', hp_k, vu_o, upd_s, upd_n]; done)))
  · refine ⟨fun k' hk' c' hc' h5 => ?_, fun k' hk' => ?_⟩
    · have old := R.ksn.1 k' hk' c' hc' h5
      by_cases e : k' = k
      · subst e
        by_cases e2 : c' = 6
        · subst e2
          rw [hp_s, upd_s]
        · rw [hp_k _ _ e2, upd_n _ _ (by omega), old]
      · rw [hp_o' _ _ (by omega), upd_n _ _ (by omega), old]
    · have old := R.ksn.2 k' hk'
      rw [upd_n _ _ (by omega), old]
      by_cases e : k' = k
      · subst e
        rw [hp_k _ _ (by omega)]
      · rw [hp_o' _ _ (by omega)]
  · exact R.is.cong (fun k _ _ _ _ _ _ => (by first | rfl | (simp (disch := omega) only [hp_s, hp_o', hp_k, vu_o, upd_s, upd_n]; done)))
  · exact R.br.cong (fun b' c _ _ => (by first | rfl | (simp (disch := omega) only [hp_s, hp_o', hp_k, vu_o, upd_s, upd_n]; done)))
  · exact R.fi.cong (fun f c _ _ => (by first | rfl | (simp (disch := omega) only [hp_s, hp_o', hp_k, vu_o, upd_s, upd_n]; done))) R.n200
  · exact R.si.cong (fun k c _ _ => (by first | rfl | (simp (disch := omega) only [hp_s, hp_o', hp_k, vu_o, upd_s, upd_n]; done))) R.sn4
  · exact R.li.cong (fun k _ _ _ => (by first | rfl | (simp (disch := omega) only [hp_s, hp_o', hp_k, vu_o, upd_s, upd_n]; done))) (fun b' _ => (by first | rfl | (simp (disch := omega) only [hp_s, hp_o', hp_k, vu_o, upd_s, upd_n]; done))) R.my
  · exact R.lc.cong (fun j => (by first | rfl | (simp (disch := omega) only [hp_s, hp_o', hp_k, vu_o, upd_s, upd_n]; done))) (fun j => (by first | rfl | (simp (disch := omega) only [hp_s, hp_o', hp_k, vu_o, upd_s, upd_n]; done)))
  · exact R.cb.cong (fun b' j _ _ => (by first | rfl | (simp (disch := omega) only [hp_s, hp_o', hp_k, vu_o, upd_s, upd_n]; done))) (fun f c _ _ => (by first | rfl | (simp (disch := omega) only [hp_s, hp_o', hp_k, vu_o, upd_s, upd_n]; done))) (fun b' _ => (by first | rfl | (simp (disch := omega) only [hp_s, hp_o', hp_k, vu_o, upd_s, upd_n]; done)))
  · exact R.cf.cong (fun f _ => (by first | rfl | (simp (disch := omega) only [hp_s, hp_o', hp_k, vu_o, upd_s, upd_n]; done))) (by first | rfl | (simp (disch := omega) only [hp_s, hp_o', hp_k, vu_o, upd_s, upd_n]; done)) (fun f c _ _ => (by first | rfl | (simp (disch := omega) only [hp_s, hp_o', hp_k, vu_o, upd_s, upd_n]; done))) (by first | rfl | (simp (disch := omega) only [hp_s, hp_o', hp_k, vu_o, upd_s, upd_n]; done)) (fun b' _ => (by first | rfl | (simp (disch := omega) only [hp_s, hp_o', hp_k, vu_o, upd_s, upd_n]; done)))
  · exact R.el.cong R.n200 (by first | rfl | (simp (disch := omega) only [hp_s, hp_o', hp_k, vu_o, upd_s, upd_n]; done)) (fun i _ => (by first | rfl | (simp (disch := omega) only [hp_s, hp_o', hp_k, vu_o, upd_s, upd_n]; done))) (fun k _ _ => (by first | rfl | (simp (disch := omega) only [hp_s, hp_o', hp_k, vu_o, upd_s, upd_n]; done))) (fun f c _ _ => (by first | rfl | (simp (disch := omega) only [hp_s, hp_o', hp_k, vu_o, upd_s, upd_n]; done)))
  · exact R.ep.cong R.hL R.hl (fun k _ => (by first | rfl | (simp (disch := omega) only [hp_s, hp_o', hp_k, vu_o, upd_s, upd_n]; done))) (fun f c _ _ => (by first | rfl | (simp (disch := omega) only [hp_s, hp_o', hp_k, vu_o, upd_s, upd_n]; done)))
  · exact R.eh.cong R.hL2 R.sn4 (fun k _ => (by first | rfl | (simp (disch := omega) only [hp_s, hp_o', hp_k, vu_o, upd_s, upd_n]; done))) (fun f c _ _ => (by first | rfl | (simp (disch := omega) only [hp_s, hp_o', hp_k, vu_o, upd_s, upd_n]; done)))
  · exact R.wi.cong (fun j i _ _ => (by first | rfl | (simp (disch := omega) only [hp_s, hp_o', hp_k, vu_o, upd_s, upd_n]; done))) (fun k _ => (by first | rfl | (simp (disch := omega) only [hp_s, hp_o', hp_k, vu_o, upd_s, upd_n]; done)))
  · exact R.ta.cong (fun j _ => (by first | rfl | (simp (disch := omega) only [hp_s, hp_o', hp_k, vu_o, upd_s, upd_n]; done))) (fun k _ _ => (by first | rfl | (simp (disch := omega) only [hp_s, hp_o', hp_k, vu_o, upd_s, upd_n]; done)))
  · exact R.pk.cong (by first | rfl | (simp (disch := omega) only [hp_s, hp_o', hp_k, vu_o, upd_s, upd_n]; done)) (by first | rfl | (simp (disch := omega) only [hp_s, hp_o', hp_k, vu_o, upd_s, upd_n]; done))
  · exact R.kbg.cong (fun b' _ => (by first | rfl | (simp (disch := omega) only [hp_s, hp_o', hp_k, vu_o, upd_s, upd_n]; done))) (fun f c _ _ => (by first | rfl | (simp (disch := omega) only [hp_s, hp_o', hp_k, vu_o, upd_s, upd_n]; done))) (fun b' _ => (by first | rfl | (simp (disch := omega) only [hp_s, hp_o', hp_k, vu_o, upd_s, upd_n]; done)))
  · exact R.px.cong R.hL2 (fun f _ _ => (by first | rfl | (simp (disch := omega) only [hp_s, hp_o', hp_k, vu_o, upd_s, upd_n]; done)))
  · exact R.lt.cong (by first | rfl | (simp (disch := omega) only [hp_s, hp_o', hp_k, vu_o, upd_s, upd_n]; done)) (by first | rfl | (simp (disch := omega) only [hp_s, hp_o', hp_k, vu_o, upd_s, upd_n]; done))
theorem Rel.s7 (R : Rel bg rl tb m y sn Bd n N tk nw ol L h w S) {k : Nat} (hk : k < sn) (v : Int32) : Rel bg rl tb m y sn Bd n N tk nw ol L (hp h (w + 35 + 1 + k) 7 v) w (upd S (3478 + 9 * k + 7) v) := by
  have hs4 := R.sn4
  have hn200 := R.n200
  have hmy := R.my
  refine ⟨?_, ?_, ?_, ?_, ?_, ?_, ?_, ?_, ?_, ?_, ?_, ?_, ?_, ?_, ?_, ?_, ?_, ?_, ?_, ?_, ?_⟩
  · exact R.sc.cong (fun j _ _ => (by first | rfl | (simp (disch := omega) only [hp_s, hp_o', hp_k, vu_o, upd_s, upd_n]; done))) (by first | rfl | (simp (disch := omega) only [hp_s, hp_o', hp_k, vu_o, upd_s, upd_n]; done)) (fun j _ _ _ => (by first | rfl | (simp (disch := omega) only [hp_s, hp_o', hp_k, vu_o, upd_s, upd_n]; done))) (fun k _ _ _ _ => (by first | rfl | (simp (disch := omega) only [hp_s, hp_o', hp_k, vu_o, upd_s, upd_n]; done)))
  · exact R.bk.cong (fun b' j _ _ => (by first | rfl | (simp (disch := omega) only [hp_s, hp_o', hp_k, vu_o, upd_s, upd_n]; done))) (fun b' c _ _ => (by first | rfl | (simp (disch := omega) only [hp_s, hp_o', hp_k, vu_o, upd_s, upd_n]; done)))
  · exact R.fr.cong (fun j f _ _ _ => (by first | rfl | (simp (disch := omega) only [hp_s, hp_o', hp_k, vu_o, upd_s, upd_n]; done))) (fun f c _ _ => (by first | rfl | (simp (disch := omega) only [hp_s, hp_o', hp_k, vu_o, upd_s, upd_n]; done)))
  · refine ⟨fun k' hk' c' hc' h5 => ?_, fun k' hk' => ?_⟩
    · have old := R.ksn.1 k' hk' c' hc' h5
      by_cases e : k' = k
      · subst e
        by_cases e2 : c' = 7
        · subst e2
          rw [hp_s, upd_s]
        · rw [hp_k _ _ e2, upd_n _ _ (by omega), old]
      · rw [hp_o' _ _ (by omega), upd_n _ _ (by omega), old]
    · have old := R.ksn.2 k' hk'
      rw [upd_n _ _ (by omega), old]
      by_cases e : k' = k
      · subst e
        rw [hp_k _ _ (by omega)]
      · rw [hp_o' _ _ (by omega)]
  · exact R.is.cong (fun k _ _ _ _ _ _ => (by first | rfl | (simp (disch := omega) only [hp_s, hp_o', hp_k, vu_o, upd_s, upd_n]; done)))
  · exact R.br.cong (fun b' c _ _ => (by first | rfl | (simp (disch := omega) only [hp_s, hp_o', hp_k, vu_o, upd_s, upd_n]; done)))
  · exact R.fi.cong (fun f c _ _ => (by first | rfl | (simp (disch := omega) only [hp_s, hp_o', hp_k, vu_o, upd_s, upd_n]; done))) R.n200
  · exact R.si.cong (fun k c _ _ => (by first | rfl | (simp (disch := omega) only [hp_s, hp_o', hp_k, vu_o, upd_s, upd_n]; done))) R.sn4
  · exact R.li.cong (fun k _ _ _ => (by first | rfl | (simp (disch := omega) only [hp_s, hp_o', hp_k, vu_o, upd_s, upd_n]; done))) (fun b' _ => (by first | rfl | (simp (disch := omega) only [hp_s, hp_o', hp_k, vu_o, upd_s, upd_n]; done))) R.my
  · exact R.lc.cong (fun j => (by first | rfl | (simp (disch := omega) only [hp_s, hp_o', hp_k, vu_o, upd_s, upd_n]; done))) (fun j => (by first | rfl | (simp (disch := omega) only [hp_s, hp_o', hp_k, vu_o, upd_s, upd_n]; done)))
  · exact R.cb.cong (fun b' j _ _ => (by first | rfl | (simp (disch := omega) only [hp_s, hp_o', hp_k, vu_o, upd_s, upd_n]; done))) (fun f c _ _ => (by first | rfl | (simp (disch := omega) only [hp_s, hp_o', hp_k, vu_o, upd_s, upd_n]; done))) (fun b' _ => (by first | rfl | (simp (disch := omega) only [hp_s, hp_o', hp_k, vu_o, upd_s, upd_n]; done)))
  · exact R.cf.cong (fun f _ => (by first | rfl | (simp (disch := omega) only [hp_s, hp_o', hp_k, vu_o, upd_s, upd_n]; done))) (by first | rfl | (simp (disch := omega) only [hp_s, hp_o', hp_k, vu_o, upd_s, upd_n]; done)) (fun f c _ _ => (by first | rfl | (simp (disch := omega) only [hp_s, hp_o', hp_k, vu_o, upd_s, upd_n]; done))) (by first | rfl | (simp (disch := omega) only [hp_s, hp_o', hp_k, vu_o, upd_s, upd_n]; done)) (fun b' _ => (by first | rfl | (simp (disch := omega) only [hp_s, hp_o', hp_k, vu_o, upd_s, upd_n]; done)))
  · exact R.el.cong R.n200 (by first | rfl | (simp (disch := omega) only [hp_s, hp_o', hp_k, vu_o, upd_s, upd_n]; done)) (fun i _ => (by first | rfl | (simp (disch := omega) only [hp_s, hp_o', hp_k, vu_o, upd_s, upd_n]; done))) (fun k _ _ => (by first | rfl | (simp (disch := omega) only [hp_s, hp_o', hp_k, vu_o, upd_s, upd_n]; done))) (fun f c _ _ => (by first | rfl | (simp (disch := omega) only [hp_s, hp_o', hp_k, vu_o, upd_s, upd_n]; done)))
  · exact R.ep.cong R.hL R.hl (fun k _ => (by first | rfl | (simp (disch := omega) only [hp_s, hp_o', hp_k, vu_o, upd_s, upd_n]; done))) (fun f c _ _ => (by first | rfl | (simp (disch := omega) only [hp_s, hp_o', hp_k, vu_o, upd_s, upd_n]; done)))
  · exact R.eh.cong R.hL2 R.sn4 (fun k _ => (by first | rfl | (simp (disch := omega) only [hp_s, hp_o', hp_k, vu_o, upd_s, upd_n]; done))) (fun f c _ _ => (by first | rfl | (simp (disch := omega) only [hp_s, hp_o', hp_k, vu_o, upd_s, upd_n]; done)))
  · exact R.wi.cong (fun j i _ _ => (by first | rfl | (simp (disch := omega) only [hp_s, hp_o', hp_k, vu_o, upd_s, upd_n]; done))) (fun k _ => (by first | rfl | (simp (disch := omega) only [hp_s, hp_o', hp_k, vu_o, upd_s, upd_n]; done)))
  · exact R.ta.cong (fun j _ => (by first | rfl | (simp (disch := omega) only [hp_s, hp_o', hp_k, vu_o, upd_s, upd_n]; done))) (fun k _ _ => (by first | rfl | (simp (disch := omega) only [hp_s, hp_o', hp_k, vu_o, upd_s, upd_n]; done)))
  · exact R.pk.cong (by first | rfl | (simp (disch := omega) only [hp_s, hp_o', hp_k, vu_o, upd_s, upd_n]; done)) (by first | rfl | (simp (disch := omega) only [hp_s, hp_o', hp_k, vu_o, upd_s, upd_n]; done))
  · exact R.kbg.cong (fun b' _ => (by first | rfl | (simp (disch := omega) only [hp_s, hp_o', hp_k, vu_o, upd_s, upd_n]; done))) (fun f c _ _ => (by first | rfl | (simp (disch := omega) only [hp_s, hp_o', hp_k, vu_o, upd_s, upd_n]; done))) (fun b' _ => (by first | rfl | (simp (disch := omega) only [hp_s, hp_o', hp_k, vu_o, upd_s, upd_n]; done)))
  · exact R.px.cong R.hL2 (fun f _ _ => (by first | rfl | (simp (disch := omega) only [hp_s, hp_o', hp_k, vu_o, upd_s, upd_n]; done)))
  · exact R.lt.cong (by first | rfl | (simp (disch := omega) only [hp_s, hp_o', hp_k, vu_o, upd_s, upd_n]; done)) (by first | rfl | (simp (disch := omega) only [hp_s, hp_o', hp_k, vu_o, upd_s, upd_n]; done))
theorem Rel.s8 (R : Rel bg rl tb m y sn Bd n N tk nw ol L h w S) {k : Nat} (hk : k < sn) (v : Int32) : Rel bg rl tb m y sn Bd n N tk nw ol L (hp h (w + 35 + 1 + k) 8 v) w (upd S (3478 + 9 * k + 8) v) := by
  have hs4 := R.sn4
  have hn200 := R.n200
  have hmy := R.my
  refine ⟨?_, ?_, ?_, ?_, ?_, ?_, ?_, ?_, ?_, ?_, ?_, ?_, ?_, ?_, ?_, ?_, ?_, ?_, ?_, ?_, ?_⟩
  · exact R.sc.cong (fun j _ _ => (by first | rfl | (simp (disch := omega) only [hp_s, hp_o', hp_k, vu_o, upd_s, upd_n]; done))) (by first | rfl | (simp (disch := omega) only [hp_s, hp_o', hp_k, vu_o, upd_s, upd_n]; done)) (fun j _ _ _ => (by first | rfl | (simp (disch := omega) only [hp_s, hp_o', hp_k, vu_o, upd_s, upd_n]; done))) (fun k _ _ _ _ => (by first | rfl | (simp (disch := omega) only [hp_s, hp_o', hp_k, vu_o, upd_s, upd_n]; done)))
  · exact R.bk.cong (fun b' j _ _ => (by first | rfl | (simp (disch := omega) only [hp_s, hp_o', hp_k, vu_o, upd_s, upd_n]; done))) (fun b' c _ _ => (by first | rfl | (simp (disch := omega) only [hp_s, hp_o', hp_k, vu_o, upd_s, upd_n]; done)))
  · exact R.fr.cong (fun j f _ _ _ => (by first | rfl | (simp (disch := omega) only [hp_s, hp_o', hp_k, vu_o, upd_s, upd_n]; done))) (fun f c _ _ => (by first | rfl | (simp (disch := omega) only [hp_s, hp_o', hp_k, vu_o, upd_s, upd_n]; done)))
  · refine ⟨fun k' hk' c' hc' h5 => ?_, fun k' hk' => ?_⟩
    · have old := R.ksn.1 k' hk' c' hc' h5
      by_cases e : k' = k
      · subst e
        by_cases e2 : c' = 8
        · subst e2
          rw [hp_s, upd_s]
        · rw [hp_k _ _ e2, upd_n _ _ (by omega), old]
      · rw [hp_o' _ _ (by omega), upd_n _ _ (by omega), old]
    · have old := R.ksn.2 k' hk'
      rw [upd_n _ _ (by omega), old]
      by_cases e : k' = k
      · subst e
        rw [hp_k _ _ (by omega)]
      · rw [hp_o' _ _ (by omega)]
  · exact R.is.cong (fun k _ _ _ _ _ _ => (by first | rfl | (simp (disch := omega) only [hp_s, hp_o', hp_k, vu_o, upd_s, upd_n]; done)))
  · exact R.br.cong (fun b' c _ _ => (by first | rfl | (simp (disch := omega) only [hp_s, hp_o', hp_k, vu_o, upd_s, upd_n]; done)))
  · exact R.fi.cong (fun f c _ _ => (by first | rfl | (simp (disch := omega) only [hp_s, hp_o', hp_k, vu_o, upd_s, upd_n]; done))) R.n200
  · exact R.si.cong (fun k c _ _ => (by first | rfl | (simp (disch := omega) only [hp_s, hp_o', hp_k, vu_o, upd_s, upd_n]; done))) R.sn4
  · exact R.li.cong (fun k _ _ _ => (by first | rfl | (simp (disch := omega) only [hp_s, hp_o', hp_k, vu_o, upd_s, upd_n]; done))) (fun b' _ => (by first | rfl | (simp (disch := omega) only [hp_s, hp_o', hp_k, vu_o, upd_s, upd_n]; done))) R.my
  · exact R.lc.cong (fun j => (by first | rfl | (simp (disch := omega) only [hp_s, hp_o', hp_k, vu_o, upd_s, upd_n]; done))) (fun j => (by first | rfl | (simp (disch := omega) only [hp_s, hp_o', hp_k, vu_o, upd_s, upd_n]; done)))
  · exact R.cb.cong (fun b' j _ _ => (by first | rfl | (simp (disch := omega) only [hp_s, hp_o', hp_k, vu_o, upd_s, upd_n]; done))) (fun f c _ _ => (by first | rfl | (simp (disch := omega) only [hp_s, hp_o', hp_k, vu_o, upd_s, upd_n]; done))) (fun b' _ => (by first | rfl | (simp (disch := omega) only [hp_s, hp_o', hp_k, vu_o, upd_s, upd_n]; done)))
  · exact R.cf.cong (fun f _ => (by first | rfl | (simp (disch := omega) only [hp_s, hp_o', hp_k, vu_o, upd_s, upd_n]; done))) (by first | rfl | (simp (disch := omega) only [hp_s, hp_o', hp_k, vu_o, upd_s, upd_n]; done)) (fun f c _ _ => (by first | rfl | (simp (disch := omega) only [hp_s, hp_o', hp_k, vu_o, upd_s, upd_n]; done))) (by first | rfl | (simp (disch := omega) only [hp_s, hp_o', hp_k, vu_o, upd_s, upd_n]; done)) (fun b' _ => (by first | rfl | (simp (disch := omega) only [hp_s, hp_o', hp_k, vu_o, upd_s, upd_n]; done)))
  · exact R.el.cong R.n200 (by first | rfl | (simp (disch := omega) only [hp_s, hp_o', hp_k, vu_o, upd_s, upd_n]; done)) (fun i _ => (by first | rfl | (simp (disch := omega) only [hp_s, hp_o', hp_k, vu_o, upd_s, upd_n]; done))) (fun k _ _ => (by first | rfl | (simp (disch := omega) only [hp_s, hp_o', hp_k, vu_o, upd_s, upd_n]; done))) (fun f c _ _ => (by first | rfl | (simp (disch := omega) only [hp_s, hp_o', hp_k, vu_o, upd_s, upd_n]; done)))
  · exact R.ep.cong R.hL R.hl (fun k _ => (by first | rfl | (simp (disch := omega) only [hp_s, hp_o', hp_k, vu_o, upd_s, upd_n]; done))) (fun f c _ _ => (by first | rfl | (simp (disch := omega) only [hp_s, hp_o', hp_k, vu_o, upd_s, upd_n]; done)))
  · exact R.eh.cong R.hL2 R.sn4 (fun k _ => (by first | rfl | (simp (disch := omega) only [hp_s, hp_o', hp_k, vu_o, upd_s, upd_n]; done))) (fun f c _ _ => (by first | rfl | (simp (disch := omega) only [hp_s, hp_o', hp_k, vu_o, upd_s, upd_n]; done)))
  · exact R.wi.cong (fun j i _ _ => (by first | rfl | (simp (disch := omega) only [hp_s, hp_o', hp_k, vu_o, upd_s, upd_n]; done))) (fun k _ => (by first | rfl | (simp (disch := omega) only [hp_s, hp_o', hp_k, vu_o, upd_s, upd_n]; done)))
  · exact R.ta.cong (fun j _ => (by first | rfl | (simp (disch := omega) only [hp_s, hp_o', hp_k, vu_o, upd_s, upd_n]; done))) (fun k _ _ => (by first | rfl | (simp (disch := omega) only [hp_s, hp_o', hp_k, vu_o, upd_s, upd_n]; done)))
  · exact R.pk.cong (by first | rfl | (simp (disch := omega) only [hp_s, hp_o', hp_k, vu_o, upd_s, upd_n]; done)) (by first | rfl | (simp (disch := omega) only [hp_s, hp_o', hp_k, vu_o, upd_s, upd_n]; done))
  · exact R.kbg.cong (fun b' _ => (by first | rfl | (simp (disch := omega) only [hp_s, hp_o', hp_k, vu_o, upd_s, upd_n]; done))) (fun f c _ _ => (by first | rfl | (simp (disch := omega) only [hp_s, hp_o', hp_k, vu_o, upd_s, upd_n]; done))) (fun b' _ => (by first | rfl | (simp (disch := omega) only [hp_s, hp_o', hp_k, vu_o, upd_s, upd_n]; done)))
  · exact R.px.cong R.hL2 (fun f _ _ => (by first | rfl | (simp (disch := omega) only [hp_s, hp_o', hp_k, vu_o, upd_s, upd_n]; done)))
  · exact R.lt.cong (by first | rfl | (simp (disch := omega) only [hp_s, hp_o', hp_k, vu_o, upd_s, upd_n]; done)) (by first | rfl | (simp (disch := omega) only [hp_s, hp_o', hp_k, vu_o, upd_s, upd_n]; done))
theorem Rel.s5 (R : Rel bg rl tb m y sn Bd n N tk nw ol L h w S) {k : Nat} (hk : k < sn) (v : Int32) : Rel bg rl tb m y sn Bd n N tk nw ol L (hp h (w + 35 + 1 + k) 5 v) w (upd S (3478 + 9 * k + 5) (v + tb (4 + k))) := by
  have hs4 := R.sn4
  have hn200 := R.n200
  have hmy := R.my
  refine ⟨?_, ?_, ?_, ?_, ?_, ?_, ?_, ?_, ?_, ?_, ?_, ?_, ?_, ?_, ?_, ?_, ?_, ?_, ?_, ?_, ?_⟩
  · exact R.sc.cong (fun j _ _ => (by first | rfl | (simp (disch := omega) only [hp_s, hp_o', hp_k, vu_o, upd_s, upd_n]; done))) (by first | rfl | (simp (disch := omega) only [hp_s, hp_o', hp_k, vu_o, upd_s, upd_n]; done)) (fun j _ _ _ => (by first | rfl | (simp (disch := omega) only [hp_s, hp_o', hp_k, vu_o, upd_s, upd_n]; done))) (fun k _ _ _ _ => (by first | rfl | (simp (disch := omega) only [hp_s, hp_o', hp_k, vu_o, upd_s, upd_n]; done)))
  · exact R.bk.cong (fun b' j _ _ => (by first | rfl | (simp (disch := omega) only [hp_s, hp_o', hp_k, vu_o, upd_s, upd_n]; done))) (fun b' c _ _ => (by first | rfl | (simp (disch := omega) only [hp_s, hp_o', hp_k, vu_o, upd_s, upd_n]; done)))
  · exact R.fr.cong (fun j f _ _ _ => (by first | rfl | (simp (disch := omega) only [hp_s, hp_o', hp_k, vu_o, upd_s, upd_n]; done))) (fun f c _ _ => (by first | rfl | (simp (disch := omega) only [hp_s, hp_o', hp_k, vu_o, upd_s, upd_n]; done)))
  · refine ⟨fun k' hk' c' hc' h5 => ?_, fun k' hk' => ?_⟩
    · have old := R.ksn.1 k' hk' c' hc' h5
      rw [upd_n _ _ (by omega), ← old]
      by_cases e : k' = k
      · subst e
        rw [hp_k _ _ h5]
      · rw [hp_o' _ _ (by omega)]
    · by_cases e : k' = k
      · subst e
        rw [hp_s, upd_s]
      · rw [hp_o' _ _ (by omega), upd_n _ _ (by omega), R.ksn.2 k' hk']
  · exact R.is.cong (fun k _ _ _ _ _ _ => (by first | rfl | (simp (disch := omega) only [hp_s, hp_o', hp_k, vu_o, upd_s, upd_n]; done)))
  · exact R.br.cong (fun b' c _ _ => (by first | rfl | (simp (disch := omega) only [hp_s, hp_o', hp_k, vu_o, upd_s, upd_n]; done)))
  · exact R.fi.cong (fun f c _ _ => (by first | rfl | (simp (disch := omega) only [hp_s, hp_o', hp_k, vu_o, upd_s, upd_n]; done))) R.n200
  · exact R.si.cong (fun k c _ _ => (by first | rfl | (simp (disch := omega) only [hp_s, hp_o', hp_k, vu_o, upd_s, upd_n]; done))) R.sn4
  · exact R.li.cong (fun k _ _ _ => (by first | rfl | (simp (disch := omega) only [hp_s, hp_o', hp_k, vu_o, upd_s, upd_n]; done))) (fun b' _ => (by first | rfl | (simp (disch := omega) only [hp_s, hp_o', hp_k, vu_o, upd_s, upd_n]; done))) R.my
  · exact R.lc.cong (fun j => (by first | rfl | (simp (disch := omega) only [hp_s, hp_o', hp_k, vu_o, upd_s, upd_n]; done))) (fun j => (by first | rfl | (simp (disch := omega) only [hp_s, hp_o', hp_k, vu_o, upd_s, upd_n]; done)))
  · exact R.cb.cong (fun b' j _ _ => (by first | rfl | (simp (disch := omega) only [hp_s, hp_o', hp_k, vu_o, upd_s, upd_n]; done))) (fun f c _ _ => (by first | rfl | (simp (disch := omega) only [hp_s, hp_o', hp_k, vu_o, upd_s, upd_n]; done))) (fun b' _ => (by first | rfl | (simp (disch := omega) only [hp_s, hp_o', hp_k, vu_o, upd_s, upd_n]; done)))
  · exact R.cf.cong (fun f _ => (by first | rfl | (simp (disch := omega) only [hp_s, hp_o', hp_k, vu_o, upd_s, upd_n]; done))) (by first | rfl | (simp (disch := omega) only [hp_s, hp_o', hp_k, vu_o, upd_s, upd_n]; done)) (fun f c _ _ => (by first | rfl | (simp (disch := omega) only [hp_s, hp_o', hp_k, vu_o, upd_s, upd_n]; done))) (by first | rfl | (simp (disch := omega) only [hp_s, hp_o', hp_k, vu_o, upd_s, upd_n]; done)) (fun b' _ => (by first | rfl | (simp (disch := omega) only [hp_s, hp_o', hp_k, vu_o, upd_s, upd_n]; done)))
  · exact R.el.cong R.n200 (by first | rfl | (simp (disch := omega) only [hp_s, hp_o', hp_k, vu_o, upd_s, upd_n]; done)) (fun i _ => (by first | rfl | (simp (disch := omega) only [hp_s, hp_o', hp_k, vu_o, upd_s, upd_n]; done))) (fun k _ _ => (by first | rfl | (simp (disch := omega) only [hp_s, hp_o', hp_k, vu_o, upd_s, upd_n]; done))) (fun f c _ _ => (by first | rfl | (simp (disch := omega) only [hp_s, hp_o', hp_k, vu_o, upd_s, upd_n]; done)))
  · exact R.ep.cong R.hL R.hl (fun k _ => (by first | rfl | (simp (disch := omega) only [hp_s, hp_o', hp_k, vu_o, upd_s, upd_n]; done))) (fun f c _ _ => (by first | rfl | (simp (disch := omega) only [hp_s, hp_o', hp_k, vu_o, upd_s, upd_n]; done)))
  · exact R.eh.cong R.hL2 R.sn4 (fun k _ => (by first | rfl | (simp (disch := omega) only [hp_s, hp_o', hp_k, vu_o, upd_s, upd_n]; done))) (fun f c _ _ => (by first | rfl | (simp (disch := omega) only [hp_s, hp_o', hp_k, vu_o, upd_s, upd_n]; done)))
  · exact R.wi.cong (fun j i _ _ => (by first | rfl | (simp (disch := omega) only [hp_s, hp_o', hp_k, vu_o, upd_s, upd_n]; done))) (fun k _ => (by first | rfl | (simp (disch := omega) only [hp_s, hp_o', hp_k, vu_o, upd_s, upd_n]; done)))
  · exact R.ta.cong (fun j _ => (by first | rfl | (simp (disch := omega) only [hp_s, hp_o', hp_k, vu_o, upd_s, upd_n]; done))) (fun k _ _ => (by first | rfl | (simp (disch := omega) only [hp_s, hp_o', hp_k, vu_o, upd_s, upd_n]; done)))
  · exact R.pk.cong (by first | rfl | (simp (disch := omega) only [hp_s, hp_o', hp_k, vu_o, upd_s, upd_n]; done)) (by first | rfl | (simp (disch := omega) only [hp_s, hp_o', hp_k, vu_o, upd_s, upd_n]; done))
  · exact R.kbg.cong (fun b' _ => (by first | rfl | (simp (disch := omega) only [hp_s, hp_o', hp_k, vu_o, upd_s, upd_n]; done))) (fun f c _ _ => (by first | rfl | (simp (disch := omega) only [hp_s, hp_o', hp_k, vu_o, upd_s, upd_n]; done))) (fun b' _ => (by first | rfl | (simp (disch := omega) only [hp_s, hp_o', hp_k, vu_o, upd_s, upd_n]; done)))
  · exact R.px.cong R.hL2 (fun f _ _ => (by first | rfl | (simp (disch := omega) only [hp_s, hp_o', hp_k, vu_o, upd_s, upd_n]; done)))
  · exact R.lt.cong (by first | rfl | (simp (disch := omega) only [hp_s, hp_o', hp_k, vu_o, upd_s, upd_n]; done)) (by first | rfl | (simp (disch := omega) only [hp_s, hp_o', hp_k, vu_o, upd_s, upd_n]; done))
def tbu (tb : Nat → Int32) (j : Nat) (x : Int32) : Nat → Int32 := upd tb j x
theorem Rel.mout (R : Rel bg rl tb m y sn Bd n N tk nw ol L h w S) {k : Nat} (hk : k < sn) (h0 : tb (4 + k) = 0) : Rel bg rl (tbu tb (4 + k) 1) m y sn Bd n N tk nw ol L h w (upd S (3478 + 9 * k + 5) (S (3478 + 9 * k + 5) + 1)) := by
  have hs4 := R.sn4
  have hn200 := R.n200
  have hmy := R.my
  refine ⟨?_, ?_, ?_, ?_, ?_, ?_, ?_, ?_, ?_, ?_, ?_, ?_, ?_, ?_, ?_, ?_, ?_, ?_, ?_, ?_, ?_⟩
  · exact R.sc.cong (fun j _ _ => (by first | rfl | (simp (disch := omega) only [hp_s, hp_o', hp_k, vu_o, upd_s, upd_n]; done))) (by first | rfl | (simp (disch := omega) only [hp_s, hp_o', hp_k, vu_o, upd_s, upd_n]; done)) (fun j _ _ _ => (by first | rfl | (simp (disch := omega) only [hp_s, hp_o', hp_k, vu_o, upd_s, upd_n]; done))) (fun k _ _ _ _ => (by first | rfl | (simp (disch := omega) only [hp_s, hp_o', hp_k, vu_o, upd_s, upd_n]; done)))
  · exact R.bk.cong (fun b' j _ _ => (by first | rfl | (simp (disch := omega) only [hp_s, hp_o', hp_k, vu_o, upd_s, upd_n]; done))) (fun b' c _ _ => (by first | rfl | (simp (disch := omega) only [hp_s, hp_o', hp_k, vu_o, upd_s, upd_n]; done)))
  · exact R.fr.cong (fun j f _ _ _ => (by first | rfl | (simp (disch := omega) only [hp_s, hp_o', hp_k, vu_o, upd_s, upd_n]; done))) (fun f c _ _ => (by first | rfl | (simp (disch := omega) only [hp_s, hp_o', hp_k, vu_o, upd_s, upd_n]; done)))
  · refine ⟨fun k' hk' c' hc' h5 => ?_, fun k' hk' => ?_⟩
    · rw [upd_n _ _ (by omega), R.ksn.1 k' hk' c' hc' h5]
    · have old := R.ksn.2 k' hk'
      unfold tbu
      by_cases e : k' = k
      · subst e
        rw [upd_s, upd_s, old, h0, Int32.add_zero]
      · rw [upd_n _ _ (by omega), upd_n _ _ (by omega), old]
  · exact R.is.cong (fun k _ _ _ _ _ _ => (by first | rfl | (simp (disch := omega) only [hp_s, hp_o', hp_k, vu_o, upd_s, upd_n]; done)))
  · exact R.br.cong (fun b' c _ _ => (by first | rfl | (simp (disch := omega) only [hp_s, hp_o', hp_k, vu_o, upd_s, upd_n]; done)))
  · exact R.fi.cong (fun f c _ _ => (by first | rfl | (simp (disch := omega) only [hp_s, hp_o', hp_k, vu_o, upd_s, upd_n]; done))) R.n200
  · exact R.si.cong (fun k c _ _ => (by first | rfl | (simp (disch := omega) only [hp_s, hp_o', hp_k, vu_o, upd_s, upd_n]; done))) R.sn4
  · exact R.li.cong (fun k _ _ _ => (by first | rfl | (simp (disch := omega) only [hp_s, hp_o', hp_k, vu_o, upd_s, upd_n]; done))) (fun b' _ => (by first | rfl | (simp (disch := omega) only [hp_s, hp_o', hp_k, vu_o, upd_s, upd_n]; done))) R.my
  · exact R.lc.cong (fun j => (by first | rfl | (simp (disch := omega) only [hp_s, hp_o', hp_k, vu_o, upd_s, upd_n]; done))) (fun j => (by first | rfl | (simp (disch := omega) only [hp_s, hp_o', hp_k, vu_o, upd_s, upd_n]; done)))
  · exact R.cb.cong (fun b' j _ _ => (by first | rfl | (simp (disch := omega) only [hp_s, hp_o', hp_k, vu_o, upd_s, upd_n]; done))) (fun f c _ _ => (by first | rfl | (simp (disch := omega) only [hp_s, hp_o', hp_k, vu_o, upd_s, upd_n]; done))) (fun b' _ => (by first | rfl | (simp (disch := omega) only [hp_s, hp_o', hp_k, vu_o, upd_s, upd_n]; done)))
  · exact R.cf.cong (fun f _ => (by first | rfl | (simp (disch := omega) only [hp_s, hp_o', hp_k, vu_o, upd_s, upd_n]; done))) (by first | rfl | (simp (disch := omega) only [hp_s, hp_o', hp_k, vu_o, upd_s, upd_n]; done)) (fun f c _ _ => (by first | rfl | (simp (disch := omega) only [hp_s, hp_o', hp_k, vu_o, upd_s, upd_n]; done))) (by first | rfl | (simp (disch := omega) only [hp_s, hp_o', hp_k, vu_o, upd_s, upd_n]; done)) (fun b' _ => (by first | rfl | (simp (disch := omega) only [hp_s, hp_o', hp_k, vu_o, upd_s, upd_n]; done)))
  · exact R.el.cong R.n200 (by first | rfl | (simp (disch := omega) only [hp_s, hp_o', hp_k, vu_o, upd_s, upd_n]; done)) (fun i _ => (by first | rfl | (simp (disch := omega) only [hp_s, hp_o', hp_k, vu_o, upd_s, upd_n]; done))) (fun k _ _ => (by first | rfl | (simp (disch := omega) only [hp_s, hp_o', hp_k, vu_o, upd_s, upd_n]; done))) (fun f c _ _ => (by first | rfl | (simp (disch := omega) only [hp_s, hp_o', hp_k, vu_o, upd_s, upd_n]; done)))
  · exact R.ep.cong R.hL R.hl (fun k _ => (by first | rfl | (simp (disch := omega) only [hp_s, hp_o', hp_k, vu_o, upd_s, upd_n]; done))) (fun f c _ _ => (by first | rfl | (simp (disch := omega) only [hp_s, hp_o', hp_k, vu_o, upd_s, upd_n]; done)))
  · exact R.eh.cong R.hL2 R.sn4 (fun k _ => (by first | rfl | (simp (disch := omega) only [hp_s, hp_o', hp_k, vu_o, upd_s, upd_n]; done))) (fun f c _ _ => (by first | rfl | (simp (disch := omega) only [hp_s, hp_o', hp_k, vu_o, upd_s, upd_n]; done)))
  · exact R.wi.cong (fun j i _ _ => (by first | rfl | (simp (disch := omega) only [hp_s, hp_o', hp_k, vu_o, upd_s, upd_n]; done))) (fun k _ => (by first | rfl | (simp (disch := omega) only [hp_s, hp_o', hp_k, vu_o, upd_s, upd_n]; done)))
  · obtain ⟨e1, e2, e3, e4⟩ := R.ta
    unfold tbu
    refine ⟨?_, ?_, ?_, ?_⟩ <;> rw [upd_n _ _ (by omega), upd_n _ _ (by omega)] <;> assumption
  · obtain ⟨e1, e2⟩ := R.pk
    refine ⟨e1, fun u => ?_⟩
    rw [upd_n _ _ (by omega)]
    unfold tbu at u
    rw [upd_n _ _ (by omega)] at u
    exact e2 u
  · exact R.kbg.cong (fun b' _ => (by first | rfl | (simp (disch := omega) only [hp_s, hp_o', hp_k, vu_o, upd_s, upd_n]; done))) (fun f c _ _ => (by first | rfl | (simp (disch := omega) only [hp_s, hp_o', hp_k, vu_o, upd_s, upd_n]; done))) (fun b' _ => (by first | rfl | (simp (disch := omega) only [hp_s, hp_o', hp_k, vu_o, upd_s, upd_n]; done)))
  · obtain ⟨P, E, e1, e2, e3, e4⟩ := R.px.cong R.hL2 (S' := upd S (3478 + 9 * k + 5) (S (3478 + 9 * k + 5) + 1)) (fun f _ _ => upd_n _ _ (by omega))
    refine ⟨P, E, e1, e2, ?_, ?_⟩
    · unfold tbu
      rw [upd_n _ _ (by omega)]
      exact e3
    · unfold tbu
      rw [upd_n _ _ (by omega)]
      exact e4
  · unfold kLT tbu
    rw [upd_n _ _ (by omega)]
    exact R.lt
theorem Rel.cout {k : Nat} (R : Rel bg rl (tbu tb (4 + k) 1) m y sn Bd n N tk nw ol L h w S) (hk : k < sn) (h0 : tb (4 + k) = 0) : Rel bg rl tb m y sn Bd n N tk nw ol L (hp h (w + 35 + 1 + k) 5 (h (w + 35 + 1 + k) 5 + 1)) w S := by
  have hs4 := R.sn4
  have hn200 := R.n200
  have hmy := R.my
  refine ⟨?_, ?_, ?_, ?_, ?_, ?_, ?_, ?_, ?_, ?_, ?_, ?_, ?_, ?_, ?_, ?_, ?_, ?_, ?_, ?_, ?_⟩
  · exact R.sc.cong (fun j _ _ => (by first | rfl | (simp (disch := omega) only [hp_s, hp_o', hp_k, vu_o, upd_s, upd_n]; done))) (by first | rfl | (simp (disch := omega) only [hp_s, hp_o', hp_k, vu_o, upd_s, upd_n]; done)) (fun j _ _ _ => (by first | rfl | (simp (disch := omega) only [hp_s, hp_o', hp_k, vu_o, upd_s, upd_n]; done))) (fun k _ _ _ _ => (by first | rfl | (simp (disch := omega) only [hp_s, hp_o', hp_k, vu_o, upd_s, upd_n]; done)))
  · exact R.bk.cong (fun b' j _ _ => (by first | rfl | (simp (disch := omega) only [hp_s, hp_o', hp_k, vu_o, upd_s, upd_n]; done))) (fun b' c _ _ => (by first | rfl | (simp (disch := omega) only [hp_s, hp_o', hp_k, vu_o, upd_s, upd_n]; done)))
  · exact R.fr.cong (fun j f _ _ _ => (by first | rfl | (simp (disch := omega) only [hp_s, hp_o', hp_k, vu_o, upd_s, upd_n]; done))) (fun f c _ _ => (by first | rfl | (simp (disch := omega) only [hp_s, hp_o', hp_k, vu_o, upd_s, upd_n]; done)))
  · refine ⟨fun k' hk' c' hc' h5 => ?_, fun k' hk' => ?_⟩
    · have old := R.ksn.1 k' hk' c' hc' h5
      by_cases e : k' = k
      · subst e
        rw [hp_k _ _ h5, old]
      · rw [hp_o' _ _ (by omega), old]
    · have old := R.ksn.2 k' hk'
      unfold tbu at old
      by_cases e : k' = k
      · subst e
        rw [upd_s] at old
        rw [hp_s, h0, Int32.add_zero, old]
      · rw [upd_n _ _ (by omega)] at old
        rw [hp_o' _ _ (by omega), old]
  · exact R.is.cong (fun k _ _ _ _ _ _ => (by first | rfl | (simp (disch := omega) only [hp_s, hp_o', hp_k, vu_o, upd_s, upd_n]; done)))
  · exact R.br.cong (fun b' c _ _ => (by first | rfl | (simp (disch := omega) only [hp_s, hp_o', hp_k, vu_o, upd_s, upd_n]; done)))
  · exact R.fi.cong (fun f c _ _ => (by first | rfl | (simp (disch := omega) only [hp_s, hp_o', hp_k, vu_o, upd_s, upd_n]; done))) R.n200
  · exact R.si.cong (fun k c _ _ => (by first | rfl | (simp (disch := omega) only [hp_s, hp_o', hp_k, vu_o, upd_s, upd_n]; done))) R.sn4
  · exact R.li.cong (fun k _ _ _ => (by first | rfl | (simp (disch := omega) only [hp_s, hp_o', hp_k, vu_o, upd_s, upd_n]; done))) (fun b' _ => (by first | rfl | (simp (disch := omega) only [hp_s, hp_o', hp_k, vu_o, upd_s, upd_n]; done))) R.my
  · exact R.lc.cong (fun j => (by first | rfl | (simp (disch := omega) only [hp_s, hp_o', hp_k, vu_o, upd_s, upd_n]; done))) (fun j => (by first | rfl | (simp (disch := omega) only [hp_s, hp_o', hp_k, vu_o, upd_s, upd_n]; done)))
  · exact R.cb.cong (fun b' j _ _ => (by first | rfl | (simp (disch := omega) only [hp_s, hp_o', hp_k, vu_o, upd_s, upd_n]; done))) (fun f c _ _ => (by first | rfl | (simp (disch := omega) only [hp_s, hp_o', hp_k, vu_o, upd_s, upd_n]; done))) (fun b' _ => (by first | rfl | (simp (disch := omega) only [hp_s, hp_o', hp_k, vu_o, upd_s, upd_n]; done)))
  · exact R.cf.cong (fun f _ => (by first | rfl | (simp (disch := omega) only [hp_s, hp_o', hp_k, vu_o, upd_s, upd_n]; done))) (by first | rfl | (simp (disch := omega) only [hp_s, hp_o', hp_k, vu_o, upd_s, upd_n]; done)) (fun f c _ _ => (by first | rfl | (simp (disch := omega) only [hp_s, hp_o', hp_k, vu_o, upd_s, upd_n]; done))) (by first | rfl | (simp (disch := omega) only [hp_s, hp_o', hp_k, vu_o, upd_s, upd_n]; done)) (fun b' _ => (by first | rfl | (simp (disch := omega) only [hp_s, hp_o', hp_k, vu_o, upd_s, upd_n]; done)))
  · exact R.el.cong R.n200 (by first | rfl | (simp (disch := omega) only [hp_s, hp_o', hp_k, vu_o, upd_s, upd_n]; done)) (fun i _ => (by first | rfl | (simp (disch := omega) only [hp_s, hp_o', hp_k, vu_o, upd_s, upd_n]; done))) (fun k _ _ => (by first | rfl | (simp (disch := omega) only [hp_s, hp_o', hp_k, vu_o, upd_s, upd_n]; done))) (fun f c _ _ => (by first | rfl | (simp (disch := omega) only [hp_s, hp_o', hp_k, vu_o, upd_s, upd_n]; done)))
  · exact R.ep.cong R.hL R.hl (fun k _ => (by first | rfl | (simp (disch := omega) only [hp_s, hp_o', hp_k, vu_o, upd_s, upd_n]; done))) (fun f c _ _ => (by first | rfl | (simp (disch := omega) only [hp_s, hp_o', hp_k, vu_o, upd_s, upd_n]; done)))
  · exact R.eh.cong R.hL2 R.sn4 (fun k _ => (by first | rfl | (simp (disch := omega) only [hp_s, hp_o', hp_k, vu_o, upd_s, upd_n]; done))) (fun f c _ _ => (by first | rfl | (simp (disch := omega) only [hp_s, hp_o', hp_k, vu_o, upd_s, upd_n]; done)))
  · exact R.wi.cong (fun j i _ _ => (by first | rfl | (simp (disch := omega) only [hp_s, hp_o', hp_k, vu_o, upd_s, upd_n]; done))) (fun k _ => (by first | rfl | (simp (disch := omega) only [hp_s, hp_o', hp_k, vu_o, upd_s, upd_n]; done)))
  · have R2 := R.ta.cong (w' := w) (h' := hp h (w + 35 + 1 + k) 5 (h (w + 35 + 1 + k) 5 + 1)) (S' := S) (fun j _ => hp_o' _ _ (by omega)) (fun _ _ _ => rfl)
    obtain ⟨e1, e2, e3, e4⟩ := R2
    unfold tbu at e1 e2 e3 e4
    rw [upd_n _ _ (by omega)] at e1 e2 e3 e4
    exact ⟨e1, e2, e3, e4⟩
  · obtain ⟨e1, e2⟩ := R.pk
    rw [← hp_o' h (o := w + 35 + 1 + k) (k := 5) (h (w + 35 + 1 + k) 5 + 1) (show w ≠ w + 35 + 1 + k by omega)] at e1 e2
    refine ⟨e1, fun u => e2 ?_⟩
    unfold tbu
    rw [upd_n _ _ (by omega)]
    exact u
  · exact R.kbg.cong (fun b' _ => (by first | rfl | (simp (disch := omega) only [hp_s, hp_o', hp_k, vu_o, upd_s, upd_n]; done))) (fun f c _ _ => (by first | rfl | (simp (disch := omega) only [hp_s, hp_o', hp_k, vu_o, upd_s, upd_n]; done))) (fun b' _ => (by first | rfl | (simp (disch := omega) only [hp_s, hp_o', hp_k, vu_o, upd_s, upd_n]; done)))
  · obtain ⟨P, E, e1, e2, e3, e4⟩ := R.px
    unfold tbu at e3 e4
    rw [upd_n _ _ (by omega)] at e3 e4
    exact ⟨P, E, e1, e2, e3, e4⟩
  · obtain ⟨e1, e2⟩ := R.lt
    unfold tbu at e1 e2
    rw [upd_n _ _ (by omega)] at e1 e2
    refine ⟨?_, ?_⟩
    · rw [hp_o' _ _ (by omega)]
      exact e1
    · rw [hp_o' _ _ (by omega)]
      exact e2
theorem Rel.seenO (R : Rel bg rl tb m y sn Bd n N tk nw ol L h w S) {k s f : Nat} (hk : k < sn) (hse : h (w + 35 + 1 + k) 9 = nI s) (hf : L[s]? = some f) (hown : S (276 + 12 * f + 10) = nI k) : Rel bg rl tb m y sn Bd n N tk nw ol L (hp h (w + 35 + 1 + k) 9 (nI (s + 1))) w (upd S (276 + 12 * f + 11) 1) := by
  have hs4 := R.sn4
  have hfn := R.hL2 f (List.mem_of_getElem? hf)
  have hsl := (List.getElem?_eq_some_iff.mp hf).1
  have hLl := R.el.lr200 R.n200
  have hll : L.length ≤ 200 := Nat.le_trans (nd_len n L R.el.2.2.2.2.1 R.hL2) R.n200
  have hn200 := R.n200
  have hmy := R.my
  refine ⟨?_, ?_, ?_, ?_, ?_, ?_, ?_, ?_, ?_, ?_, ?_, ?_, ?_, ?_, ?_, ?_, ?_, ?_, ?_, ?_, ?_⟩
  · exact R.sc.cong (fun j _ _ => (by first | rfl | (simp (disch := omega) only [hp_s, hp_o', hp_k, vu_o, upd_s, upd_n]; done))) (by first | rfl | (simp (disch := omega) only [hp_s, hp_o', hp_k, vu_o, upd_s, upd_n]; done)) (fun j _ _ _ => (by first | rfl | (simp (disch := omega) only [hp_s, hp_o', hp_k, vu_o, upd_s, upd_n]; done))) (fun k _ _ _ _ => (by first | rfl | (simp (disch := omega) only [hp_s, hp_o', hp_k, vu_o, upd_s, upd_n]; done)))
  · exact R.bk.cong (fun b' j _ _ => (by first | rfl | (simp (disch := omega) only [hp_s, hp_o', hp_k, vu_o, upd_s, upd_n]; done))) (fun b' c _ _ => (by first | rfl | (simp (disch := omega) only [hp_s, hp_o', hp_k, vu_o, upd_s, upd_n]; done)))
  · exact R.fr.cong (fun j f _ _ _ => (by first | rfl | (simp (disch := omega) only [hp_s, hp_o', hp_k, vu_o, upd_s, upd_n]; done))) (fun f c _ _ => (by first | rfl | (simp (disch := omega) only [hp_s, hp_o', hp_k, vu_o, upd_s, upd_n]; done)))
  · exact R.ksn.cong (fun k j _ _ => (by first | rfl | (simp (disch := omega) only [hp_s, hp_o', hp_k, vu_o, upd_s, upd_n]; done))) (fun k _ _ => (by first | rfl | (simp (disch := omega) only [hp_s, hp_o', hp_k, vu_o, upd_s, upd_n]; done))) R.sn4
  · exact R.is.cong (fun k _ _ _ _ _ _ => (by first | rfl | (simp (disch := omega) only [hp_s, hp_o', hp_k, vu_o, upd_s, upd_n]; done)))
  · exact R.br.cong (fun b' c _ _ => (by first | rfl | (simp (disch := omega) only [hp_s, hp_o', hp_k, vu_o, upd_s, upd_n]; done)))
  · exact R.fi.cong (fun f c _ _ => (by first | rfl | (simp (disch := omega) only [hp_s, hp_o', hp_k, vu_o, upd_s, upd_n]; done))) R.n200
  · exact R.si.cong (fun k c _ _ => (by first | rfl | (simp (disch := omega) only [hp_s, hp_o', hp_k, vu_o, upd_s, upd_n]; done))) R.sn4
  · exact R.li.cong (fun k _ _ _ => (by first | rfl | (simp (disch := omega) only [hp_s, hp_o', hp_k, vu_o, upd_s, upd_n]; done))) (fun b' _ => (by first | rfl | (simp (disch := omega) only [hp_s, hp_o', hp_k, vu_o, upd_s, upd_n]; done))) R.my
  · exact R.lc.cong (fun j => (by first | rfl | (simp (disch := omega) only [hp_s, hp_o', hp_k, vu_o, upd_s, upd_n]; done))) (fun j => (by first | rfl | (simp (disch := omega) only [hp_s, hp_o', hp_k, vu_o, upd_s, upd_n]; done)))
  · exact R.cb.cong (fun b' j _ _ => (by first | rfl | (simp (disch := omega) only [hp_s, hp_o', hp_k, vu_o, upd_s, upd_n]; done))) (fun f c _ _ => (by first | rfl | (simp (disch := omega) only [hp_s, hp_o', hp_k, vu_o, upd_s, upd_n]; done))) (fun b' _ => (by first | rfl | (simp (disch := omega) only [hp_s, hp_o', hp_k, vu_o, upd_s, upd_n]; done)))
  · exact R.cf.cong (fun f _ => (by first | rfl | (simp (disch := omega) only [hp_s, hp_o', hp_k, vu_o, upd_s, upd_n]; done))) (by first | rfl | (simp (disch := omega) only [hp_s, hp_o', hp_k, vu_o, upd_s, upd_n]; done)) (fun f c _ _ => (by first | rfl | (simp (disch := omega) only [hp_s, hp_o', hp_k, vu_o, upd_s, upd_n]; done))) (by first | rfl | (simp (disch := omega) only [hp_s, hp_o', hp_k, vu_o, upd_s, upd_n]; done)) (fun b' _ => (by first | rfl | (simp (disch := omega) only [hp_s, hp_o', hp_k, vu_o, upd_s, upd_n]; done)))
  · exact R.el.cong R.n200 (by first | rfl | (simp (disch := omega) only [hp_s, hp_o', hp_k, vu_o, upd_s, upd_n]; done)) (fun i _ => (by first | rfl | (simp (disch := omega) only [hp_s, hp_o', hp_k, vu_o, upd_s, upd_n]; done))) (fun k _ _ => (by first | rfl | (simp (disch := omega) only [hp_s, hp_o', hp_k, vu_o, upd_s, upd_n]; done))) (fun f c _ _ => (by first | rfl | (simp (disch := omega) only [hp_s, hp_o', hp_k, vu_o, upd_s, upd_n]; done)))
  · exact R.ep.cong R.hL R.hl (fun k _ => (by first | rfl | (simp (disch := omega) only [hp_s, hp_o', hp_k, vu_o, upd_s, upd_n]; done))) (fun f c _ _ => (by first | rfl | (simp (disch := omega) only [hp_s, hp_o', hp_k, vu_o, upd_s, upd_n]; done)))
  · obtain ⟨e1, e2⟩ := R.eh
    refine ⟨fun k' hk' => ?_, fun g hg hgn => ?_⟩
    · obtain ⟨s', h1, h2, h3⟩ := e1 k' hk'
      by_cases e : k' = k
      · subst e
        have hss : s' = s := nI_inj (by omega) (by omega) (h2.symm.trans hse)
        subst hss
        refine ⟨s' + 1, by omega, hp_s _ _ _ _, fun i g hi ho => ?_⟩
        rw [upd_n _ _ (by omega)] at ho
        by_cases eg : g = f
        · subst eg
          have hii : i = s' := by
            have hil := (List.getElem?_eq_some_iff.mp hi).1
            exact (List.getElem?_inj hil R.el.2.2.2.2.1).mp (hi.trans hf.symm)
          rw [upd_s, if_pos (by omega)]
        · rw [upd_n _ _ (by omega), h3 i g hi ho]
          have hne : i ≠ s' := fun u => eg (by rw [u, hf] at hi; exact (Option.some.inj hi).symm)
          by_cases hlt : i < s'
          · rw [if_pos hlt, if_pos (by omega)]
          · rw [if_neg hlt, if_neg (by omega)]
      · refine ⟨s', h1, by rw [hp_o' _ _ (by omega)]; exact h2, fun i g hi ho => ?_⟩
        rw [upd_n _ _ (by omega)] at ho
        by_cases eg : g = f
        · subst eg
          exact absurd (nI_inj (by omega) (by omega) (ho.symm.trans hown)) e
        · rw [upd_n _ _ (by omega)]
          exact h3 i g hi ho
    · have hgf : g ≠ f := fun u => hgn (u ▸ List.mem_of_getElem? hf)
      rw [upd_n _ _ (by omega)]
      exact e2 g hg hgn
  · exact R.wi.cong (fun j i _ _ => (by first | rfl | (simp (disch := omega) only [hp_s, hp_o', hp_k, vu_o, upd_s, upd_n]; done))) (fun k _ => (by first | rfl | (simp (disch := omega) only [hp_s, hp_o', hp_k, vu_o, upd_s, upd_n]; done)))
  · exact R.ta.cong (fun j _ => (by first | rfl | (simp (disch := omega) only [hp_s, hp_o', hp_k, vu_o, upd_s, upd_n]; done))) (fun k _ _ => (by first | rfl | (simp (disch := omega) only [hp_s, hp_o', hp_k, vu_o, upd_s, upd_n]; done)))
  · exact R.pk.cong (by first | rfl | (simp (disch := omega) only [hp_s, hp_o', hp_k, vu_o, upd_s, upd_n]; done)) (by first | rfl | (simp (disch := omega) only [hp_s, hp_o', hp_k, vu_o, upd_s, upd_n]; done))
  · exact R.kbg.cong (fun b' _ => (by first | rfl | (simp (disch := omega) only [hp_s, hp_o', hp_k, vu_o, upd_s, upd_n]; done))) (fun f c _ _ => (by first | rfl | (simp (disch := omega) only [hp_s, hp_o', hp_k, vu_o, upd_s, upd_n]; done))) (fun b' _ => (by first | rfl | (simp (disch := omega) only [hp_s, hp_o', hp_k, vu_o, upd_s, upd_n]; done)))
  · exact R.px.cong R.hL2 (fun f _ _ => (by first | rfl | (simp (disch := omega) only [hp_s, hp_o', hp_k, vu_o, upd_s, upd_n]; done)))
  · exact R.lt.cong (by first | rfl | (simp (disch := omega) only [hp_s, hp_o', hp_k, vu_o, upd_s, upd_n]; done)) (by first | rfl | (simp (disch := omega) only [hp_s, hp_o', hp_k, vu_o, upd_s, upd_n]; done))
theorem Rel.seenN (R : Rel bg rl tb m y sn Bd n N tk nw ol L h w S) {k s f : Nat} (hk : k < sn) (hse : h (w + 35 + 1 + k) 9 = nI s) (hf : L[s]? = some f) (hown : ¬ S (276 + 12 * f + 10) = nI k) : Rel bg rl tb m y sn Bd n N tk nw ol L (hp h (w + 35 + 1 + k) 9 (nI (s + 1))) w S := by
  have hs4 := R.sn4
  have hfn := R.hL2 f (List.mem_of_getElem? hf)
  have hsl := (List.getElem?_eq_some_iff.mp hf).1
  have hLl := R.el.lr200 R.n200
  have hll : L.length ≤ 200 := Nat.le_trans (nd_len n L R.el.2.2.2.2.1 R.hL2) R.n200
  have hn200 := R.n200
  have hmy := R.my
  refine ⟨?_, ?_, ?_, ?_, ?_, ?_, ?_, ?_, ?_, ?_, ?_, ?_, ?_, ?_, ?_, ?_, ?_, ?_, ?_, ?_, ?_⟩
  · exact R.sc.cong (fun j _ _ => (by first | rfl | (simp (disch := omega) only [hp_s, hp_o', hp_k, vu_o, upd_s, upd_n]; done))) (by first | rfl | (simp (disch := omega) only [hp_s, hp_o', hp_k, vu_o, upd_s, upd_n]; done)) (fun j _ _ _ => (by first | rfl | (simp (disch := omega) only [hp_s, hp_o', hp_k, vu_o, upd_s, upd_n]; done))) (fun k _ _ _ _ => (by first | rfl | (simp (disch := omega) only [hp_s, hp_o', hp_k, vu_o, upd_s, upd_n]; done)))
  · exact R.bk.cong (fun b' j _ _ => (by first | rfl | (simp (disch := omega) only [hp_s, hp_o', hp_k, vu_o, upd_s, upd_n]; done))) (fun b' c _ _ => (by first | rfl | (simp (disch := omega) only [hp_s, hp_o', hp_k, vu_o, upd_s, upd_n]; done)))
  · exact R.fr.cong (fun j f _ _ _ => (by first | rfl | (simp (disch := omega) only [hp_s, hp_o', hp_k, vu_o, upd_s, upd_n]; done))) (fun f c _ _ => (by first | rfl | (simp (disch := omega) only [hp_s, hp_o', hp_k, vu_o, upd_s, upd_n]; done)))
  · exact R.ksn.cong (fun k j _ _ => (by first | rfl | (simp (disch := omega) only [hp_s, hp_o', hp_k, vu_o, upd_s, upd_n]; done))) (fun k _ _ => (by first | rfl | (simp (disch := omega) only [hp_s, hp_o', hp_k, vu_o, upd_s, upd_n]; done))) R.sn4
  · exact R.is.cong (fun k _ _ _ _ _ _ => (by first | rfl | (simp (disch := omega) only [hp_s, hp_o', hp_k, vu_o, upd_s, upd_n]; done)))
  · exact R.br.cong (fun b' c _ _ => (by first | rfl | (simp (disch := omega) only [hp_s, hp_o', hp_k, vu_o, upd_s, upd_n]; done)))
  · exact R.fi.cong (fun f c _ _ => (by first | rfl | (simp (disch := omega) only [hp_s, hp_o', hp_k, vu_o, upd_s, upd_n]; done))) R.n200
  · exact R.si.cong (fun k c _ _ => (by first | rfl | (simp (disch := omega) only [hp_s, hp_o', hp_k, vu_o, upd_s, upd_n]; done))) R.sn4
  · exact R.li.cong (fun k _ _ _ => (by first | rfl | (simp (disch := omega) only [hp_s, hp_o', hp_k, vu_o, upd_s, upd_n]; done))) (fun b' _ => (by first | rfl | (simp (disch := omega) only [hp_s, hp_o', hp_k, vu_o, upd_s, upd_n]; done))) R.my
  · exact R.lc.cong (fun j => (by first | rfl | (simp (disch := omega) only [hp_s, hp_o', hp_k, vu_o, upd_s, upd_n]; done))) (fun j => (by first | rfl | (simp (disch := omega) only [hp_s, hp_o', hp_k, vu_o, upd_s, upd_n]; done)))
  · exact R.cb.cong (fun b' j _ _ => (by first | rfl | (simp (disch := omega) only [hp_s, hp_o', hp_k, vu_o, upd_s, upd_n]; done))) (fun f c _ _ => (by first | rfl | (simp (disch := omega) only [hp_s, hp_o', hp_k, vu_o, upd_s, upd_n]; done))) (fun b' _ => (by first | rfl | (simp (disch := omega) only [hp_s, hp_o', hp_k, vu_o, upd_s, upd_n]; done)))
  · exact R.cf.cong (fun f _ => (by first | rfl | (simp (disch := omega) only [hp_s, hp_o', hp_k, vu_o, upd_s, upd_n]; done))) (by first | rfl | (simp (disch := omega) only [hp_s, hp_o', hp_k, vu_o, upd_s, upd_n]; done)) (fun f c _ _ => (by first | rfl | (simp (disch := omega) only [hp_s, hp_o', hp_k, vu_o, upd_s, upd_n]; done))) (by first | rfl | (simp (disch := omega) only [hp_s, hp_o', hp_k, vu_o, upd_s, upd_n]; done)) (fun b' _ => (by first | rfl | (simp (disch := omega) only [hp_s, hp_o', hp_k, vu_o, upd_s, upd_n]; done)))
  · exact R.el.cong R.n200 (by first | rfl | (simp (disch := omega) only [hp_s, hp_o', hp_k, vu_o, upd_s, upd_n]; done)) (fun i _ => (by first | rfl | (simp (disch := omega) only [hp_s, hp_o', hp_k, vu_o, upd_s, upd_n]; done))) (fun k _ _ => (by first | rfl | (simp (disch := omega) only [hp_s, hp_o', hp_k, vu_o, upd_s, upd_n]; done))) (fun f c _ _ => (by first | rfl | (simp (disch := omega) only [hp_s, hp_o', hp_k, vu_o, upd_s, upd_n]; done)))
  · exact R.ep.cong R.hL R.hl (fun k _ => (by first | rfl | (simp (disch := omega) only [hp_s, hp_o', hp_k, vu_o, upd_s, upd_n]; done))) (fun f c _ _ => (by first | rfl | (simp (disch := omega) only [hp_s, hp_o', hp_k, vu_o, upd_s, upd_n]; done)))
  · obtain ⟨e1, e2⟩ := R.eh
    refine ⟨fun k' hk' => ?_, fun g hg hgn => ?_⟩
    · obtain ⟨s', h1, h2, h3⟩ := e1 k' hk'
      by_cases e : k' = k
      · subst e
        have hss : s' = s := nI_inj (by omega) (by omega) (h2.symm.trans hse)
        subst hss
        refine ⟨s' + 1, by omega, hp_s _ _ _ _, fun i g hi ho => ?_⟩
        rw [h3 i g hi ho]
        have hne : i ≠ s' := fun u => by
          rw [u, hf] at hi
          rw [← Option.some.inj hi] at ho
          exact hown ho
        by_cases hlt : i < s'
        · rw [if_pos hlt, if_pos (by omega)]
        · rw [if_neg hlt, if_neg (by omega)]
      · refine ⟨s', h1, by rw [hp_o' _ _ (by omega)]; exact h2, fun i g hi ho => ?_⟩
        exact h3 i g hi ho
    · exact e2 g hg hgn
  · exact R.wi.cong (fun j i _ _ => (by first | rfl | (simp (disch := omega) only [hp_s, hp_o', hp_k, vu_o, upd_s, upd_n]; done))) (fun k _ => (by first | rfl | (simp (disch := omega) only [hp_s, hp_o', hp_k, vu_o, upd_s, upd_n]; done)))
  · exact R.ta.cong (fun j _ => (by first | rfl | (simp (disch := omega) only [hp_s, hp_o', hp_k, vu_o, upd_s, upd_n]; done))) (fun k _ _ => (by first | rfl | (simp (disch := omega) only [hp_s, hp_o', hp_k, vu_o, upd_s, upd_n]; done)))
  · exact R.pk.cong (by first | rfl | (simp (disch := omega) only [hp_s, hp_o', hp_k, vu_o, upd_s, upd_n]; done)) (by first | rfl | (simp (disch := omega) only [hp_s, hp_o', hp_k, vu_o, upd_s, upd_n]; done))
  · exact R.kbg.cong (fun b' _ => (by first | rfl | (simp (disch := omega) only [hp_s, hp_o', hp_k, vu_o, upd_s, upd_n]; done))) (fun f c _ _ => (by first | rfl | (simp (disch := omega) only [hp_s, hp_o', hp_k, vu_o, upd_s, upd_n]; done))) (fun b' _ => (by first | rfl | (simp (disch := omega) only [hp_s, hp_o', hp_k, vu_o, upd_s, upd_n]; done)))
  · exact R.px.cong R.hL2 (fun f _ _ => (by first | rfl | (simp (disch := omega) only [hp_s, hp_o', hp_k, vu_o, upd_s, upd_n]; done)))
  · exact R.lt.cong (by first | rfl | (simp (disch := omega) only [hp_s, hp_o', hp_k, vu_o, upd_s, upd_n]; done)) (by first | rfl | (simp (disch := omega) only [hp_s, hp_o', hp_k, vu_o, upd_s, upd_n]; done))
end Se
