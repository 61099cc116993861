/-! trials: what both sides keep -/
section Ex
variable {bg rl : Bool} {tb : Nat → Int32} {m y sn Bd n N tk : Nat} {nw ol L : List Nat} {h : Hp} {w : Nat} {S : Nat → Int32}
theorem Rel.ext (R : Rel bg rl tb m y sn Bd n N tk nw ol L h w S) {S' : Nat → Int32} (fs : ∀ k, k < 3715 → k ≠ 4 → k ≠ 7 → S' k = S k) : Rel bg rl tb m y sn Bd n N tk nw ol L h w S' := by
  have hn200 := R.n200
  have hmy := R.my
  refine ⟨?_, ?_, ?_, ?_, ?_, ?_, ?_, ?_, ?_, ?_, ?_, ?_, ?_, ?_, ?_, ?_, ?_, ?_, ?_, ?_, ?_⟩
  · exact R.sc.cong (fun j _ _ => (by first | rfl | (simp (disch := omega) only [fs]; done))) (by first | rfl | (simp (disch := omega) only [fs]; done)) (fun j _ _ _ => (by first | rfl | (simp (disch := omega) only [fs]; done))) (fun k _ _ _ _ => (by first | rfl | (simp (disch := omega) only [fs]; done)))
  · exact R.bk.cong (fun b' j _ _ => (by first | rfl | (simp (disch := omega) only [fs]; done))) (fun b' c _ _ => (by first | rfl | (simp (disch := omega) only [fs]; done)))
  · exact R.fr.cong (fun j f _ _ _ => (by first | rfl | (simp (disch := omega) only [fs]; done))) (fun f c _ _ => (by first | rfl | (simp (disch := omega) only [fs]; done)))
  · exact R.ksn.cong (fun k j _ _ => (by first | rfl | (simp (disch := omega) only [fs]; done))) (fun k _ _ => (by first | rfl | (simp (disch := omega) only [fs]; done))) R.sn4
  · exact R.is.cong (fun k _ _ _ _ _ _ => (by first | rfl | (simp (disch := omega) only [fs]; done)))
  · exact R.br.cong (fun b' c _ _ => (by first | rfl | (simp (disch := omega) only [fs]; done)))
  · exact R.fi.cong (fun f c _ _ => (by first | rfl | (simp (disch := omega) only [fs]; done))) R.n200
  · exact R.si.cong (fun k c _ _ => (by first | rfl | (simp (disch := omega) only [fs]; done))) R.sn4
  · exact R.li.cong (fun k _ _ _ => (by first | rfl | (simp (disch := omega) only [fs]; done))) (fun b' _ => (by first | rfl | (simp (disch := omega) only [fs]; done))) R.my
  · exact R.lc.cong (fun j => (by first | rfl | (simp (disch := omega) only [fs]; done))) (fun j => (by first | rfl | (simp (disch := omega) only [fs]; done)))
  · exact R.cb.cong (fun b' j _ _ => (by first | rfl | (simp (disch := omega) only [fs]; done))) (fun f c _ _ => (by first | rfl | (simp (disch := omega) only [fs]; done))) (fun b' _ => (by first | rfl | (simp (disch := omega) only [fs]; done)))
  · exact R.cf.cong (fun f _ => (by first | rfl | (simp (disch := omega) only [fs]; done))) (by first | rfl | (simp (disch := omega) only [fs]; done)) (fun f c _ _ => (by first | rfl | (simp (disch := omega) only [fs]; done))) (by first | rfl | (simp (disch := omega) only [fs]; done)) (fun b' _ => (by first | rfl | (simp (disch := omega) only [fs]; done)))
  · exact R.el.cong R.n200 (by first | rfl | (simp (disch := omega) only [fs]; done)) (fun i _ => (by first | rfl | (simp (disch := omega) only [fs]; done))) (fun k _ _ => (by first | rfl | (simp (disch := omega) only [fs]; done))) (fun f c _ _ => (by first | rfl | (simp (disch := omega) only [fs]; done)))
  · exact R.ep.cong R.hL R.hl (fun k _ => (by first | rfl | (simp (disch := omega) only [fs]; done))) (fun f c _ _ => (by first | rfl | (simp (disch := omega) only [fs]; done)))
  · exact R.eh.cong R.hL2 R.sn4 (fun k _ => (by first | rfl | (simp (disch := omega) only [fs]; done))) (fun f c _ _ => (by first | rfl | (simp (disch := omega) only [fs]; done)))
  · exact R.wi.cong (fun j i _ _ => (by first | rfl | (simp (disch := omega) only [fs]; done))) (fun k _ => (by first | rfl | (simp (disch := omega) only [fs]; done)))
  · exact R.ta.cong (fun j _ => (by first | rfl | (simp (disch := omega) only [fs]; done))) (fun k _ _ => (by first | rfl | (simp (disch := omega) only [fs]; done)))
  · exact R.pk.cong (by first | rfl | (simp (disch := omega) only [fs]; done)) (by first | rfl | (simp (disch := omega) only [fs]; done))
  · exact R.kbg.cong (fun b' _ => (by first | rfl | (simp (disch := omega) only [fs]; done))) (fun f c _ _ => (by first | rfl | (simp (disch := omega) only [fs]; done))) (fun b' _ => (by first | rfl | (simp (disch := omega) only [fs]; done)))
  · exact R.px.cong R.hL2 (fun f _ _ => (by first | rfl | (simp (disch := omega) only [fs]; done)))
  · exact R.lt.cong (by first | rfl | (simp (disch := omega) only [fs]; done)) (by first | rfl | (simp (disch := omega) only [fs]; done))
end Ex
theorem fill_hp (h : Hp) {a b : Nat} (hab : a ≠ b) (i : Nat) : hp (va_up h b (fa_fill (h a) (h b) i)) b i (va_up h b (fa_fill (h a) (h b) i) a i) = va_up h b (fa_fill (h a) (h b) (i + 1)) := by
  rw [va_up_ne _ _ hab]
  unfold hp
  rw [va_up_self, fa_fill_succ]
  funext j
  by_cases e : j = b
  · subst e
    rw [va_up_self, va_up_self]
  · rw [va_up_ne _ _ e, va_up_ne _ _ e, va_up_ne _ _ e]
theorem m_copies (h : Hp) {a b : Nat} (hab : a ≠ b) : p_X10_copies h a b = some (va_up h b (fa_fill (h a) (h b) 3715)) := by
  unfold p_X10_copies
  have := lp_for (b := b_X10_copies_2 a b) (fun i => (va_up h b (fa_fill (h a) (h b) i), nI i)) 3715 (va_up h b (fa_fill (h a) (h b) 3715)) (fun K i hi => by
    unfold b_X10_copies_2
    dsimp +instances only
    rw [if_neg (show ¬ (3715 : Int32) ≤ nI i from nI_ge (b := 3715) hi (by omega))]
    simp only [if_pos (show ib (nI i) 3715 from ib_n hi (by omega)), nI_clamp (show i < 2 ^ 31 by omega)]
    rw [nv_eq, fill_hp h hab, nI_1]) (fun K => by
    unfold b_X10_copies_2
    dsimp +instances only
    rw [if_pos (show (3715 : Int32) ≤ nI 3715 from nI_le (a := 3715) (Nat.le_refl _) (by omega))]) 3715 0 FU (by omega) (FU_gt (by omega))
  rw [nI_0, fa_fill_0] at this
  have e : va_up h b (h b) = h := funext fun j => by
    by_cases c : j = b
    · subst c
      rw [va_up_self]
    · rw [va_up_ne _ _ c]
  rw [e] at this
  exact this
def KC (h hc : Hp) : Prop := (∀ o, o < 59 ∨ 104 ≤ o → hc o = h o) ∧ hc (0 + 59 + 1 + 40) 3 = 0
def KM (b X : Hp) : Prop := (∀ o, o ≠ 116 → o ≠ 117 → X o = b o) ∧ (∀ k, k < 3715 → X 116 k = b 116 k) ∧ ∀ k, k < 3715 → X 117 k = b 116 k
theorem KC.refl {Bd : Nat} {h : Hp} (G : GR Bd h) : KC h h := by
  obtain ⟨m, y, sn, n, N, nw, ol, L, R, hLS, g1, g2, g3, g4, g5, g6, g7⟩ := G
  exact ⟨fun o _ => rfl, g6⟩
theorem GR.kc {Bd : Nat} {h hc : Hp} (G : GR Bd h) (K : KC h hc) : GR Bd hc := by
  obtain ⟨m, y, sn, n, N, nw, ol, L, R, hLS, g1, g2, g3, g4, g5, g6, g7⟩ := G
  have e : hc 116 = h 116 := K.1 _ (by omega)
  unfold GR
  rw [e]
  refine ⟨m, y, sn, n, N, nw, ol, L, R.heap (fun o a b => K.1 _ (by omega)), hLS, ?_, ?_, g3, g4, ?_, K.2, g7.cong (fun o ho => K.1 _ (by omega)) (fun j hj => by rw [K.1 _ (by omega)])⟩
  · rw [K.1 _ (by omega), g1]
  · rw [K.1 _ (by omega), g2]
  · rw [K.1 _ (by omega), g5]
theorem LSt.ext {n : Nat} {nw ol : List Nat} {S S' : Nat → Int32} (H : LSt n nw ol S) (hn : n ≤ 200) (e : ∀ k, k < 3715 → k ≠ 4 → k ≠ 7 → S' k = S k) : LSt n nw ol S' := fun b f hb hf u => H b f hb hf (by
  rw [sb_cong (S := S) (e _ (by omega) (by omega) (by omega)) (e _ (by omega) (by omega) (by omega))] at u
  exact u)
theorem GR.km {Bd : Nat} {b X : Hp} (G : GR Bd b) (K : KM b X) : GR Bd X := by
  obtain ⟨m, y, sn, n, N, nw, ol, L, R, hLS, g1, g2, g3, g4, g5, g6, g7⟩ := G
  have e : ∀ k, k < 3715 → k ≠ 4 → k ≠ 7 → X 116 k = b 116 k := fun k hk _ _ => K.2.1 k hk
  refine ⟨m, y, sn, n, N, nw, ol, L, (R.ext e).heap (fun o u v => K.1 _ (by omega) (by omega)), hLS.ext R.n200 e, ?_, ?_, ?_, ?_, ?_, ?_, g7.cong (fun o ho => K.1 _ (by omega) (by omega)) (fun j hj => by rw [K.1 _ (by omega) (by omega)])⟩
  · rw [K.1 _ (by omega) (by omega), g1, K.2.1 4 (by omega)]
  · rw [K.1 _ (by omega) (by omega), g2, K.2.1 7 (by omega)]
  · rw [K.2.1 4 (by omega)]
    exact g3
  · rw [K.2.1 7 (by omega)]
    exact g4
  · rw [K.1 _ (by omega) (by omega), g5]
  · rw [K.1 _ (by omega) (by omega), g6]
theorem m_copy (b : Hp) : ∃ X, p_X10_copies b (110 + 6) (110 + 7) = some X ∧ KM b X := by
  refine ⟨_, m_copies b (by omega), fun o h1 h2 => va_up_ne _ _ h2, fun k hk => ?_, fun k hk => ?_⟩
  · rw [va_up_ne _ _ (by omega)]
  · rw [show (117 : Nat) = 110 + 7 from rfl, va_up_self, fa_fill_in hk]
theorem m_back {b X : Hp} (K : KM b X) (S : Nat → Int32) (t l : Int32) : ∃ X', p_X10_copies (mt X S t l) (110 + 7) (110 + 6) = some X' ∧ KM b X' := by
  have e7 : mt X S t l (110 + 7) = X 117 := mt_n _ _ _ _ (by omega)
  refine ⟨_, m_copies (mt X S t l) (a := 110 + 7) (b := 110 + 6) (by omega), fun o h1 h2 => ?_, fun k hk => ?_, fun k hk => ?_⟩
  · rw [va_up_ne _ _ (show o ≠ 110 + 6 from h1), mt_n _ _ _ _ h1, K.1 o h1 h2]
  · rw [show (116 : Nat) = 110 + 6 from rfl, va_up_self, fa_fill_in hk, e7]
    exact K.2.2 k hk
  · rw [va_up_ne _ _ (by omega), show (117 : Nat) = 110 + 7 from rfl, e7]
    exact K.2.2 k hk
theorem tbT_4 (S : Nat → Int32) (L : List Nat) (T : Int32) : ∀ k, k < 4 → tbT S L T (4 + k) = 0 := fun k hk => by
  unfold tbT
  rw [if_neg (by omega), if_neg (by omega), if_neg (by omega), if_neg (by omega)]
section Tr
variable {m y sn Bd n N : Nat} {nw ol L : List Nat} {h hc : Hp} {S : Nat → Int32}
theorem tri (R : Rel true true (fun _ => 0) m y sn Bd n N 200 nw ol L h (0 + 10) (h 116)) (K : KC h hc) (hS : ∀ k, k < 3715 → k ≠ 4 → k ≠ 7 → S k = h 116 k) : ∃ hB, p_X6_begin hc (0 + 59) (0 + 10) = some hB ∧ Rel true false (tbT S L 0) m y sn Bd n N 200 nw ol L hB (0 + 59 + 1) S ∧ hB (0 + 59) 1 = nI L.length ∧ hB (0 + 59 + 1) 12 = 99999999 ∧ hB (0 + 59 + 1) 10 = 0 ∧ (∀ j, j < 8 → hB (0 + 59 + 1 + 1) j = h (0 + 10 + 1) j) ∧ KC h hB := by
  obtain ⟨hB, b1, b2, b3, b4, b5, b6, b7⟩ := begin_sim (h := hc) (T := 0 + 59) ((R.ext hS).heap (fun o u v => K.1 _ (by omega))) (by omega) (fun _ _ => rfl) rfl K.2
  refine ⟨hB, b1, b2, b3, b4, b5, fun j hj => ?_, fun o ho => ?_, ?_⟩
  · rw [b6 j hj, K.1 _ (by omega)]
  · rw [b7 o (by omega), K.1 o ho]
  · rw [b7 _ (by omega)]
    exact K.2
end Tr
section Tw
variable {bg rl : Bool} {tb : Nat → Int32} {m y sn Bd n N tk w : Nat} {nw ol L : List Nat} {h : Hp} {S : Nat → Int32}
theorem KC.fr {h0 h' : Hp} {S' : Nat → Int32} {w : Nat} (K : KC h0 h) (hw : w = 0 + 59 + 1) (F : Fr w h h') (R : Rel bg false tb m y sn Bd n N tk nw ol L h' w S') : KC h0 h' := by
  subst hw
  refine ⟨fun o ho => ?_, ?_⟩
  · rw [F.1 o (by omega), K.1 o ho]
  · obtain ⟨k, u1, u2, u3, u4⟩ := R.wi
    exact u4 rfl
theorem c_win (R : Rel bg rl tb m y sn Bd n N tk nw ol L h w S) : p_X8_windows h w = some (isum (fun k => S (3478 + 9 * k + 2)) sn, h) := by
  have hs4 := R.sn4
  unfold p_X8_windows
  have := lp_for (b := b_X8_windows_4 w) (fun i => (h, isum (fun k => S (3478 + 9 * k + 2)) i, nI i)) sn (isum (fun k => S (3478 + 9 * k + 2)) sn, h) (fun K i hi => by
    unfold b_X8_windows_4
    dsimp +instances only
    rw [if_neg (by rw [R.snd, R.isn]; exact nI_ge hi (by omega)), if_pos (ib_n (by omega) (by omega)), nI_clamp (by omega), nv_eq, nI_1, isum_s, R.ksn.1 i hi 2 (by omega) (by omega)]) (fun K => by
    unfold b_X8_windows_4
    dsimp +instances only
    rw [if_pos (by rw [R.snd, R.isn]; exact nI_le (Nat.le_refl _) (by omega))]) sn 0 FU (by omega) (FU_gt (by omega))
  rw [nI_0] at this
  exact this
theorem c_cuts (R : Rel bg rl tb m y sn Bd n N tk nw ol L h w S) : p_X8_cuts h w = some (isum (fun k => S (3478 + 9 * k + 6)) sn, h) := by
  have hs4 := R.sn4
  unfold p_X8_cuts
  have := lp_for (b := b_X8_cuts_4 w) (fun i => (h, isum (fun k => S (3478 + 9 * k + 6)) i, nI i)) sn (isum (fun k => S (3478 + 9 * k + 6)) sn, h) (fun K i hi => by
    unfold b_X8_cuts_4
    dsimp +instances only
    rw [if_neg (by rw [R.snd, R.isn]; exact nI_ge hi (by omega)), if_pos (ib_n (by omega) (by omega)), nI_clamp (by omega), nv_eq, nI_1, isum_s, R.ksn.1 i hi 6 (by omega) (by omega)]) (fun K => by
    unfold b_X8_cuts_4
    dsimp +instances only
    rw [if_pos (by rw [R.snd, R.isn]; exact nI_le (Nat.le_refl _) (by omega))]) sn 0 FU (by omega) (FU_gt (by omega))
  rw [nI_0] at this
  exact this
theorem m_win (R : Rel bg rl tb m y sn Bd n N tk nw ol L h w S) (hm : Hp) (t l : Int32) : p_X10_windows (mt hm S t l) 110 = some (isum (fun k => S (3478 + 9 * k + 2)) sn, mt hm S t l) := by
  have hs4 := R.sn4
  unfold p_X10_windows
  have := lp_for (b := b_X10_windows_4 110) (fun i => (mt hm S t l, isum (fun k => S (3478 + 9 * k + 2)) i, nI i)) sn (isum (fun k => S (3478 + 9 * k + 2)) sn, mt hm S t l) (fun K i hi => by
    unfold b_X10_windows_4
    dsimp +instances only
    rw [if_neg (by rw [mt_r _ _ _ _ (by omega) (by omega), R.isn]; exact nI_ge hi (by omega)), m_senderOf_2 hm S t l (b := i) (by omega), Option.bind_some]
    dsimp +instances only
    rw [nv_eq, nI_1, isum_s]) (fun K => by
    unfold b_X10_windows_4
    dsimp +instances only
    rw [if_pos (by rw [mt_r _ _ _ _ (by omega) (by omega), R.isn]; exact nI_le (Nat.le_refl _) (by omega))]) sn 0 FU (by omega) (FU_gt (by omega))
  rw [nI_0] at this
  exact this
theorem m_cuts (R : Rel bg rl tb m y sn Bd n N tk nw ol L h w S) (hm : Hp) (t l : Int32) : p_X10_cuts (mt hm S t l) 110 = some (isum (fun k => S (3478 + 9 * k + 6)) sn, mt hm S t l) := by
  have hs4 := R.sn4
  unfold p_X10_cuts
  have := lp_for (b := b_X10_cuts_4 110) (fun i => (mt hm S t l, isum (fun k => S (3478 + 9 * k + 6)) i, nI i)) sn (isum (fun k => S (3478 + 9 * k + 6)) sn, mt hm S t l) (fun K i hi => by
    unfold b_X10_cuts_4
    dsimp +instances only
    rw [if_neg (by rw [mt_r _ _ _ _ (by omega) (by omega), R.isn]; exact nI_ge hi (by omega)), m_senderOf_6 hm S t l (b := i) (by omega), Option.bind_some]
    dsimp +instances only
    rw [nv_eq, nI_1, isum_s]) (fun K => by
    unfold b_X10_cuts_4
    dsimp +instances only
    rw [if_pos (by rw [mt_r _ _ _ _ (by omega) (by omega), R.isn]; exact nI_le (Nat.le_refl _) (by omega))]) sn 0 FU (by omega) (FU_gt (by omega))
  rw [nI_0] at this
  exact this
end Tw
/-! ifRun -/
section Ti
variable {Bd : Nat} {h : Hp}
/-- the trial has its value r on both sides -/
theorem tri_m (G : GR Bd h) (hB : Bd + 1000 ≤ 5000000) {c mm : Hp → Option (Int32 × Hp)} {r : Int32} {h1 : Hp} (a : c h = some (r, h1)) (K : KC h h1) (b : GR Bd (hp h1 110 0 0) → ∃ X, mm h1 = some (r, X) ∧ KM (hp h1 110 0 0) X) : Met2 (Bd + 1000) h c mm := by
  have G1 := (G.kc K).th0 0
  obtain ⟨X, b1, b2⟩ := b G1
  exact ⟨r, h1, X, a, b1, (G1.km b2).bd (by omega) hB⟩
theorem ifRun_m (G : GR Bd h) (hB : Bd + 1000 ≤ 5000000) (x z : Int32) : Met2 (Bd + 1000) h (fun h => p_X9_ifRun h 0 x z) (fun h => p_X10_ifRun h 110 x z) := by
  have bad : (x < 1 ∨ (200 : Int32) < x) → Met2 (Bd + 1000) h (fun h => p_X9_ifRun h 0 x z) (fun h => p_X10_ifRun h 110 x z) := fun a => by
    refine no_m G hB (r := -1) ?_ ?_
    · show p_X9_ifRun h 0 x z = _
      unfold p_X9_ifRun
      rw [fit18_n h a, Option.bind_some]
      dsimp +instances only
      rw [if_pos rfl]
    · show p_X10_ifRun h 110 x z = _
      unfold p_X10_ifRun
      rw [nv_eq, isT_n _ a, Option.bind_some]
      dsimp +instances only
      rw [if_pos rfl]
  rcases rng3 x (lo := 1) (hi := 200) (by omega) (by omega) with a | a | ⟨d, hd1, hd2, rfl⟩
  · exact bad (Or.inl a)
  · exact bad (Or.inr a)
  · have pC : p_X9_ifRun h 0 (nI d) z = if z < 0 then (some ((-1), h)) else (if z ≤ 5 then (Option.bind (p_X6_afterTicks h (0 + 59) (0 + 10) (nI d) z) fun r2 => some (r2.1, r2.2)) else (some ((-1), h))) := by
      unfold p_X9_ifRun
      rw [fit18_y h hd1 hd2, Option.bind_some]
      dsimp +instances only
      rw [if_neg one_nz]
    have pM : ∀ h1 : Hp, p_X10_ifRun h1 110 (nI d) z = if z < 0 then (some ((-1), hp h1 110 0 0)) else (if z ≤ 5 then (Option.bind (p_X10_copies (hp h1 110 0 0) (110 + 6) (110 + 7)) fun r3 => Option.bind (p_X10_runs r3 110 (nI d)) fun r4 => if 4 ≤ z then (if z = 4 then (nv (r4 (110 + 6) 0) fun v5 => Option.bind (p_X10_copies r4 (110 + 7) (110 + 6)) fun r6 => some (v5, r6)) else (Option.bind (p_X10_windows r4 110) fun r7 => Option.bind (p_X10_copies r7.2 (110 + 7) (110 + 6)) fun r8 => some (r7.1, r8))) else (if ib (14 + z) 3715 then (if ib (14 + z) 3715 then (nv ((r4 (110 + 6) (Int32.toNatClampNeg (14 + z))) - (r4 (110 + 7) (Int32.toNatClampNeg (14 + z)))) fun v11 => Option.bind (p_X10_copies r4 (110 + 7) (110 + 6)) fun r12 => some (v11, r12)) else none) else none)) else (some ((-1), hp h1 110 0 0))) := fun h1 => by
      unfold p_X10_ifRun
      rw [nv_eq, isT_y _ hd1 hd2, Option.bind_some]
      dsimp +instances only
      rw [if_neg one_nz]
    by_cases c : z < 0 ∨ ¬ z ≤ 5
    · refine no_m G hB (r := -1) ?_ ?_
      · show p_X9_ifRun h 0 (nI d) z = _
        rw [pC]
        by_cases c1 : z < 0
        · rw [if_pos c1]
        · rw [if_neg c1, if_neg (c.resolve_left c1)]
      · show p_X10_ifRun h 110 (nI d) z = _
        rw [pM]
        by_cases c1 : z < 0
        · rw [if_pos c1]
        · rw [if_neg c1, if_neg (c.resolve_left c1)]
    · have c1 : ¬ z < 0 := fun u => c (Or.inl u)
      have c2 : z ≤ 5 := Decidable.byContradiction fun u => c (Or.inr u)
      obtain ⟨j, hj, rfl⟩ : ∃ j, j ≤ 5 ∧ z = nI j := by
        obtain ⟨j, hj, rfl⟩ := nI_of c1
        exact ⟨j, (nI_leI (b := 5) hj (by omega)).mp c2, rfl⟩
      have G0 := G
      obtain ⟨m, y, sn, n, N, nw, ol, L, R, hLS, g1, g2, g3, g4, g5, g6, g7⟩ := G
      -- the class
      have run : ∀ S : Nat → Int32, (∀ k, k < 3715 → k ≠ 4 → k ≠ 7 → S k = h 116 k) → ∃ hB h' S' n' L' nw' ol' N', p_X6_begin h (0 + 59) (0 + 10) = some hB ∧ itf (fun h => p_X8_tick h (0 + 59 + 1)) d hB = some h' ∧ (∀ hm, hm 110 22 = -2 → itf (fun h => p_X10_ticks h 110) d (mt hm S (h 116 4) (h 116 7)) = some (mt hm S' (h 116 4) (h 116 7))) ∧ Rel true false (tbT S L 0) m y sn (Bd + d) n' N' 200 nw' ol' L' h' (0 + 59 + 1) S' ∧ KC h h' := fun S hS => by
        obtain ⟨hB, b1, b2, b3, b4, b5, b6, b7⟩ := tri R (KC.refl G0) hS
        obtain ⟨h', S', n', L', nw', ol', N', t1, t2, t3, t4, t5, t6, t7⟩ := ticks_sim d b2 (hLS.ext R.n200 hS) (tbT_4 S L 0) (by omega)
        refine ⟨hB, h', S', n', L', nw', ol', N', b1, t1, fun hm ho => t2 hm _ _ ho (Or.inl ?_) (Or.inl ?_), t3, b7.fr rfl t5 t3⟩
        · rw [b6 0 (by omega), g1]
        · rw [b6 5 (by omega), g2]
      obtain ⟨hB', h', S1, n1, L1, nw1, ol1, N1, q1, q2, q3, q4, q5⟩ := run (h 116) (fun _ _ _ _ => rfl)
      have eC : p_X6_afterTicks h (0 + 59) (0 + 10) (nI d) (nI j) = if nI j = 4 then (some (h' (0 + 59 + 1) 7, h')) else (if nI j = 5 then (Option.bind (p_X8_windows h' (0 + 59 + 1)) fun r1 => some (r1.1, r1.2)) else (Option.bind (p_X6_tallyOf h' (0 + 59) (nI j)) fun r2 => some (r2.1, r2.2))) := by
        unfold p_X6_afterTicks
        rw [q1, Option.bind_some]
        have := lp_it (b := b_X6_afterTicks_8 (0 + 59) (nI d) (nI j)) (f := fun h => p_X8_tick h (0 + 59 + 1)) (N := d) (fin := fun h' => if nI j = 4 then (some (h' (0 + 59 + 1) 7, h')) else (if nI j = 5 then (Option.bind (p_X8_windows h' (0 + 59 + 1)) fun r1 => some (r1.1, r1.2)) else (Option.bind (p_X6_tallyOf h' (0 + 59) (nI j)) fun r2 => some (r2.1, r2.2)))) (fun K h i hi => by
          unfold b_X6_afterTicks_8
          dsimp +instances only
          rw [if_neg (nI_ge hi (by omega)), nI_1]) (fun K h => by
          unfold b_X6_afterTicks_8
          dsimp +instances only
          rw [if_pos (nI_le (Nat.le_refl _) (by omega))]) d 0 FU hB' h' (by omega) (FU_gt (by omega)) q2
        rw [nI_0] at this
        exact this
      -- the value
      have val : ∀ S : Nat → Int32, (∀ k, k < 3715 → k ≠ 4 → k ≠ 7 → S k = h 116 k) → ∃ S', (∀ hm, hm 110 22 = -2 → itf (fun h => p_X10_ticks h 110) d (mt hm S (h 116 4) (h 116 7)) = some (mt hm S' (h 116 4) (h 116 7))) ∧ ∃ n' N' nw' ol' L', Rel true false (tbT S L 0) m y sn (Bd + d) n' N' 200 nw' ol' L' h' (0 + 59 + 1) S' := fun S hS => by
        obtain ⟨hB2, h2, S2, n2, L2, nw2, ol2, N2, w1, w2, w3, w4, w5⟩ := run S hS
        rw [q1] at w1
        cases w1
        rw [q2] at w2
        cases w2
        exact ⟨S2, w3, n2, N2, nw2, ol2, L2, w4⟩
      have fin : ∀ (r : Int32), (if nI j = 4 then (some (h' (0 + 59 + 1) 7, h')) else (if nI j = 5 then (Option.bind (p_X8_windows h' (0 + 59 + 1)) fun r1 => some (r1.1, r1.2)) else (Option.bind (p_X6_tallyOf h' (0 + 59) (nI j)) fun r2 => some (r2.1, r2.2)))) = some (r, h') → (∀ (S S' : Nat → Int32) n' N' nw' ol' L', Rel true false (tbT S L 0) m y sn (Bd + d) n' N' 200 nw' ol' L' h' (0 + 59 + 1) S' → ∀ X X1 : Hp, (∀ k, k < 3715 → X 117 k = S k) → p_X10_copies (mt X S' (h 116 4) (h 116 7)) (110 + 7) (110 + 6) = some X1 → (if 4 ≤ nI j then (if nI j = 4 then (nv (mt X S' (h 116 4) (h 116 7) (110 + 6) 0) fun v5 => Option.bind (p_X10_copies (mt X S' (h 116 4) (h 116 7)) (110 + 7) (110 + 6)) fun r6 => some (v5, r6)) else (Option.bind (p_X10_windows (mt X S' (h 116 4) (h 116 7)) 110) fun r7 => Option.bind (p_X10_copies r7.2 (110 + 7) (110 + 6)) fun r8 => some (r7.1, r8))) else (if ib (14 + nI j) 3715 then (if ib (14 + nI j) 3715 then (nv ((mt X S' (h 116 4) (h 116 7) (110 + 6) (Int32.toNatClampNeg (14 + nI j))) - (mt X S' (h 116 4) (h 116 7) (110 + 7) (Int32.toNatClampNeg (14 + nI j)))) fun v11 => Option.bind (p_X10_copies (mt X S' (h 116 4) (h 116 7)) (110 + 7) (110 + 6)) fun r12 => some (v11, r12)) else none) else none)) = some (r, X1)) → Met2 (Bd + 1000) h (fun h => p_X9_ifRun h 0 (nI d) (nI j)) (fun h => p_X10_ifRun h 110 (nI d) (nI j)) := fun r aC aM => by
        refine tri_m G0 hB (r := r) (h1 := h') ?_ q5 (fun G1 => ?_)
        · show p_X9_ifRun h 0 (nI d) (nI j) = _
          rw [pC, if_neg c1, if_pos c2, eC, aC, Option.bind_some]
        · obtain ⟨X, x1, x2⟩ := m_copy (hp h' 110 0 0)
          have xe : ∀ k, k < 3715 → X 116 k = h 116 k := fun k hk => by rw [x2.2.1 k hk, hp_n (by omega), q5.1 _ (by omega)]
          obtain ⟨S', s1, n', N', nw', ol', L', s2⟩ := val (X 116) (fun k hk _ _ => xe k hk)
          have et : mt X (X 116) (h 116 4) (h 116 7) = X := by
            have := mt_eta X
            rw [xe 4 (by omega), xe 7 (by omega)] at this
            exact this
          have o22 : X 110 22 = -2 := by rw [x2.1 _ (by omega) (by omega), hp_k _ _ (by omega), q5.1 _ (by omega), g5]
          have er := s1 X o22
          rw [et] at er
          obtain ⟨X1, y1, y2⟩ := m_back x2 S' (h 116 4) (h 116 7)
          refine ⟨X1, ?_, y2⟩
          show p_X10_ifRun h' 110 (nI d) (nI j) = _
          rw [pM, if_neg c1, if_pos c2, x1, Option.bind_some, m_runs (by omega) er, Option.bind_some]
          exact aM (X 116) S' n' N' nw' ol' L' s2 X X1 (fun k hk => by rw [x2.2.2 k hk, x2.2.1 k hk]) y1
      clear eC val run
      rcases (show j < 4 ∨ j = 4 ∨ j = 5 by omega) with u | rfl | rfl
      · obtain ⟨i, hi, ti⟩ : ∃ i, i < 5 ∧ tbv 5 j = nI i ∧ ((j = 0 ∧ i = 1) ∨ (j = 1 ∧ i = 2) ∨ (j = 2 ∧ i = 4) ∨ (j = 3 ∧ i = 3)) := by
          rcases (show j = 0 ∨ j = 1 ∨ j = 2 ∨ j = 3 by omega) with rfl | rfl | rfl | rfl
          · exact ⟨1, by omega, rfl, by omega⟩
          · exact ⟨2, by omega, rfl, by omega⟩
          · exact ⟨4, by omega, rfl, by omega⟩
          · exact ⟨3, by omega, rfl, by omega⟩
        refine fin (h' (0 + 59 + 1 + 2 + 13) i) ?_ ?_
        · rw [if_neg (fun u => by have := nI_inj (b := 4) (by omega) (by omega) u; omega), if_neg (fun u => by have := nI_inj (b := 5) (by omega) (by omega) u; omega)]
          unfold p_X6_tallyOf q_X6_tallyOf_21
          rw [if_neg (nI_pos (by omega)), if_pos (show nI j < 4 from nI_lt (b := 4) (by omega) (by omega))]
          simp only [if_pos (show ib (nI j) 4 from ib_n (by omega) (by omega)), nI_clamp (show j < 2 ^ 31 by omega), ti.1]
          rw [if_neg (nI_pos (by omega)), if_pos (show nI i < 5 from nI_lt (b := 5) (by omega) (by omega))]
          simp only [if_pos (show ib (nI i) 5 from ib_n (by omega) (by omega)), nI_clamp (show i < 2 ^ 31 by omega)]
          rfl
        · intro S S' n' N' nw' ol' L' RR X X1 hX hb
          have j1 : (14 : Int32) + nI j = nI (14 + j) := nI_add 14 j
          have e7 : mt X S' (h 116 4) (h 116 7) (110 + 7) (14 + j) = S (14 + j) := by
            rw [mt_n _ _ _ _ (by omega)]
            exact hX _ (by omega)
          rw [if_neg (show ¬ (4 : Int32) ≤ nI j from nI_ge (b := 4) (by omega) (by omega)), j1]
          simp only [if_pos (show ib (nI (14 + j)) 3715 from ib_n (by omega) (by omega)), nI_clamp (show 14 + j < 2 ^ 31 by omega)]
          rw [nv_eq, hb, Option.bind_some, e7, mt_r _ _ _ _ (by omega) (by omega)]
          have key : S' (14 + j) - S (14 + j) = h' (0 + 59 + 1 + 2 + 13) i := by
            obtain ⟨a1, a2, a3, a4⟩ := RR.ta
            rcases ti.2 with ⟨rfl, rfl⟩ | ⟨rfl, rfl⟩ | ⟨rfl, rfl⟩ | ⟨rfl, rfl⟩
            · rw [show 14 + 0 = 14 from rfl, a1]
              exact Int32.add_sub_cancel _ _
            · rw [show 14 + 1 = 15 from rfl, a2]
              exact Int32.add_sub_cancel _ _
            · rw [show 14 + 2 = 16 from rfl, a3]
              exact Int32.add_sub_cancel _ _
            · rw [show 14 + 3 = 17 from rfl, a4]
              exact Int32.add_sub_cancel _ _
          rw [key]
      · refine fin (h' (0 + 59 + 1) 7) (by rw [if_pos (show nI 4 = 4 from rfl)]) ?_
        intro S S' n' N' nw' ol' L' RR X X1 hX hb
        rw [if_pos (show (4 : Int32) ≤ nI 4 by decide), if_pos (show nI 4 = 4 from rfl), nv_eq, hb, Option.bind_some, mt_r _ _ _ _ (by omega) (by omega), RR.now]
      · refine fin (isum (fun k => S1 (3478 + 9 * k + 2)) sn) ?_ ?_
        · rw [if_neg (by decide), if_pos (show nI 5 = 5 from rfl), c_win q4, Option.bind_some]
        · intro S S' n' N' nw' ol' L' RR X X1 hX hb
          have e1 := c_win RR
          rw [c_win q4] at e1
          rw [if_pos (show (4 : Int32) ≤ nI 5 by decide), if_neg (by decide), m_win RR, Option.bind_some]
          dsimp +instances only
          rw [hb, Option.bind_some]
          have e2 := congrArg (fun q : Option (Int32 × Hp) => match q with | some p => p.1 | none => 0) e1
          dsimp only at e2
          rw [e2]
end Ti

