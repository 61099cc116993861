/-! a bucket begins; a frame comes -/
def opH (h : Hp) (p : Nat) (key q nn : Int32) : Hp := hp (hp (hp (hp (hp (hp (hp (hp (hp h p 0 key) p 5 q) p 13 nn) p 7 0) p 8 0) p 9 0) p 10 (-2)) p 11 65535) p 12 0
def sOp (S : Nat → Int32) (b : Nat) (key q g : Int32) : Nat → Int32 := upd (upd (upd (upd (upd (upd (upd (upd (upd S (68 + 13 * b + 0) key) (68 + 13 * b + 1) q) (68 + 13 * b + 3) 0) (68 + 13 * b + 4) 0) (68 + 13 * b + 5) 0) (68 + 13 * b + 6) 0) (68 + 13 * b + 7) (-2)) (68 + 13 * b + 8) 65535) (68 + 13 * b + 9) g
theorem opH_eq (h : Hp) (p : Nat) (key q nn : Int32) : p_X0_begin h p key q nn = some (opH h p key q nn) := by
  unfold p_X0_begin opH
  simp only [nv_eq]
theorem sOp_n (S : Nat → Int32) {b k : Nat} (key q g : Int32) (e : k < 68 + 13 * b ∨ 68 + 13 * b + 10 ≤ k ∨ k = 68 + 13 * b + 2) : sOp S b key q g k = S k := by
  unfold sOp
  simp (disch := omega) only [upd_n]
theorem sOp_0 (S : Nat → Int32) (b : Nat) (key q g : Int32) : sOp S b key q g (68 + 13 * b + 0) = key := by
  unfold sOp
  simp (disch := omega) only [upd_n, upd_s]
theorem sOp_9 (S : Nat → Int32) (b : Nat) (key q g : Int32) : sOp S b key q g (68 + 13 * b + 9) = g := by
  unfold sOp
  simp (disch := omega) only [upd_n, upd_s]
theorem opH_o (h : Hp) {p o : Nat} (key q nn : Int32) (e : o ≠ p) : opH h p key q nn o = h o := by
  unfold opH
  rw [hp_n e, hp_n e, hp_n e, hp_n e, hp_n e, hp_n e, hp_n e, hp_n e, hp_n e]
section Ad
variable {bg rl : Bool} {tb : Nat → Int32} {m y sn Bd n N tk : Nat} {nw ol L : List Nat} {h : Hp} {w : Nat} {S : Nat → Int32}
theorem Rel.opn (R : Rel bg rl tb m y sn Bd n N tk nw ol L h w S) {b : Nat} (hb : b < 16) (key q nn g : Int32) (hv1 : -1500 ≤ q.toInt) (hv2 : q.toInt ≤ 3000) : Rel false rl tb m y sn Bd n N tk nw ol L (opH h (w + 16 + 1 + b) key q nn) w (sOp S b key q g) := by
  have r0 : rg 0 0 999 := rg_0 999
  have r01 : rg 0 0 1 := rg_0 1
  have r65 : rg 65535 1 65535 := ⟨65535, by omega, by omega, rfl⟩
  unfold opH sOp
  have hn200 := R.n200
  have hmy := R.my
  refine ⟨?_, ?_, ?_, ?_, ?_, ?_, ?_, ?_, ?_, ?_, ?_, ?_, ?_, ?_, ?_, ?_, ?_, ?_, ?_, ?_, ?_⟩
  · exact R.sc.cong (fun j _ _ => (by first | rfl | (simp (disch := omega) only [hp_s, hp_o', hp_k, vu_o, upd_s, upd_n]; done))) (by first | rfl | (simp (disch := omega) only [hp_s, hp_o', hp_k, vu_o, upd_s, upd_n]; done)) (fun j _ _ _ => (by first | rfl | (simp (disch := omega) only [hp_s, hp_o', hp_k, vu_o, upd_s, upd_n]; done))) (fun k _ _ _ _ => (by first | rfl | (simp (disch := omega) only [hp_s, hp_o', hp_k, vu_o, upd_s, upd_n]; done)))
  · intro b' hb'
    obtain ⟨e1, e2, e3, e4, e5, e6, e7, e8, e9, e10⟩ := R.bk b' hb'
    by_cases e : b' = b
    · subst e
      refine ⟨?_, ?_, ?_, ?_, ?_, ?_, ?_, ?_, ?_, ?_⟩ <;> simp (disch := omega) only [hp_s, hp_o', hp_k, vu_o, upd_s, upd_n, e1, e2, e3, e4, e5, e6, e7, e8, e9, e10]
    · refine ⟨?_, ?_, ?_, ?_, ?_, ?_, ?_, ?_, ?_, ?_⟩ <;> simp (disch := omega) only [hp_s, hp_o', hp_k, vu_o, upd_s, upd_n, e1, e2, e3, e4, e5, e6, e7, e8, e9, e10]
  · exact R.fr.cong (fun j f _ _ _ => (by first | rfl | (simp (disch := omega) only [hp_s, hp_o', hp_k, vu_o, upd_s, upd_n]; done))) (fun f c _ _ => (by first | rfl | (simp (disch := omega) only [hp_s, hp_o', hp_k, vu_o, upd_s, upd_n]; done)))
  · exact R.ksn.cong (fun k j _ _ => (by first | rfl | (simp (disch := omega) only [hp_s, hp_o', hp_k, vu_o, upd_s, upd_n]; done))) (fun k _ _ => (by first | rfl | (simp (disch := omega) only [hp_s, hp_o', hp_k, vu_o, upd_s, upd_n]; done))) R.sn4
  · exact R.is.cong (fun k _ _ _ _ _ _ => (by first | rfl | (simp (disch := omega) only [hp_s, hp_o', hp_k, vu_o, upd_s, upd_n]; done)))
  · intro b' hb'
    obtain ⟨x1, x2, x3, x4, x5, x6⟩ := R.br b' hb'
    by_cases e : b' = b
    · subst e
      refine ⟨?_, ?_, ?_, ?_, ?_, ?_⟩ <;> first | assumption | (simp (disch := omega) only [upd_s, upd_n]; assumption)
    · refine ⟨?_, ?_, ?_, ?_, ?_, ?_⟩ <;> first | assumption | (simp (disch := omega) only [upd_s, upd_n]; assumption)
  · exact R.fi.cong (fun f c _ _ => (by first | rfl | (simp (disch := omega) only [hp_s, hp_o', hp_k, vu_o, upd_s, upd_n]; done))) R.n200
  · exact R.si.cong (fun k c _ _ => (by first | rfl | (simp (disch := omega) only [hp_s, hp_o', hp_k, vu_o, upd_s, upd_n]; done))) R.sn4
  · exact R.li.cong (fun k _ _ _ => (by first | rfl | (simp (disch := omega) only [hp_s, hp_o', hp_k, vu_o, upd_s, upd_n]; done))) (fun b' _ => (by first | rfl | (simp (disch := omega) only [hp_s, hp_o', hp_k, vu_o, upd_s, upd_n]; done))) R.my
  · exact R.lc.cong (fun j => (by first | rfl | (simp (disch := omega) only [hp_s, hp_o', hp_k, vu_o, upd_s, upd_n]; done))) (fun j => (by first | rfl | (simp (disch := omega) only [hp_s, hp_o', hp_k, vu_o, upd_s, upd_n]; done)))
  · exact R.cb.cong (fun b' j _ _ => (by first | rfl | (simp (disch := omega) only [hp_s, hp_o', hp_k, vu_o, upd_s, upd_n]; done))) (fun f c _ _ => (by first | rfl | (simp (disch := omega) only [hp_s, hp_o', hp_k, vu_o, upd_s, upd_n]; done))) (fun b' _ => (by first | rfl | (simp (disch := omega) only [hp_s, hp_o', hp_k, vu_o, upd_s, upd_n]; done)))
  · exact R.cf.cong (fun f _ => (by first | rfl | (simp (disch := omega) only [hp_s, hp_o', hp_k, vu_o, upd_s, upd_n]; done))) (by first | rfl | (simp (disch := omega) only [hp_s, hp_o', hp_k, vu_o, upd_s, upd_n]; done)) (fun f c _ _ => (by first | rfl | (simp (disch := omega) only [hp_s, hp_o', hp_k, vu_o, upd_s, upd_n]; done))) (by first | rfl | (simp (disch := omega) only [hp_s, hp_o', hp_k, vu_o, upd_s, upd_n]; done)) (fun b' _ => (by first | rfl | (simp (disch := omega) only [hp_s, hp_o', hp_k, vu_o, upd_s, upd_n]; done)))
  · exact R.el.cong R.n200 (by first | rfl | (simp (disch := omega) only [hp_s, hp_o', hp_k, vu_o, upd_s, upd_n]; done)) (fun i _ => (by first | rfl | (simp (disch := omega) only [hp_s, hp_o', hp_k, vu_o, upd_s, upd_n]; done))) (fun k _ _ => (by first | rfl | (simp (disch := omega) only [hp_s, hp_o', hp_k, vu_o, upd_s, upd_n]; done))) (fun f c _ _ => (by first | rfl | (simp (disch := omega) only [hp_s, hp_o', hp_k, vu_o, upd_s, upd_n]; done)))
  · exact R.ep.cong R.hL R.hl (fun k _ => (by first | rfl | (simp (disch := omega) only [hp_s, hp_o', hp_k, vu_o, upd_s, upd_n]; done))) (fun f c _ _ => (by first | rfl | (simp (disch := omega) only [hp_s, hp_o', hp_k, vu_o, upd_s, upd_n]; done)))
  · exact R.eh.cong R.hL2 R.sn4 (fun k _ => (by first | rfl | (simp (disch := omega) only [hp_s, hp_o', hp_k, vu_o, upd_s, upd_n]; done))) (fun f c _ _ => (by first | rfl | (simp (disch := omega) only [hp_s, hp_o', hp_k, vu_o, upd_s, upd_n]; done)))
  · exact R.wi.cong (fun j i _ _ => (by first | rfl | (simp (disch := omega) only [hp_s, hp_o', hp_k, vu_o, upd_s, upd_n]; done))) (fun k _ => (by first | rfl | (simp (disch := omega) only [hp_s, hp_o', hp_k, vu_o, upd_s, upd_n]; done)))
  · exact R.ta.cong (fun j _ => (by first | rfl | (simp (disch := omega) only [hp_s, hp_o', hp_k, vu_o, upd_s, upd_n]; done))) (fun k _ _ => (by first | rfl | (simp (disch := omega) only [hp_s, hp_o', hp_k, vu_o, upd_s, upd_n]; done)))
  · exact R.pk.cong (by first | rfl | (simp (disch := omega) only [hp_s, hp_o', hp_k, vu_o, upd_s, upd_n]; done)) (by first | rfl | (simp (disch := omega) only [hp_s, hp_o', hp_k, vu_o, upd_s, upd_n]; done))
  · exact (fun z => Bool.noConfusion z)
  · exact R.px.cong R.hL2 (fun f _ _ => (by first | rfl | (simp (disch := omega) only [hp_s, hp_o', hp_k, vu_o, upd_s, upd_n]; done)))
  · exact R.lt.cong (by first | rfl | (simp (disch := omega) only [hp_s, hp_o', hp_k, vu_o, upd_s, upd_n]; done)) (by first | rfl | (simp (disch := omega) only [hp_s, hp_o', hp_k, vu_o, upd_s, upd_n]; done))
/-- a new frame's cells -/
def sAdd (S : Nat → Int32) (n b : Nat) (sh ow key x may : Int32) : Nat → Int32 := upd (upd (upd (upd (upd (upd (upd (upd (upd (upd (upd (upd (upd S (276 + 12 * n + 9) sh) (276 + 12 * n + 10) ow) (276 + 12 * n + 11) 0) (276 + 12 * n + 0) key) (276 + 12 * n + 1) x) (276 + 12 * n + 2) may) (276 + 12 * n + 3) (S 0)) (276 + 12 * n + 4) (nI b)) (276 + 12 * n + 7) (-2)) (276 + 12 * n + 8) (S (68 + 13 * b + 9))) 1 (S 1 + 1)) 2 (S 2 + 1)) (68 + 13 * b + 12) (S (68 + 13 * b + 12) + x)
theorem sAdd_n (S : Nat → Int32) {n b k : Nat} (sh ow key x may : Int32) (e : k < 276 + 12 * n ∨ 276 + 12 * n + 12 ≤ k) (e1 : k ≠ 1) (e2 : k ≠ 2) (e3 : k ≠ 68 + 13 * b + 12) : sAdd S n b sh ow key x may k = S k := by
  unfold sAdd
  simp (disch := omega) only [upd_n]
theorem sAdd_1 (S : Nat → Int32) {n b : Nat} (sh ow key x may : Int32) : sAdd S n b sh ow key x may 1 = S 1 + 1 := by
  unfold sAdd
  simp (disch := omega) only [upd_n, upd_s]
theorem sAdd_2 (S : Nat → Int32) {n b : Nat} (sh ow key x may : Int32) : sAdd S n b sh ow key x may 2 = S 2 + 1 := by
  unfold sAdd
  simp (disch := omega) only [upd_n, upd_s]
theorem sAdd_b (S : Nat → Int32) {n b : Nat} (sh ow key x may : Int32) : sAdd S n b sh ow key x may (68 + 13 * b + 12) = S (68 + 13 * b + 12) + x := by
  unfold sAdd
  rw [upd_s]
theorem sAdd_f0 (S : Nat → Int32) {n b : Nat} (sh ow key x may : Int32) (hb : b < 16) : sAdd S n b sh ow key x may (276 + 12 * n + 0) = key := by
  unfold sAdd
  simp (disch := omega) only [upd_n, upd_s]
theorem sAdd_f1 (S : Nat → Int32) {n b : Nat} (sh ow key x may : Int32) (hb : b < 16) : sAdd S n b sh ow key x may (276 + 12 * n + 1) = x := by
  unfold sAdd
  simp (disch := omega) only [upd_n, upd_s]
theorem sAdd_f2 (S : Nat → Int32) {n b : Nat} (sh ow key x may : Int32) (hb : b < 16) : sAdd S n b sh ow key x may (276 + 12 * n + 2) = may := by
  unfold sAdd
  simp (disch := omega) only [upd_n, upd_s]
theorem sAdd_f3 (S : Nat → Int32) {n b : Nat} (sh ow key x may : Int32) (hb : b < 16) : sAdd S n b sh ow key x may (276 + 12 * n + 3) = S 0 := by
  unfold sAdd
  simp (disch := omega) only [upd_n, upd_s]
theorem sAdd_f4 (S : Nat → Int32) {n b : Nat} (sh ow key x may : Int32) (hb : b < 16) : sAdd S n b sh ow key x may (276 + 12 * n + 4) = nI b := by
  unfold sAdd
  simp (disch := omega) only [upd_n, upd_s]
theorem sAdd_f5 (S : Nat → Int32) {n b : Nat} (sh ow key x may : Int32) (hb : b < 16) : sAdd S n b sh ow key x may (276 + 12 * n + 5) = S (276 + 12 * n + 5) := by
  unfold sAdd
  simp (disch := omega) only [upd_n, upd_s]
theorem sAdd_f6 (S : Nat → Int32) {n b : Nat} (sh ow key x may : Int32) (hb : b < 16) : sAdd S n b sh ow key x may (276 + 12 * n + 6) = S (276 + 12 * n + 6) := by
  unfold sAdd
  simp (disch := omega) only [upd_n, upd_s]
theorem sAdd_f7 (S : Nat → Int32) {n b : Nat} (sh ow key x may : Int32) (hb : b < 16) : sAdd S n b sh ow key x may (276 + 12 * n + 7) = -2 := by
  unfold sAdd
  simp (disch := omega) only [upd_n, upd_s]
theorem sAdd_f8 (S : Nat → Int32) {n b : Nat} (sh ow key x may : Int32) (hb : b < 16) : sAdd S n b sh ow key x may (276 + 12 * n + 8) = S (68 + 13 * b + 9) := by
  unfold sAdd
  simp (disch := omega) only [upd_n, upd_s]
theorem sAdd_f9 (S : Nat → Int32) {n b : Nat} (sh ow key x may : Int32) (hb : b < 16) : sAdd S n b sh ow key x may (276 + 12 * n + 9) = sh := by
  unfold sAdd
  simp (disch := omega) only [upd_n, upd_s]
theorem sAdd_f10 (S : Nat → Int32) {n b : Nat} (sh ow key x may : Int32) (hb : b < 16) : sAdd S n b sh ow key x may (276 + 12 * n + 10) = ow := by
  unfold sAdd
  simp (disch := omega) only [upd_n, upd_s]
theorem sAdd_f11 (S : Nat → Int32) {n b : Nat} (sh ow key x may : Int32) (hb : b < 16) : sAdd S n b sh ow key x may (276 + 12 * n + 11) = 0 := by
  unfold sAdd
  simp (disch := omega) only [upd_n, upd_s]
theorem Rel.add (R : Rel bg rl tb m y sn Bd n N 200 nw ol L h w S) {b key x may : Nat} {sh ow : Int32} (hn1 : n < 200) (hb : b < 16) (hbm : b < m * y) (hk : key ≤ 9999) (hx1 : 1 ≤ x) (hx2 : x ≤ 1500) (hmay : may ≤ 1) (how : ow = -2 ∨ rg ow 0 3) (hsh : rg sh 0 1) {h' : Hp}
    (f0 : ∀ o' j, o' ≠ w → o' ≠ w + 16 + 1 + b → (o' < w + 2 ∨ w + 2 + 11 < o') → h' o' j = h o' j) (f1 : ∀ j, j ≠ 8 → j ≠ 9 → h' w j = h w j) (f2 : ∀ j, j ≠ 13 → h' (w + 2) j = h (w + 2) j) (f2n : h' (w + 2) 13 = nI (n + 1))
    (f3 : ∀ a j, 1 ≤ a → a ≤ 10 → j ≠ n → h' (w + 2 + a) j = h (w + 2 + a) j) (v1 : h' (w + 2 + 1) n = nI key) (v2 : h' (w + 2 + 2) n = nI x) (v3 : h' (w + 2 + 3) n = nI may) (v4 : h' (w + 2 + 4) n = h w 7) (v5 : h' (w + 2 + 5) n = nI b) (v6 : h' (w + 2 + 6) n = ow) (v7 : h' (w + 2 + 7) n = sh) (v8 : h' (w + 2 + 8) n = 0) (v9 : h' (w + 2 + 9) n = 0) (v10 : h' (w + 2 + 10) n = -2)
    (f4 : ∀ j, j < n → h (w + 16 + 1 + b) 2 ≠ nI j → h' (w + 2 + 11) j = h (w + 2 + 11) j) (f4n : h' (w + 2 + 11) n = -2) (f4l : ∀ j, j < n → h (w + 16 + 1 + b) 2 = nI j → h' (w + 2 + 11) j = nI n)
    (f5 : ∀ j, j ≠ 1 → j ≠ 2 → j ≠ 3 → j ≠ 4 → h' (w + 16 + 1 + b) j = h (w + 16 + 1 + b) j) (q1 : h (w + 16 + 1 + b) 2 = -2 → h' (w + 16 + 1 + b) 1 = nI n) (q1' : ¬ h (w + 16 + 1 + b) 2 = -2 → h' (w + 16 + 1 + b) 1 = h (w + 16 + 1 + b) 1) (q2 : h' (w + 16 + 1 + b) 2 = nI n) (q3 : h' (w + 16 + 1 + b) 3 = h (w + 16 + 1 + b) 3 + 1) (q4 : h' (w + 16 + 1 + b) 4 = h (w + 16 + 1 + b) 4 + nI x) (q8 : h' w 8 = h w 8 + 1) (q9 : h' w 9 = h w 9 + nI x) : Rel false rl tb m y sn Bd (n + 1) N 200 nw ol L h' w (sAdd S n b sh ow (nI key) (nI x) (nI may)) := by
  have hnn := R.n200
  have hN := R.N5
  obtain ⟨hz5, hz6⟩ := R.fi.2 n (Nat.le_refl n) hn1
  have hsbn : sb (sAdd S n b sh ow (nI key) (nI x) (nI may)) b n = true := sb_t.mpr ⟨by rw [sAdd_f4 _ _ _ _ _ _ hb], by rw [sAdd_f6 _ _ _ _ _ _ hb, hz6]⟩
  have hsbo : ∀ b', b' < 16 → b' ≠ b → sb (sAdd S n b sh ow (nI key) (nI x) (nI may)) b' n = false := fun b' hb' hne => sb_f.mpr (fun u => hne (by
    have := u.1
    rw [sAdd_f4 _ _ _ _ _ _ hb] at this
    exact (nI_inj (by omega) (by omega) this).symm))
  have hS : ∀ g c, g < n → c < 12 → (sAdd S n b sh ow (nI key) (nI x) (nI may)) (276 + 12 * g + c) = S (276 + 12 * g + c) := fun g c hg hc => sAdd_n _ _ _ _ _ _ (by omega) (by omega) (by omega) (by omega)
  have hsbg : ∀ b' g, g < n → sb (sAdd S n b sh ow (nI key) (nI x) (nI may)) b' g = sb S b' g := fun b' g hg => sb_cong (hS g 4 hg (by omega)) (hS g 6 hg (by omega))
  have hn200 := R.n200
  have hmy := R.my
  refine ⟨?_, ?_, ?_, ?_, ?_, ?_, ?_, ?_, ?_, ?_, ?_, ?_, ?_, ?_, ?_, ?_, ?_, ?_, ?_, ?_, ?_⟩
  · obtain ⟨e1, e2, e3, e4, e5, e6, e7, e8, e9, e10⟩ := R.sc
    refine ⟨?_, ?_, ?_, ?_, ?_, ?_, ?_, ?_, ?_, ?_⟩
    · rw [f1 7 (by omega) (by omega), sAdd_n _ _ _ _ _ _ (by omega) (by omega) (by omega) (by omega), e1]
    · rw [f2n, sAdd_1, R.i1, nI_1]
    · rw [q8, sAdd_2, e3]
    · rw [f0 _ _ (by omega) (by omega) (by omega), sAdd_n _ _ _ _ _ _ (by omega) (by omega) (by omega) (by omega), e4]
    · rw [f0 _ _ (by omega) (by omega) (by omega), sAdd_n _ _ _ _ _ _ (by omega) (by omega) (by omega) (by omega), e5]
    · rw [f0 _ _ (by omega) (by omega) (by omega), sAdd_n _ _ _ _ _ _ (by omega) (by omega) (by omega) (by omega), e6]
    · rw [f0 _ _ (by omega) (by omega) (by omega), sAdd_n _ _ _ _ _ _ (by omega) (by omega) (by omega) (by omega), e7]
    · rw [f0 _ _ (by omega) (by omega) (by omega), sAdd_n _ _ _ _ _ _ (by omega) (by omega) (by omega) (by omega), e8]
    · rw [f0 _ _ (by omega) (by omega) (by omega), sAdd_n _ _ _ _ _ _ (by omega) (by omega) (by omega) (by omega), e9]
    · rw [f1 6 (by omega) (by omega), sAdd_n _ _ _ _ _ _ (by omega) (by omega) (by omega) (by omega), e10]
  · intro b' hb'
    obtain ⟨e1, e2, e3, e4, e5, e6, e7, e8, e9, e10⟩ := R.bk b' hb'
    by_cases e : b' = b
    · subst e
      refine ⟨?_, ?_, ?_, ?_, ?_, ?_, ?_, ?_, ?_, ?_⟩
      · rw [f5 _ (by omega) (by omega) (by omega) (by omega), sAdd_n _ _ _ _ _ _ (by omega) (by omega) (by omega) (by omega), e1]
      · rw [f5 _ (by omega) (by omega) (by omega) (by omega), sAdd_n _ _ _ _ _ _ (by omega) (by omega) (by omega) (by omega), e2]
      · rw [f5 _ (by omega) (by omega) (by omega) (by omega), sAdd_n _ _ _ _ _ _ (by omega) (by omega) (by omega) (by omega), e3]
      · rw [f5 _ (by omega) (by omega) (by omega) (by omega), sAdd_n _ _ _ _ _ _ (by omega) (by omega) (by omega) (by omega), e4]
      · rw [f5 _ (by omega) (by omega) (by omega) (by omega), sAdd_n _ _ _ _ _ _ (by omega) (by omega) (by omega) (by omega), e5]
      · rw [f5 _ (by omega) (by omega) (by omega) (by omega), sAdd_n _ _ _ _ _ _ (by omega) (by omega) (by omega) (by omega), e6]
      · rw [f5 _ (by omega) (by omega) (by omega) (by omega), sAdd_n _ _ _ _ _ _ (by omega) (by omega) (by omega) (by omega), e7]
      · rw [f5 _ (by omega) (by omega) (by omega) (by omega), sAdd_n _ _ _ _ _ _ (by omega) (by omega) (by omega) (by omega), e8]
      · rw [f5 _ (by omega) (by omega) (by omega) (by omega), sAdd_n _ _ _ _ _ _ (by omega) (by omega) (by omega) (by omega), e9]
      · rw [q4, sAdd_b, e10]
    · refine ⟨?_, ?_, ?_, ?_, ?_, ?_, ?_, ?_, ?_, ?_⟩
      · rw [f0 _ _ (by omega) (by omega) (by omega), sAdd_n _ _ _ _ _ _ (by omega) (by omega) (by omega) (by omega), e1]
      · rw [f0 _ _ (by omega) (by omega) (by omega), sAdd_n _ _ _ _ _ _ (by omega) (by omega) (by omega) (by omega), e2]
      · rw [f0 _ _ (by omega) (by omega) (by omega), sAdd_n _ _ _ _ _ _ (by omega) (by omega) (by omega) (by omega), e3]
      · rw [f0 _ _ (by omega) (by omega) (by omega), sAdd_n _ _ _ _ _ _ (by omega) (by omega) (by omega) (by omega), e4]
      · rw [f0 _ _ (by omega) (by omega) (by omega), sAdd_n _ _ _ _ _ _ (by omega) (by omega) (by omega) (by omega), e5]
      · rw [f0 _ _ (by omega) (by omega) (by omega), sAdd_n _ _ _ _ _ _ (by omega) (by omega) (by omega) (by omega), e6]
      · rw [f0 _ _ (by omega) (by omega) (by omega), sAdd_n _ _ _ _ _ _ (by omega) (by omega) (by omega) (by omega), e7]
      · rw [f0 _ _ (by omega) (by omega) (by omega), sAdd_n _ _ _ _ _ _ (by omega) (by omega) (by omega) (by omega), e8]
      · rw [f0 _ _ (by omega) (by omega) (by omega), sAdd_n _ _ _ _ _ _ (by omega) (by omega) (by omega) (by omega), e9]
      · rw [f0 _ _ (by omega) (by omega) (by omega), sAdd_n _ _ _ _ _ _ (by omega) (by omega) (by omega) (by omega), e10]
  · intro g hg
    by_cases e : g = n
    · subst e
      refine ⟨?_, ?_, ?_, ?_, ?_, ?_, ?_, ?_, fun _ => ⟨?_, ?_⟩⟩
      · rw [v1, sAdd_f0 _ _ _ _ _ _ hb]
      · rw [v2, sAdd_f1 _ _ _ _ _ _ hb]
      · rw [v3, sAdd_f2 _ _ _ _ _ _ hb]
      · rw [v4, sAdd_f3 _ _ _ _ _ _ hb, R.now]
      · rw [v5, sAdd_f4 _ _ _ _ _ _ hb]
      · rw [v8, sAdd_f5 _ _ _ _ _ _ hb, hz5]
      · rw [v7, sAdd_f9 _ _ _ _ _ _ hb]
      · rw [v6, sAdd_f10 _ _ _ _ _ _ hb]
      · rw [v9, sAdd_f6 _ _ _ _ _ _ hb, hz6]
      · rw [v10, sAdd_f7 _ _ _ _ _ _ hb]
    · have hg2 : g < n := by omega
      obtain ⟨e1, e2, e3, e4, e5, e6, e7, e8, e9⟩ := R.fr g hg2
      obtain ⟨e10, e11⟩ := e9 (by omega)
      refine ⟨?_, ?_, ?_, ?_, ?_, ?_, ?_, ?_, fun _ => ⟨?_, ?_⟩⟩
      · rw [f3 1 g (by omega) (by omega) e, hS g 0 hg2 (by omega), e1]
      · rw [f3 2 g (by omega) (by omega) e, hS g 1 hg2 (by omega), e2]
      · rw [f3 3 g (by omega) (by omega) e, hS g 2 hg2 (by omega), e3]
      · rw [f3 4 g (by omega) (by omega) e, hS g 3 hg2 (by omega), e4]
      · rw [f3 5 g (by omega) (by omega) e, hS g 4 hg2 (by omega), e5]
      · rw [f3 8 g (by omega) (by omega) e, hS g 5 hg2 (by omega), e6]
      · rw [f3 7 g (by omega) (by omega) e, hS g 9 hg2 (by omega), e7]
      · rw [f3 6 g (by omega) (by omega) e, hS g 10 hg2 (by omega), e8]
      · rw [f3 9 g (by omega) (by omega) e, hS g 6 hg2 (by omega), e10]
      · rw [f3 10 g (by omega) (by omega) e, hS g 7 hg2 (by omega), e11]
  · exact R.ksn.cong (fun k j _ _ => f0 _ _ (by omega) (by omega) (by omega)) (fun k _ _ => sAdd_n _ _ _ _ _ _ (by omega) (by omega) (by omega) (by omega)) R.sn4
  · obtain ⟨x0, x1, x2, x3, x4, x5, x6, x7, x8, x9, x10, x11, x12, x13⟩ := R.is
    refine ⟨?_, ?_, by omega, ?_, x4, x5, ?_, x7, x8, ?_, ?_, ?_, ?_, x13⟩
    · rw [sAdd_n _ _ _ _ _ _ (by omega) (by omega) (by omega) (by omega), x0]
    · rw [sAdd_1, x1, nI_1]
    · rw [sAdd_n _ _ _ _ _ _ (by omega) (by omega) (by omega) (by omega), x3]
    · rw [sAdd_n _ _ _ _ _ _ (by omega) (by omega) (by omega) (by omega), x6]
    · rw [sAdd_n _ _ _ _ _ _ (by omega) (by omega) (by omega) (by omega)]; exact x9
    · rw [sAdd_n _ _ _ _ _ _ (by omega) (by omega) (by omega) (by omega)]; exact x10
    · rw [sAdd_n _ _ _ _ _ _ (by omega) (by omega) (by omega) (by omega)]; exact x11
    · rw [sAdd_n _ _ _ _ _ _ (by omega) (by omega) (by omega) (by omega), x12]
  · exact R.br.cong (fun b' c _ _ => sAdd_n _ _ _ _ _ _ (by omega) (by omega) (by omega) (by omega))
  · refine ⟨fun g hg => ?_, fun g h1 h2 => ?_⟩
    · by_cases e : g = n
      · subst e
        rw [sAdd_f0 _ _ _ _ _ _ hb, sAdd_f1 _ _ _ _ _ _ hb, sAdd_f2 _ _ _ _ _ _ hb, sAdd_f3 _ _ _ _ _ _ hb, sAdd_f4 _ _ _ _ _ _ hb, sAdd_f5 _ _ _ _ _ _ hb, sAdd_f6 _ _ _ _ _ _ hb, sAdd_f7 _ _ _ _ _ _ hb, sAdd_f9 _ _ _ _ _ _ hb, sAdd_f10 _ _ _ _ _ _ hb, hz5, hz6]
        exact ⟨⟨key, by omega, hk, rfl⟩, ⟨x, hx1, hx2, rfl⟩, ⟨may, by omega, hmay, rfl⟩, ⟨N, by omega, Nat.le_refl N, R.i0⟩, ⟨b, hbm, rfl⟩, rg_0 1, rg_0 3, fun u => absurd rfl u, fun u => absurd u (by decide), hsh, how, fun _ => rfl⟩
      · have hg2 : g < n := by omega
        rw [hS g 0 hg2 (by omega), hS g 1 hg2 (by omega), hS g 2 hg2 (by omega), hS g 3 hg2 (by omega), hS g 4 hg2 (by omega), hS g 5 hg2 (by omega), hS g 6 hg2 (by omega), hS g 7 hg2 (by omega), hS g 9 hg2 (by omega), hS g 10 hg2 (by omega)]
        exact R.fi.1 g hg2
    · rw [sAdd_n _ _ _ _ _ _ (by omega) (by omega) (by omega) (by omega), sAdd_n _ _ _ _ _ _ (by omega) (by omega) (by omega) (by omega)]
      exact R.fi.2 g (by omega) h2
  · exact R.si.cong (fun k c _ _ => sAdd_n _ _ _ _ _ _ (by omega) (by omega) (by omega) (by omega)) R.sn4
  · exact R.li.cong (fun k _ _ _ => sAdd_n _ _ _ _ _ _ (by omega) (by omega) (by omega) (by omega)) (fun b' _ => sAdd_n _ _ _ _ _ _ (by omega) (by omega) (by omega) (by omega)) R.my
  · exact R.lc.cong (fun j => f0 _ _ (by omega) (by omega) (by omega)) (fun j => f0 _ _ (by omega) (by omega) (by omega))
  · intro b' hb'
    obtain ⟨e1, e2, e3, e4⟩ := R.cb b' hb'
    by_cases e : b' = b
    · subst e
      refine ⟨?_, ?_, ?_, ?_⟩
      · rcases e2 with ⟨z, k1, k2, k3, k4⟩ | ⟨k1, k2⟩
        · have hne : ¬ h (w + 16 + 1 + b') 2 = -2 := by
            rw [k4]
            intro u
            have := nI_pos (n := z) (by omega)
            rw [u] at this
            exact this (by decide)
          rw [q1' hne]
          rcases e1 with ⟨i, a1, a2, a3, a4, a5⟩ | ⟨a1, a2⟩
          · exact Or.inl ⟨i, a1, by omega, by rw [hsbg b' i a2, a3], fun g c1 c2 => by rw [hsbg b' g (by omega), a4 g c1 c2], a5⟩
          · rw [a1 z (by omega) k1] at k2
            cases k2
        · rw [q1 k2]
          exact Or.inl ⟨n, by omega, by omega, hsbn, fun g c1 c2 => by rw [hsbg b' g c2, k1 g c2], rfl⟩
      · rw [q2]
        exact Or.inl ⟨n, by omega, hsbn, fun g c1 c2 => by omega, rfl⟩
      · rw [q3, e3, nI_1, fa_cnt_yes hsbn, fa_cnt_cong (hsbg b')]
      · rw [sAdd_b, e4, nI_add]
        congr 1
        unfold bsum
        rw [sm_s]
        simp only [hsbn, if_true, sAdd_f1 _ _ _ _ _ _ hb', nI_clamp (show x < 2 ^ 31 by omega)]
        congr 1
        refine (sm_cong fun k hk2 => ?_).symm
        rw [hsbg b' k hk2, hS k 1 hk2 (by omega)]
    · have hno := hsbo b' hb' e
      refine ⟨?_, ?_, ?_, ?_⟩
      · rw [f0 _ _ (by omega) (by omega) (by omega)]
        rcases e1 with ⟨i, a1, a2, a3, a4, a5⟩ | ⟨a1, a2⟩
        · exact Or.inl ⟨i, a1, by omega, by rw [hsbg b' i a2, a3], fun g c1 c2 => by rw [hsbg b' g (by omega), a4 g c1 c2], a5⟩
        · refine Or.inr ⟨fun g c1 c2 => ?_, a2⟩
          by_cases e5 : g = n
          · rw [e5, hno]
          · rw [hsbg b' g (by omega), a1 g c1 (by omega)]
      · rw [f0 _ _ (by omega) (by omega) (by omega)]
        rcases e2 with ⟨i, a1, a2, a3, a4⟩ | ⟨a1, a2⟩
        · refine Or.inl ⟨i, by omega, by rw [hsbg b' i a1, a2], fun g c1 c2 => ?_, a4⟩
          by_cases e5 : g = n
          · rw [e5, hno]
          · rw [hsbg b' g (by omega), a3 g c1 (by omega)]
        · refine Or.inr ⟨fun g c2 => ?_, a2⟩
          by_cases e5 : g = n
          · rw [e5, hno]
          · rw [hsbg b' g (by omega), a1 g (by omega)]
      · rw [f0 _ _ (by omega) (by omega) (by omega), e3, fa_cnt_no hno, fa_cnt_cong (hsbg b')]
      · rw [sAdd_n _ _ _ _ _ _ (by omega) (by omega) (by omega) (by omega), e4]
        congr 1
        unfold bsum
        rw [sm_s]
        simp only [hno]
        rw [show ∀ a : Nat, a + (if false = true then _ else 0) = a from fun a => by simp]
        refine (sm_cong fun k hk2 => ?_).symm
        rw [hsbg b' k hk2, hS k 1 hk2 (by omega)]
  · refine ⟨fun b' g hb' hg hs' => ?_, ?_, ?_⟩
    · by_cases e : g = n
      · subst e
        rw [f4n]
        exact Or.inr ⟨fun i c1 c2 => by omega, rfl⟩
      · have hg2 : g < n := by omega
        rw [hsbg b' g hg2] at hs'
        have hnx := R.cf.1 b' g hb' hg2 hs'
        by_cases hbb : b' = b
        · subst hbb
          rcases hnx with ⟨i, a1, a2, a3, a4, a5⟩ | ⟨a1, a2⟩
          · have hl : h (w + 16 + 1 + b') 2 ≠ nI g := fun u => by
              rcases (R.cb b' hb').2.1 with ⟨z, k1, k2, k3, k4⟩ | ⟨k1, k2⟩
              · have hzg : z = g := nI_inj (by omega) (by omega) (k4.symm.trans u)
                rw [k3 i (by omega) a2] at a3
                cases a3
              · rw [k1 g hg2] at hs'
                cases hs'
            rw [f4 g hg2 hl]
            exact Or.inl ⟨i, a1, by omega, by rw [hsbg b' i a2, a3], fun u c1 c2 => by rw [hsbg b' u (by omega), a4 u c1 c2], a5⟩
          · have hl : h (w + 16 + 1 + b') 2 = nI g := by
              rcases (R.cb b' hb').2.1 with ⟨z, k1, k2, k3, k4⟩ | ⟨k1, k2⟩
              · rcases Nat.lt_trichotomy z g with u | u | u
                · rw [k3 g u hg2] at hs'
                  cases hs'
                · rw [k4, u]
                · rw [a1 z (by omega) k1] at k2
                  cases k2
              · rw [k1 g hg2] at hs'
                cases hs'
            rw [f4l g hg2 hl]
            exact Or.inl ⟨n, by omega, by omega, hsbn, fun u c1 c2 => by rw [hsbg b' u c2, a1 u c1 c2], rfl⟩
        · have hno := hsbo b' hb' hbb
          have hl : h (w + 16 + 1 + b) 2 ≠ nI g := fun u => by
            rcases (R.cb b hb).2.1 with ⟨z, k1, k2, k3, k4⟩ | ⟨k1, k2⟩
            · have hzg : z = g := nI_inj (by omega) (by omega) (k4.symm.trans u)
              subst hzg
              exact hbb (nI_inj (by omega) (by omega) ((sb_t.mp hs').1.symm.trans (sb_t.mp k2).1))
            · rw [k2] at u
              have := nI_pos (n := g) (by omega)
              rw [← u] at this
              exact this (by decide)
          rw [f4 g hg2 hl]
          rcases hnx with ⟨i, a1, a2, a3, a4, a5⟩ | ⟨a1, a2⟩
          · exact Or.inl ⟨i, a1, by omega, by rw [hsbg b' i a2, a3], fun u c1 c2 => by rw [hsbg b' u (by omega), a4 u c1 c2], a5⟩
          · refine Or.inr ⟨fun u c1 c2 => ?_, a2⟩
            by_cases e5 : u = n
            · rw [e5, hno]
            · rw [hsbg b' u (by omega), a1 u c1 (by omega)]
    · have hsd : sd (sAdd S n b sh ow (nI key) (nI x) (nI may)) n = true := decide_eq_true_iff.mpr (by rw [sAdd_f6 _ _ _ _ _ _ hb, hz6])
      rw [sAdd_2, R.cf.2.1, nI_1, fa_cnt_yes hsd, fa_cnt_cong (p := sd (sAdd S n b sh ow (nI key) (nI x) (nI may))) (q := sd S) (fun k hk2 => by unfold sd; rw [hS k 6 hk2 (by omega)])]
    · rw [q9, R.cf.2.2]
      exact (isum_add (j := b) (sAdd_b _ _ _ _ _ _) hb (fun k hk2 hne => sAdd_n _ _ _ _ _ _ (by omega) (by omega) (by omega) (by omega))).symm
  · obtain ⟨e1, e2, e3, e4, e5, e6, e7, e8⟩ := R.el
    have hlr := R.el.lr200 hnn
    rw [lr_200 _ (Nat.le_refl _)] at hlr
    have hL := R.hL2
    refine ⟨?_, e2.cong fun i hi => f0 _ _ (by omega) (by omega) (by omega), ?_, ?_, e5, fun g => ?_, fun u => absurd u (by omega), ?_⟩
    · rw [f2 14 (by omega), e1]
    · rw [sAdd_n _ _ _ _ _ _ (by omega) (by omega) (by omega) (by omega), e3]
    · rw [lr_200 _ (Nat.le_refl _)] at e4 ⊢
      exact e4.cong fun i hi => sAdd_n _ _ _ _ _ _ (by omega) (by omega) (by omega) (by omega)
    · rw [e6 g]
      constructor
      · rintro ⟨x1, x2, x3⟩
        exact ⟨by omega, x2, by rw [hS g 6 x1 (by omega)]; exact x3⟩
      · rintro ⟨x1, x2, x3⟩
        by_cases e : g = n
        · subst e
          rw [sAdd_f6 _ _ _ _ _ _ hb, hz6] at x3
          exact absurd rfl x3
        · exact ⟨by omega, x2, by rw [hS g 6 (by omega) (by omega)] at x3; exact x3⟩
    · exact e8.imp_of_mem fun {a a'} ha ha' hab => by
        unfold wn
        rw [hS a 7 (hL a ha) (by omega), hS a' 7 (hL a' ha') (by omega)]
        exact hab
  · exact R.ep.cong R.hL R.hl (fun k _ => sAdd_n _ _ _ _ _ _ (by omega) (by omega) (by omega) (by omega)) (fun f c hf hc => hS f c hf (by omega))
  · obtain ⟨e1, e2⟩ := R.eh
    have hL := R.hL2
    have hs4 := R.sn4
    refine ⟨fun k hk2 => ?_, fun g hg hgn => ?_⟩
    · obtain ⟨s, h1, h2, h3⟩ := e1 k hk2
      refine ⟨s, h1, ?_, fun i g hi ho => ?_⟩
      · rw [f0 _ _ (by omega) (by omega) (by omega), h2]
      · have hg := hL g (List.mem_of_getElem? hi)
        rw [hS g 10 hg (by omega)] at ho
        rw [hS g 11 hg (by omega)]
        exact h3 i g hi ho
    · by_cases e : g = n
      · subst e
        exact sAdd_f11 _ _ _ _ _ _ hb
      · rw [hS g 11 (by omega) (by omega)]
        exact e2 g (by omega) hgn
  · exact R.wi.cong (fun j i _ _ => f0 _ _ (by omega) (by omega) (by omega)) (fun k _ => sAdd_n _ _ _ _ _ _ (by omega) (by omega) (by omega) (by omega))
  · exact R.ta.cong (fun j _ => f0 _ _ (by omega) (by omega) (by omega)) (fun k _ _ => sAdd_n _ _ _ _ _ _ (by omega) (by omega) (by omega) (by omega))
  · exact R.pk.cong (f1 10 (by omega) (by omega)) (sAdd_n _ _ _ _ _ _ (by omega) (by omega) (by omega) (by omega))
  · exact (fun z => Bool.noConfusion z)
  · exact R.px.cong R.hL2 (fun a ha _ => hS a 6 ha (by omega))
  · exact R.lt.cong (f0 _ _ (by omega) (by omega) (by omega)) (f1 12 (by omega) (by omega))
end Ad
