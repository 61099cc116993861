/-! a frame is taken: it stands no more -/
theorem sBec_n (S : Nat → Int32) {f b e k : Nat} (x : Int32) (h1 : k ≠ 276 + 12 * f + 6) (h2 : k ≠ 276 + 12 * f + 7) (h3 : k ≠ 68 + 13 * b + 12) (h4 : k ≠ 2) (h5 : k ≠ 3515 + e) (h6 : k ≠ 3514) : sBec S f b e x k = S k := by
  unfold sBec
  rw [upd_n _ _ h6, upd_n _ _ h5, upd_n _ _ h4, upd_n _ _ h3, upd_n _ _ h2, upd_n _ _ h1]
theorem sBec_6 (S : Nat → Int32) {f b e : Nat} (x : Int32) (hf : f < 200) (hb : b < 16) : sBec S f b e x (276 + 12 * f + 6) = x := by
  unfold sBec
  rw [upd_n _ _ (by omega), upd_n _ _ (by omega), upd_n _ _ (by omega), upd_n _ _ (by omega), upd_n _ _ (by omega), upd_s]
theorem sBec_7 (S : Nat → Int32) {f b e : Nat} (x : Int32) (hf : f < 200) (hb : b < 16) : sBec S f b e x (276 + 12 * f + 7) = S 0 := by
  unfold sBec
  rw [upd_n _ _ (by omega), upd_n _ _ (by omega), upd_n _ _ (by omega), upd_n _ _ (by omega), upd_s]
theorem sBec_12 (S : Nat → Int32) {f b e : Nat} (x : Int32) (hf : f < 200) (hb : b < 16) : sBec S f b e x (68 + 13 * b + 12) = S (68 + 13 * b + 12) - S (276 + 12 * f + 1) := by
  unfold sBec
  rw [upd_n _ _ (by omega), upd_n _ _ (by omega), upd_n _ _ (by omega), upd_s]
theorem sBec_2 (S : Nat → Int32) {f b e : Nat} (x : Int32) : sBec S f b e x 2 = S 2 - 1 := by
  unfold sBec
  rw [upd_n _ _ (by omega), upd_n _ _ (by omega), upd_s]
theorem sBec_e (S : Nat → Int32) {f b e : Nat} (x : Int32) : sBec S f b e x (3515 + e) = nI f := by
  unfold sBec
  rw [upd_n _ _ (by omega), upd_s]
theorem sBec_s (S : Nat → Int32) {f b e : Nat} (x : Int32) : sBec S f b e x 3514 = nI (e + 1) := by
  unfold sBec
  rw [upd_s]
theorem sub_of_add {a b c : Nat} (h : a + b = c) : nI c - nI b = nI a := by
  subst h
  rw [pk_sub (by omega), Nat.add_sub_cancel]
theorem nI_inj {a b : Nat} (ha : a < 2 ^ 31) (hb : b < 2 ^ 31) (h : nI a = nI b) : a = b := (nI_eq ha hb).mp h
theorem isnx.less {p q : Nat → Bool} {f n : Nat} {x : Int32} (h : isnx p (f + 1) n x) (hm : ∀ g, g < f → p g = false) (hq : q f = false) (e : ∀ g, g < n → g ≠ f → q g = p g) (hf : f < n) : isnx q 0 n x := by
  rcases h with ⟨z, h1, h2, h3, h4, h5⟩ | ⟨h1, h2⟩
  · refine Or.inl ⟨z, by omega, h2, by rw [e z h2 (by omega), h3], fun g a c => ?_, h5⟩
    rcases Nat.lt_trichotomy g f with u | u | u
    · rw [e g (by omega) (by omega), hm g u]
    · rw [u, hq]
    · rw [e g (by omega) (by omega), h4 g (by omega) c]
  · refine Or.inr ⟨fun g a c => ?_, h2⟩
    rcases Nat.lt_trichotomy g f with u | u | u
    · rw [e g (by omega) (by omega), hm g u]
    · rw [u, hq]
    · rw [e g (by omega) (by omega), h1 g (by omega) c]
theorem islt.less {p q : Nat → Bool} {f n : Nat} {x z : Int32} (h : islt p n x) (hz : isnx p (f + 1) n z) (hm : ∀ g, g < f → p g = false) (hq : q f = false) (e : ∀ g, g < n → g ≠ f → q g = p g) (hf : f < n) (hn : n ≤ 200) : islt q n (if 0 ≤ z then x else -2) := by
  rcases hz with ⟨i, h1, h2, h3, h4, h5⟩ | ⟨h1, h2⟩
  · rw [if_pos (by rw [h5]; exact nI_pos' (by omega))]
    rcases h with ⟨j, k1, k2, k3, k4⟩ | ⟨k1, k2⟩
    · have hj : j ≠ f := fun u => by
        have := k3 i (by omega) h2
        rw [h3] at this
        cases this
      exact Or.inl ⟨j, k1, by rw [e j k1 hj, k2], fun g a c => by rw [e g c (fun u => by
        rw [u] at a
        have := k3 i (by omega) h2
        rw [h3] at this
        cases this), k3 g a c], k4⟩
    · exact absurd h3 (by rw [k1 i h2]; decide)
  · rw [if_neg (by rw [h2]; decide)]
    refine Or.inr ⟨fun g c => ?_, rfl⟩
    rcases Nat.lt_trichotomy g f with u | u | u
    · rw [e g (by omega) (by omega), hm g u]
    · rw [u, hq]
    · rw [e g (by omega) (by omega), h1 g (by omega) c]
theorem lr_200 {tk : Nat} (L : List Nat) (h : 200 ≤ tk) : lr tk L = L := if_neg (by omega)
theorem lr_in {tk : Nat} (L : List Nat) (h : tk < 200) : lr tk L = L ++ [tk] := if_pos h
theorem isum_sub {g g' : Nat → Int32} {j n : Nat} {x : Int32} (hx : g' j = g j - x) (hj : j < n) (e : ∀ k, k < n → k ≠ j → g' k = g k) : isum g' n = isum g n - x := by
  rw [Int32.sub_eq_add_neg]
  exact isum_add (by rw [hx, Int32.sub_eq_add_neg]) hj e
section Tk
variable {bg rl : Bool} {tb : Nat → Int32} {m y sn Bd n N tk : Nat} {nw ol L : List Nat} {h : Hp} {w : Nat} {S : Nat → Int32}
theorem Rel.tak (R : Rel bg rl tb m y sn Bd n N 200 nw ol L h w S) {b f c : Nat} (hb : b < 16) (hf : f < n) (hs : sb S b f = true) (hm : ∀ g, g < f → sb S b g = false) (hc : c = 1 ∨ c = 3) {h' : Hp} (fr : ∀ o' j, o' ≠ w + 16 + 1 + b → o' ≠ w → h' o' j = h o' j) (fw : ∀ j, j ≠ 8 → j ≠ 9 → h' w j = h w j) (fb : ∀ j, j ≠ 1 → j ≠ 2 → j ≠ 3 → j ≠ 4 → h' (w + 16 + 1 + b) j = h (w + 16 + 1 + b) j) (q1 : h' (w + 16 + 1 + b) 1 = h (w + 2 + 11) f) (q2 : h' (w + 16 + 1 + b) 2 = if 0 ≤ h (w + 2 + 11) f then h (w + 16 + 1 + b) 2 else -2) (q3 : h' (w + 16 + 1 + b) 3 = h (w + 16 + 1 + b) 3 - 1) (q4 : h' (w + 16 + 1 + b) 4 = h (w + 16 + 1 + b) 4 - h (w + 2 + 2) f) (q8 : h' w 8 = h w 8 - 1) (q9 : h' w 9 = h w 9 - h (w + 2 + 2) f) : Rel bg rl tb m y sn Bd n N f nw ol L h' w (sBec S f b L.length (nI c)) := by
  have hnn := R.n200
  have hf2 : f < 200 := by omega
  obtain ⟨hs1, hs2⟩ := sb_t.mp hs
  have hx0 : ¬ nI c = 0 := nI_ne0 (by omega) (by omega)
  obtain ⟨z1, z2, z3, z4, z5, z6, z7, z8, z9, z10, z11, z12⟩ := R.fi.1 f hf
  have hmk : S (276 + 12 * f + 5) = 0 := (rg01 z6).resolve_right (fun u => by have := z9 u; rw [hs2] at this; exact absurd this (by decide))
  have hfL : f ∉ L := fun u => ((R.el.2.2.2.2.2.1 f).mp u).2.2 hs2
  have hlen : L.length < n := by
    have := nd_len n (f :: L) (List.nodup_cons.mpr ⟨hfL, R.el.2.2.2.2.1⟩) (fun x hx => by
      rcases List.mem_cons.mp hx with u | u
      · rw [u]; exact hf
      · exact R.hL2 x u)
    rw [List.length_cons] at this
    omega
  have hsb1 : ∀ b', sb (sBec S f b L.length (nI c)) b' f = false := fun b' => sb_f.mpr (fun u => hx0 (by rw [← sBec_6 S (b := b) (e := L.length) (nI c) hf2 hb]; exact u.2))
  have hsb2 : ∀ b' g, g < n → g ≠ f → sb (sBec S f b L.length (nI c)) b' g = sb S b' g := fun b' g hg hn => sb_cong (sBec_n _ _ (by omega) (by omega) (by omega) (by omega) (by omega) (by omega)) (sBec_n _ _ (by omega) (by omega) (by omega) (by omega) (by omega) (by omega))
  have hsb3 : ∀ b', b' < 16 → b' ≠ b → ∀ g, g < n → sb (sBec S f b L.length (nI c)) b' g = sb S b' g := fun b' hb' hn g hg => by
    by_cases e : g = f
    · rw [e, hsb1]
      exact (sb_f.mpr (fun u => hn (nI_inj (by omega) (by omega) (u.1.symm.trans hs1)))).symm
    · exact hsb2 b' g hg e
  obtain ⟨by1, hby1, hby2, hby⟩ := z2
  have hn200 := R.n200
  have hmy := R.my
  refine ⟨?_, ?_, ?_, ?_, ?_, ?_, ?_, ?_, ?_, ?_, ?_, ?_, ?_, ?_, ?_, ?_, ?_, ?_, ?_, ?_, ?_⟩
  · obtain ⟨e1, e2, e3, e4, e5, e6, e7, e8, e9, e10⟩ := R.sc
    refine ⟨?_, ?_, ?_, ?_, ?_, ?_, ?_, ?_, ?_, ?_⟩
    · rw [fw 7 (by omega) (by omega), sBec_n _ _ (by omega) (by omega) (by omega) (by omega) (by omega) (by omega), e1]
    · simp (disch := omega) only [fr, fw, fb, sBec_n, e2]
    · rw [q8, sBec_2, e3]
    · simp (disch := omega) only [fr, fw, fb, sBec_n, e4]
    · simp (disch := omega) only [fr, fw, fb, sBec_n, e5]
    · simp (disch := omega) only [fr, fw, fb, sBec_n, e6]
    · simp (disch := omega) only [fr, fw, fb, sBec_n, e7]
    · simp (disch := omega) only [fr, fw, fb, sBec_n, e8]
    · simp (disch := omega) only [fr, fw, fb, sBec_n, e9]
    · rw [fw 6 (by omega) (by omega), sBec_n _ _ (by omega) (by omega) (by omega) (by omega) (by omega) (by omega), e10]
  · intro b' hb'
    obtain ⟨e1, e2, e3, e4, e5, e6, e7, e8, e9, e10⟩ := R.bk b' hb'
    by_cases e : b' = b
    · subst e
      refine ⟨?_, ?_, ?_, ?_, ?_, ?_, ?_, ?_, ?_, ?_⟩
      · simp (disch := omega) only [fr, fw, fb, sBec_n, e1]
      · simp (disch := omega) only [fr, fw, fb, sBec_n, e2]
      · simp (disch := omega) only [fr, fw, fb, sBec_n, e3]
      · simp (disch := omega) only [fr, fw, fb, sBec_n, e4]
      · simp (disch := omega) only [fr, fw, fb, sBec_n, e5]
      · simp (disch := omega) only [fr, fw, fb, sBec_n, e6]
      · simp (disch := omega) only [fr, fw, fb, sBec_n, e7]
      · simp (disch := omega) only [fr, fw, fb, sBec_n, e8]
      · simp (disch := omega) only [fr, fw, fb, sBec_n, e9]
      · rw [q4, sBec_12 _ _ hf2 hb', e10, R.f2 hf]
    · refine ⟨?_, ?_, ?_, ?_, ?_, ?_, ?_, ?_, ?_, ?_⟩ <;> simp (disch := omega) only [fr, fw, fb, sBec_n, e1, e2, e3, e4, e5, e6, e7, e8, e9, e10]
  · intro g hg
    obtain ⟨e1, e2, e3, e4, e5, e6, e7, e8, e9⟩ := R.fr g hg
    refine ⟨?_, ?_, ?_, ?_, ?_, ?_, ?_, ?_, fun ht => ?_⟩
    · simp (disch := omega) only [fr, fw, fb, sBec_n, e1]
    · simp (disch := omega) only [fr, fw, fb, sBec_n, e2]
    · simp (disch := omega) only [fr, fw, fb, sBec_n, e3]
    · simp (disch := omega) only [fr, fw, fb, sBec_n, e4]
    · simp (disch := omega) only [fr, fw, fb, sBec_n, e5]
    · simp (disch := omega) only [fr, fw, fb, sBec_n, e6]
    · simp (disch := omega) only [fr, fw, fb, sBec_n, e7]
    · simp (disch := omega) only [fr, fw, fb, sBec_n, e8]
    · obtain ⟨e10, e11⟩ := e9 (by omega)
      exact ⟨by simp (disch := omega) only [fr, fw, fb, sBec_n, e10], by simp (disch := omega) only [fr, fw, fb, sBec_n, e11]⟩
  · exact R.ksn.cong (fun k j _ _ => (by first | rfl | (simp (disch := omega) only [fr, fw, fb, sBec_n]; done))) (fun k _ _ => (by first | rfl | (simp (disch := omega) only [fr, fw, fb, sBec_n]; done))) R.sn4
  · exact R.is.cong (fun k _ _ _ _ _ _ => (by first | rfl | (simp (disch := omega) only [fr, fw, fb, sBec_n]; done)))
  · exact R.br.cong (fun b' c _ _ => (by first | rfl | (simp (disch := omega) only [fr, fw, fb, sBec_n]; done)))
  · refine ⟨fun g hg => ?_, fun g h1 h2 => ?_⟩
    · by_cases e : g = f
      · subst e
        refine ⟨?_, ?_, ?_, ?_, ?_, ?_, ?_, ?_, ?_, ?_, ?_, ?_⟩
        · rw [sBec_n _ _ (by omega) (by omega) (by omega) (by omega) (by omega) (by omega)]; exact z1
        · rw [sBec_n _ _ (by omega) (by omega) (by omega) (by omega) (by omega) (by omega)]; exact ⟨by1, hby1, hby2, hby⟩
        · rw [sBec_n _ _ (by omega) (by omega) (by omega) (by omega) (by omega) (by omega)]; exact z3
        · rw [sBec_n _ _ (by omega) (by omega) (by omega) (by omega) (by omega) (by omega)]; exact z4
        · rw [sBec_n _ _ (by omega) (by omega) (by omega) (by omega) (by omega) (by omega)]; exact z5
        · rw [sBec_n _ _ (by omega) (by omega) (by omega) (by omega) (by omega) (by omega)]; exact z6
        · rw [sBec_6 _ _ hf2 hb]; exact ⟨c, by omega, by omega, rfl⟩
        · intro _
          obtain ⟨c0, k1, k2, k3⟩ := z4
          exact ⟨c0, N, by rw [sBec_n _ _ (by omega) (by omega) (by omega) (by omega) (by omega) (by omega)]; exact k3, by rw [sBec_7 _ _ hf2 hb]; exact R.i0, k2, Nat.le_refl N⟩
        · intro u
          rw [sBec_n _ _ (by omega) (by omega) (by omega) (by omega) (by omega) (by omega), hmk] at u
          exact absurd u (by decide)
        · rw [sBec_n _ _ (by omega) (by omega) (by omega) (by omega) (by omega) (by omega)]; exact z10
        · rw [sBec_n _ _ (by omega) (by omega) (by omega) (by omega) (by omega) (by omega)]; exact z11
        · intro u
          rw [sBec_6 _ _ hf2 hb] at u
          exact absurd u hx0
      · have := R.fi.1 g hg
        simp (disch := omega) only [sBec_n]
        exact this
    · have := R.fi.2 g h1 h2
      simp (disch := omega) only [sBec_n]
      exact this
  · exact R.si.cong (fun k c _ _ => (by first | rfl | (simp (disch := omega) only [fr, fw, fb, sBec_n]; done))) R.sn4
  · exact R.li.cong (fun k _ _ _ => (by first | rfl | (simp (disch := omega) only [fr, fw, fb, sBec_n]; done))) (fun b' _ => (by first | rfl | (simp (disch := omega) only [fr, fw, fb, sBec_n]; done))) R.my
  · exact R.lc.cong (fun j => (by first | rfl | (simp (disch := omega) only [fr, fw, fb, sBec_n]; done))) (fun j => (by first | rfl | (simp (disch := omega) only [fr, fw, fb, sBec_n]; done)))
  · intro b' hb'
    obtain ⟨e1, e2, e3, e4⟩ := R.cb b' hb'
    by_cases e : b' = b
    · subst e
      have hnx := R.cf.1 b' f hb' hf hs
      refine ⟨?_, ?_, ?_, ?_⟩
      · rw [q1]; exact hnx.less hm (hsb1 b') (fun g hg hn => hsb2 b' g hg hn) hf
      · rw [q2]; exact e2.less hnx hm (hsb1 b') (fun g hg hn => hsb2 b' g hg hn) hf hnn
      · rw [q3, e3, cnt_one hf hs (hsb1 b') (fun k hk hn => hsb2 b' k hk hn), nI_pred]
      · rw [sBec_12 _ _ hf2 hb', e4, hby]
        apply sub_of_add
        have := sm_one (g := fun f => if sb S b' f then (S (276 + 12 * f + 1)).toNatClampNeg else 0) (g' := fun g => if sb (sBec S f b' L.length (nI c)) b' g then (sBec S f b' L.length (nI c) (276 + 12 * g + 1)).toNatClampNeg else 0) hf (fun k hk hn => by
          show (if sb (sBec S f b' L.length (nI c)) b' k then _ else 0) = (if sb S b' k then _ else 0)
          rw [hsb2 b' k hk hn, sBec_n _ _ (by omega) (by omega) (by omega) (by omega) (by omega) (by omega)])
        simp only [hs, hsb1 b', hby, nI_clamp (show by1 < 2 ^ 31 by omega), if_true] at this
        unfold bsum
        simpa using this
    · refine ⟨?_, ?_, ?_, ?_⟩
      · rw [fr _ _ (by omega) (by omega)]; exact e1.cong (hsb3 b' hb' e)
      · rw [fr _ _ (by omega) (by omega)]; exact e2.cong (hsb3 b' hb' e)
      · rw [fr _ _ (by omega) (by omega), e3, fa_cnt_cong (hsb3 b' hb' e)]
      · rw [sBec_n _ _ (by omega) (by omega) (by omega) (by omega) (by omega) (by omega), e4]
        congr 1
        refine (sm_cong fun k hk => ?_).symm
        rw [hsb3 b' hb' e k hk, sBec_n _ _ (by omega) (by omega) (by omega) (by omega) (by omega) (by omega)]
  · refine ⟨fun b' g hb' hg hs' => ?_, ?_, ?_⟩
    · have hgf : g ≠ f := fun u => by
        rw [u, hsb1 b'] at hs'
        cases hs'
      rw [hsb2 b' g hg hgf] at hs'
      have hnx := R.cf.1 b' g hb' hg hs'
      rw [fr _ _ (by omega) (by omega)]
      by_cases e : b' = b
      · subst e
        have hlt : f < g := by
          rcases Nat.lt_or_ge f g with u | u
          · exact u
          · have := hm g (by omega)
            rw [hs'] at this
            cases this
        rcases hnx with ⟨i, k1, k2, k3, k4, k5⟩ | ⟨k1, k2⟩
        · exact Or.inl ⟨i, k1, k2, by rw [hsb2 b' i k2 (by omega), k3], fun u v1 v2 => by rw [hsb2 b' u (by omega) (by omega), k4 u v1 v2], k5⟩
        · exact Or.inr ⟨fun u v1 v2 => by rw [hsb2 b' u v2 (by omega), k1 u v1 v2], k2⟩
      · exact hnx.cong (hsb3 b' hb' e)
    · rw [sBec_2, R.cf.2.1, cnt_one (p' := sd (sBec S f b L.length (nI c))) hf (show sd S f = true from decide_eq_true_iff.mpr hs2) (decide_eq_false_iff_not.mpr (by rw [sBec_6 _ _ hf2 hb]; exact hx0)) (fun k hk hn => by unfold sd; rw [sBec_n _ _ (by omega) (by omega) (by omega) (by omega) (by omega) (by omega)]), nI_pred]
    · rw [q9, R.cf.2.2, R.f2 hf]
      exact (isum_sub (j := b) (sBec_12 _ _ hf2 hb) hb (fun k hk hn => sBec_n _ _ (by omega) (by omega) (by omega) (by omega) (by omega) (by omega))).symm
  · obtain ⟨e1, e2, e3, e4, e5, e6, e7, e8⟩ := R.el
    rw [lr_200 _ (Nat.le_refl _)] at e3 e4
    have hwn : ∀ a, a ∈ L → wn (sBec S f b L.length (nI c)) a = wn S a := fun a ha => by
      have hne : a ≠ f := fun u => hfL (u ▸ ha)
      unfold wn
      rw [sBec_n _ _ (by omega) (by have := R.hL2 a ha; omega) (by have := R.hL2 a ha; omega) (by omega) (by have := R.hL2 a ha; omega) (by have := R.hL2 a ha; omega)]
    refine ⟨?_, e2.cong fun i hi => fr _ _ (by omega) (by omega), ?_, ?_, e5, fun g => ?_, fun _ => ⟨hf, ?_, ?_⟩, ?_⟩
    · rw [fr _ _ (by omega) (by omega), e1]
    · rw [lr_in _ hf2, sBec_s, List.length_append]
      rfl
    · rw [lr_in _ hf2]
      exact AL.snoc (e4.cong fun i hi => sBec_n _ _ (by omega) (by omega) (by omega) (by omega) (by omega) (by omega)) (sBec_e _ _)
    · rw [e6 g]
      constructor
      · rintro ⟨x1, x2, x3⟩
        have hne : g ≠ f := fun u => x3 (u ▸ hs2)
        exact ⟨x1, hne, by rw [sBec_n _ _ (by omega) (by omega) (by omega) (by omega) (by omega) (by omega)]; exact x3⟩
      · rintro ⟨x1, x2, x3⟩
        exact ⟨x1, by omega, by rw [sBec_n _ _ (by omega) (by omega) (by omega) (by omega) (by omega) (by omega)] at x3; exact x3⟩
    · rw [sBec_6 _ _ hf2 hb]
      exact hx0
    · rw [sBec_7 _ _ hf2 hb]
      exact R.i0
    · exact e8.imp_of_mem fun {a a'} ha ha' hab => by rw [hwn a ha, hwn a' ha']; exact hab
  · obtain ⟨e1, e2, e3, e4, e5, e6, e7, e8, e9, e10⟩ := R.ep
    rw [lr_200 _ (Nat.le_refl _)] at e5 e6
    have hp : ∀ c', pl (sBec S f b L.length (nI c)) c' L = pl S c' L := fun c' => List.filter_congr fun a ha => by
      have hne : a ≠ f := fun u => hfL (u ▸ ha)
      have := R.hL2 a ha
      rw [sBec_n _ _ (by omega) (by omega) (by omega) (by omega) (by omega) (by omega)]
    have hml : ml (sBec S f b L.length (nI c)) (lr f L) = ml S L := by
      rw [lr_in _ hf2]
      unfold ml
      rw [List.filter_append]
      have h1 : List.filter (fun a => decide (sBec S f b L.length (nI c) (276 + 12 * a + 5) = 1)) L = List.filter (fun a => decide (S (276 + 12 * a + 5) = 1)) L := List.filter_congr fun a ha => by
        have := R.hL2 a ha
        rw [sBec_n _ _ (by omega) (by omega) (by omega) (by omega) (by omega) (by omega)]
      have h2 : List.filter (fun a => decide (sBec S f b L.length (nI c) (276 + 12 * a + 5) = 1)) [f] = [] := by
        rw [List.filter_cons_of_neg]
        · rfl
        · rw [sBec_n _ _ (by omega) (by omega) (by omega) (by omega) (by omega) (by omega), hmk]
          decide
      rw [h1, h2, List.append_nil]
    have p1 : ∀ c', (pl S c' L).length ≤ L.length := fun c' => List.length_filter_le _ _
    have p2 : (ml S L).length ≤ L.length := List.length_filter_le _ _
    have r1 := p1 1
    have r2 := p1 2
    have r3 := p1 3
    unfold kEP
    rw [hp, hp, hp, hml, sBec_n _ _ (by omega) (by omega) (by omega) (by omega) (by omega) (by omega), sBec_n _ _ (by omega) (by omega) (by omega) (by omega) (by omega) (by omega), sBec_n _ _ (by omega) (by omega) (by omega) (by omega) (by omega) (by omega), sBec_n _ _ (by omega) (by omega) (by omega) (by omega) (by omega) (by omega)]
    exact ⟨e1, e2.cong fun i hi => sBec_n _ _ (by omega) (by omega) (by omega) (by omega) (by omega) (by omega), e3, e4.cong fun i hi => sBec_n _ _ (by omega) (by omega) (by omega) (by omega) (by omega) (by omega), e5, e6.cong fun i hi => sBec_n _ _ (by omega) (by omega) (by omega) (by omega) (by omega) (by omega), e7, e8.cong fun i hi => sBec_n _ _ (by omega) (by omega) (by omega) (by omega) (by omega) (by omega), e9, e10⟩
  · exact R.eh.cong R.hL2 R.sn4 (fun k _ => (by first | rfl | (simp (disch := omega) only [fr, fw, fb, sBec_n]; done))) (fun f c _ _ => (by first | rfl | (simp (disch := omega) only [fr, fw, fb, sBec_n]; done)))
  · exact R.wi.cong (fun j i _ _ => (by first | rfl | (simp (disch := omega) only [fr, fw, fb, sBec_n]; done))) (fun k _ => (by first | rfl | (simp (disch := omega) only [fr, fw, fb, sBec_n]; done)))
  · exact R.ta.cong (fun j _ => (by first | rfl | (simp (disch := omega) only [fr, fw, fb, sBec_n]; done))) (fun k _ _ => (by first | rfl | (simp (disch := omega) only [fr, fw, fb, sBec_n]; done)))
  · exact R.pk.cong (by first | rfl | (simp (disch := omega) only [fr, fw, fb, sBec_n]; done)) (by first | rfl | (simp (disch := omega) only [fr, fw, fb, sBec_n]; done))
  · exact R.kbg.cong (fun b' _ => by by_cases e : b' = b; (· subst e; exact fb 13 (by omega) (by omega) (by omega) (by omega)); (· exact fr _ _ (by omega) (by omega))) (fun f c _ _ => (by first | rfl | (simp (disch := omega) only [fr, fw, fb, sBec_n]; done))) (fun b' _ => (by first | rfl | (simp (disch := omega) only [fr, fw, fb, sBec_n]; done)))
  · refine R.px.cong R.hL2 (fun a ha hm => ?_)
    have hne : a ≠ f := fun u => hfL (u ▸ hm)
    rw [sBec_n _ _ (by omega) (by omega) (by omega) (by omega) (by omega) (by omega)]
  · exact R.lt.cong (by first | rfl | (simp (disch := omega) only [fr, fw, fb, sBec_n]; done)) (by first | rfl | (simp (disch := omega) only [fr, fw, fb, sBec_n]; done))
end Tk
