/-! a taken frame ends; it is marked -/
theorem sHap_n (S : Nat → Int32) {k c f j : Nat} (h1 : j ≠ 2676 + 200 * k + c) (h2 : j ≠ 14 + k) : sHap S k c f j = S j := by
  unfold sHap
  rw [upd_n _ _ h2, upd_n _ _ h1]
theorem sHap_c (S : Nat → Int32) {k c f : Nat} : sHap S k c f (14 + k) = nI (c + 1) := by
  unfold sHap
  rw [upd_s]
theorem sHap_p (S : Nat → Int32) {k c f : Nat} (hk : k < 4) : sHap S k c f (2676 + 200 * k + c) = nI f := by
  unfold sHap
  rw [upd_n _ _ (by omega), upd_s]
theorem pl_snoc {S S' : Nat → Int32} {L : List Nat} {f c : Nat} (h1 : ∀ a ∈ L, S' (276 + 12 * a + 6) = S (276 + 12 * a + 6)) : pl S' c (L ++ [f]) = pl S c L ++ (if S' (276 + 12 * f + 6) = nI c then [f] else []) := by
  unfold pl
  rw [List.filter_append, List.filter_congr (q := fun f => decide (S (276 + 12 * f + 6) = nI c)) (fun a ha => by rw [h1 a ha])]
  by_cases e : S' (276 + 12 * f + 6) = nI c
  · rw [if_pos e, List.filter_cons_of_pos (by rw [e]; exact decide_eq_true rfl)]
    simp
  · rw [if_neg e, List.filter_cons_of_neg (by rw [decide_eq_true_iff]; exact e)]
    simp
theorem ml_snoc {S S' : Nat → Int32} {L : List Nat} {f : Nat} (h1 : ∀ a ∈ L, S' (276 + 12 * a + 5) = S (276 + 12 * a + 5)) : ml S' (L ++ [f]) = ml S L ++ (if S' (276 + 12 * f + 5) = 1 then [f] else []) := by
  unfold ml
  rw [List.filter_append, List.filter_congr (q := fun f => decide (S (276 + 12 * f + 5) = 1)) (fun a ha => by rw [h1 a ha])]
  by_cases e : S' (276 + 12 * f + 5) = 1
  · rw [if_pos e, List.filter_cons_of_pos (by rw [e]; exact decide_eq_true rfl)]
    simp
  · rw [if_neg e, List.filter_cons_of_neg (by rw [decide_eq_true_iff]; exact e)]
    simp
theorem tally_up (x tb : Int32) : x + 1 + tb = x + tb + 1 := i_rc x 1 tb
section En
variable {bg rl : Bool} {tb : Nat → Int32} {m y sn Bd n N tk : Nat} {nw ol L : List Nat} {h : Hp} {w : Nat} {S : Nat → Int32}
theorem Rel.fin1 {f : Nat} (R : Rel bg rl tb m y sn Bd n N f nw ol L h w S) (hf2 : f < 200) : Rel bg rl tb m y sn Bd n N 200 nw ol (L ++ [f]) (hp (hp (hp (hp (hp h (w + 2 + 9) f (nI 1)) (w + 2 + 10) f (nI N)) (w + 2 + 12) L.length (nI f)) (w + 2) 14 (nI (L.length + 1))) (w + 2 + 13) 1 (h (w + 2 + 13) 1 + 1)) w (sHap (upd S (276 + 12 * f + 6) (nI 1)) 0 (pl S 1 L).length f) := by
  obtain ⟨hf, hb0, hwf⟩ := R.el.2.2.2.2.2.2.1 hf2
  have hnn := R.n200
  have hx0 : ¬ nI 1 = 0 := by decide
  have hfL : f ∉ L := fun u => ((R.el.2.2.2.2.2.1 f).mp u).2.1 rfl
  have hLn := R.el.lr200 hnn
  rw [lr_in _ hf2, List.length_append] at hLn
  have hLn2 : L.length + 1 ≤ n := hLn
  have hpl : (pl S 1 L).length ≤ L.length := List.length_filter_le _ _
  have hS6 : ∀ g, g < n → g ≠ f → (sHap (upd S (276 + 12 * f + 6) (nI 1)) 0 (pl S 1 L).length f) (276 + 12 * g + 6) = S (276 + 12 * g + 6) := fun g hg hn => by simp (disch := omega) only [hp_s, hp_o', hp_k, sHap_n, upd_n, upd_s]
  have hS6f : (sHap (upd S (276 + 12 * f + 6) (nI 1)) 0 (pl S 1 L).length f) (276 + 12 * f + 6) = nI 1 := by simp (disch := omega) only [hp_s, hp_o', hp_k, sHap_n, upd_n, upd_s]
  have hS : ∀ g j, g < n → j ≠ 6 → j < 12 → (sHap (upd S (276 + 12 * f + 6) (nI 1)) 0 (pl S 1 L).length f) (276 + 12 * g + j) = S (276 + 12 * g + j) := fun g j hg hn hj => by simp (disch := omega) only [hp_s, hp_o', hp_k, sHap_n, upd_n, upd_s]
  have hsb : ∀ b' g, g < n → sb (sHap (upd S (276 + 12 * f + 6) (nI 1)) 0 (pl S 1 L).length f) b' g = sb S b' g := fun b' g hg => by
    by_cases e : g = f
    · subst e
      rw [sb_f.mpr (fun u => hb0 u.2), sb_f.mpr (fun u => hx0 (by rw [← hS6f]; exact u.2))]
    · exact sb_cong (hS g 4 hg (by omega) (by omega)) (hS6 g hg e)
  have hn200 := R.n200
  have hmy := R.my
  refine ⟨?_, ?_, ?_, ?_, ?_, ?_, ?_, ?_, ?_, ?_, ?_, ?_, ?_, ?_, ?_, ?_, ?_, ?_, ?_, ?_, ?_⟩
  · exact R.sc.cong (fun j _ _ => (by first | rfl | (simp (disch := omega) only [hp_s, hp_o', hp_k, sHap_n, upd_n, upd_s]; done))) (by first | rfl | (simp (disch := omega) only [hp_s, hp_o', hp_k, sHap_n, upd_n, upd_s]; done)) (fun j _ _ _ => (by first | rfl | (simp (disch := omega) only [hp_s, hp_o', hp_k, sHap_n, upd_n, upd_s]; done))) (fun k _ _ _ _ => (by first | rfl | (simp (disch := omega) only [hp_s, hp_o', hp_k, sHap_n, upd_n, upd_s]; done)))
  · exact R.bk.cong (fun b' j _ _ => (by first | rfl | (simp (disch := omega) only [hp_s, hp_o', hp_k, sHap_n, upd_n, upd_s]; done))) (fun b' c _ _ => (by first | rfl | (simp (disch := omega) only [hp_s, hp_o', hp_k, sHap_n, upd_n, upd_s]; done)))
  · intro g hg
    obtain ⟨e1, e2, e3, e4, e5, e6, e7, e8, e9⟩ := R.fr g hg
    refine ⟨?_, ?_, ?_, ?_, ?_, ?_, ?_, ?_, fun ht => ?_⟩
    · simp (disch := omega) only [hp_s, hp_o', hp_k, sHap_n, upd_n, upd_s, e1]
    · simp (disch := omega) only [hp_s, hp_o', hp_k, sHap_n, upd_n, upd_s, e2]
    · simp (disch := omega) only [hp_s, hp_o', hp_k, sHap_n, upd_n, upd_s, e3]
    · simp (disch := omega) only [hp_s, hp_o', hp_k, sHap_n, upd_n, upd_s, e4]
    · simp (disch := omega) only [hp_s, hp_o', hp_k, sHap_n, upd_n, upd_s, e5]
    · simp (disch := omega) only [hp_s, hp_o', hp_k, sHap_n, upd_n, upd_s, e6]
    · simp (disch := omega) only [hp_s, hp_o', hp_k, sHap_n, upd_n, upd_s, e7]
    · simp (disch := omega) only [hp_s, hp_o', hp_k, sHap_n, upd_n, upd_s, e8]
    · by_cases e : g = f
      · subst e
        refine ⟨?_, ?_⟩
        · rw [hS6f]
          simp (disch := omega) only [hp_s, hp_o', hp_k, sHap_n, upd_n, upd_s]
        · rw [hS g 7 hg (by omega) (by omega), hwf]
          simp (disch := omega) only [hp_s, hp_o', hp_k, sHap_n, upd_n, upd_s]
      · obtain ⟨e10, e11⟩ := e9 e
        exact ⟨by simp (disch := omega) only [hp_s, hp_o', hp_k, sHap_n, upd_n, upd_s, e10], by simp (disch := omega) only [hp_s, hp_o', hp_k, sHap_n, upd_n, upd_s, e11]⟩
  · exact R.ksn.cong (fun k j _ _ => (by first | rfl | (simp (disch := omega) only [hp_s, hp_o', hp_k, sHap_n, upd_n, upd_s]; done))) (fun k _ _ => (by first | rfl | (simp (disch := omega) only [hp_s, hp_o', hp_k, sHap_n, upd_n, upd_s]; done))) R.sn4
  · exact R.is.cong (fun k _ _ _ _ _ _ => (by first | rfl | (simp (disch := omega) only [hp_s, hp_o', hp_k, sHap_n, upd_n, upd_s]; done)))
  · exact R.br.cong (fun b' c _ _ => (by first | rfl | (simp (disch := omega) only [hp_s, hp_o', hp_k, sHap_n, upd_n, upd_s]; done)))
  · refine ⟨fun g hg => ?_, fun g h1 h2 => ?_⟩
    · obtain ⟨z1, z2, z3, z4, z5, z6, z7, z8, z9, z10, z11, z12⟩ := R.fi.1 g hg
      rw [hS g 0 hg (by omega) (by omega), hS g 1 hg (by omega) (by omega), hS g 2 hg (by omega) (by omega), hS g 3 hg (by omega) (by omega), hS g 4 hg (by omega) (by omega), hS g 5 hg (by omega) (by omega), hS g 7 hg (by omega) (by omega), hS g 9 hg (by omega) (by omega), hS g 10 hg (by omega) (by omega)]
      by_cases e : g = f
      · subst e
        rw [hS6f]
        exact ⟨z1, z2, z3, z4, z5, z6, ⟨1, by omega, by omega, rfl⟩, fun _ => z8 hb0, fun _ => rfl, z10, z11, fun u => absurd u hx0⟩
      · rw [hS6 g hg e]
        exact ⟨z1, z2, z3, z4, z5, z6, z7, z8, z9, z10, z11, z12⟩
    · have := R.fi.2 g h1 h2
      simp (disch := omega) only [hp_s, hp_o', hp_k, sHap_n, upd_n, upd_s]
      exact this
  · exact R.si.cong (fun k c _ _ => (by first | rfl | (simp (disch := omega) only [hp_s, hp_o', hp_k, sHap_n, upd_n, upd_s]; done))) R.sn4
  · exact R.li.cong (fun k _ _ _ => (by first | rfl | (simp (disch := omega) only [hp_s, hp_o', hp_k, sHap_n, upd_n, upd_s]; done))) (fun b' _ => (by first | rfl | (simp (disch := omega) only [hp_s, hp_o', hp_k, sHap_n, upd_n, upd_s]; done))) R.my
  · exact R.lc.cong (fun j => (by first | rfl | (simp (disch := omega) only [hp_s, hp_o', hp_k, sHap_n, upd_n, upd_s]; done))) (fun j => (by first | rfl | (simp (disch := omega) only [hp_s, hp_o', hp_k, sHap_n, upd_n, upd_s]; done)))
  · intro b' hb'
    obtain ⟨e1, e2, e3, e4⟩ := R.cb b' hb'
    refine ⟨?_, ?_, ?_, ?_⟩
    · simp (disch := omega) only [hp_s, hp_o', hp_k, sHap_n, upd_n, upd_s]
      exact e1.cong (hsb b')
    · simp (disch := omega) only [hp_s, hp_o', hp_k, sHap_n, upd_n, upd_s]
      exact e2.cong (hsb b')
    · simp (disch := omega) only [hp_s, hp_o', hp_k, sHap_n, upd_n, upd_s, e3]
      rw [fa_cnt_cong (hsb b')]
    · have hq : bsum (sHap (upd S (276 + 12 * f + 6) (nI 1)) 0 (pl S 1 L).length f) b' n = bsum S b' n := sm_cong fun k hk => by
        show (if sb _ b' k then _ else 0) = (if sb S b' k then _ else 0)
        rw [hsb b' k hk, hS k 1 hk (by omega) (by omega)]
      rw [hq]
      simp (disch := omega) only [hp_s, hp_o', hp_k, sHap_n, upd_n, upd_s, e4]
  · refine ⟨fun b' g hb' hg hs' => ?_, ?_, ?_⟩
    · rw [hsb b' g hg] at hs'
      simp (disch := omega) only [hp_s, hp_o', hp_k, sHap_n, upd_n, upd_s]
      exact (R.cf.1 b' g hb' hg hs').cong (hsb b')
    · have hq : fa_cnt (sd (sHap (upd S (276 + 12 * f + 6) (nI 1)) 0 (pl S 1 L).length f)) n = fa_cnt (sd S) n := fa_cnt_cong fun k hk => by
        unfold sd
        by_cases e : k = f
        · subst e
          rw [hS6f]
          exact decide_eq_decide.mpr ⟨fun u => absurd u hx0, fun u => absurd u hb0⟩
        · rw [hS6 k hk e]
      rw [hq]
      simp (disch := omega) only [hp_s, hp_o', hp_k, sHap_n, upd_n, upd_s, R.cf.2.1]
    · have hq : isum (fun b => (sHap (upd S (276 + 12 * f + 6) (nI 1)) 0 (pl S 1 L).length f) (68 + 13 * b + 12)) 16 = isum (fun b => S (68 + 13 * b + 12)) 16 := isum_cong fun k hk => by simp (disch := omega) only [hp_s, hp_o', hp_k, sHap_n, upd_n, upd_s]
      rw [hq]
      simp (disch := omega) only [hp_s, hp_o', hp_k, sHap_n, upd_n, upd_s, R.cf.2.2]
  · obtain ⟨e1, e2, e3, e4, e5, e6, e7, e8⟩ := R.el
    rw [lr_in _ hf2] at e3 e4
    refine ⟨?_, ?_, ?_, ?_, ?_, fun g => ?_, fun u => absurd u (by omega), ?_⟩
    · simp (disch := omega) only [hp_s, hp_o', hp_k, sHap_n, upd_n, upd_s, List.length_append, List.length_cons, List.length_nil]
    · refine AL.snoc (e2.cong fun i hi => ?_) ?_
      · simp (disch := omega) only [hp_s, hp_o', hp_k, sHap_n, upd_n, upd_s]
      · simp (disch := omega) only [hp_s, hp_o', hp_k, sHap_n, upd_n, upd_s, Nat.zero_add]
    · rw [lr_200 _ (Nat.le_refl _)]
      simp (disch := omega) only [hp_s, hp_o', hp_k, sHap_n, upd_n, upd_s, e3]
    · rw [lr_200 _ (Nat.le_refl _)]
      refine e4.cong fun i hi => ?_
      rw [List.length_append] at hi
      have hi2 : i < L.length + 1 := hi
      simp (disch := omega) only [hp_s, hp_o', hp_k, sHap_n, upd_n, upd_s]
    · exact List.nodup_append.mpr ⟨e5, by simp, fun a ha z hz => by rw [List.mem_singleton] at hz; subst hz; exact fun q => hfL (q ▸ ha)⟩
    · rw [List.mem_append, List.mem_singleton, e6 g]
      constructor
      · rintro (⟨x1, x2, x3⟩ | x1)
        · exact ⟨x1, by omega, by rw [hS6 g x1 x2]; exact x3⟩
        · subst x1
          exact ⟨hf, by omega, by rw [hS6f]; exact hx0⟩
      · rintro ⟨x1, x2, x3⟩
        by_cases e : g = f
        · exact Or.inr e
        · exact Or.inl ⟨x1, e, by rw [hS6 g x1 e] at x3; exact x3⟩
    · have hwn : ∀ a, a < n → wn (sHap (upd S (276 + 12 * f + 6) (nI 1)) 0 (pl S 1 L).length f) a = wn S a := fun a ha => by
        unfold wn
        rw [hS a 7 ha (by omega) (by omega)]
      refine List.pairwise_append.mpr ⟨e8.imp_of_mem fun {a a'} ha ha' hab => by rw [hwn a (R.hL2 a ha), hwn a' (R.hL2 a' ha')]; exact hab, by simp, fun a ha z hz => ?_⟩
      rw [List.mem_singleton] at hz
      subst hz
      rw [hwn a (R.hL2 a ha), hwn z hf]
      obtain ⟨c0, v0, k1, k2, k3, k4⟩ := (R.fi.1 a (R.hL2 a ha)).2.2.2.2.2.2.2.1 (((e6 a).mp ha).2.2)
      have hN := R.N5
      unfold wn
      rw [k2, hwf, nI_clamp (by omega), nI_clamp (by omega)]
      exact k4
  · obtain ⟨e1, e2, e3, e4, e5, e6, e7, e8, e9, e10⟩ := R.ep
    rw [lr_in _ hf2] at e5 e6
    have hp1 : pl (sHap (upd S (276 + 12 * f + 6) (nI 1)) 0 (pl S 1 L).length f) 1 (L ++ [f]) = pl S 1 L ++ [f] := by
      rw [pl_snoc (S := S) (fun a ha => hS6 a (R.hL2 a ha) (fun u => hfL (u ▸ ha))), hS6f]
      rw [if_pos rfl]
    have hp2 : pl (sHap (upd S (276 + 12 * f + 6) (nI 1)) 0 (pl S 1 L).length f) 2 (L ++ [f]) = pl S 2 L := by
      rw [pl_snoc (S := S) (fun a ha => hS6 a (R.hL2 a ha) (fun u => hfL (u ▸ ha))), hS6f]
      rw [if_neg (by decide), List.append_nil]
    have hp3 : pl (sHap (upd S (276 + 12 * f + 6) (nI 1)) 0 (pl S 1 L).length f) 3 (L ++ [f]) = pl S 3 L := by
      rw [pl_snoc (S := S) (fun a ha => hS6 a (R.hL2 a ha) (fun u => hfL (u ▸ ha))), hS6f]
      rw [if_neg (by decide), List.append_nil]
    have hml : ml (sHap (upd S (276 + 12 * f + 6) (nI 1)) 0 (pl S 1 L).length f) (lr 200 (L ++ [f])) = ml S (L ++ [f]) := by
      rw [lr_200 _ (Nat.le_refl _)]
      refine List.filter_congr fun a ha => ?_
      rw [hS a 5 (by rcases List.mem_append.mp ha with u | u; exact R.hL2 a u; rw [List.mem_singleton.mp u]; exact hf) (by omega) (by omega)]
    have p1 : ∀ c', (pl S c' L).length ≤ L.length := fun c' => List.length_filter_le _ _
    have p2 : (ml S (L ++ [f])).length ≤ (L ++ [f]).length := List.length_filter_le _ _
    rw [List.length_append] at p2
    have p3 : (ml S (L ++ [f])).length ≤ L.length + 1 := p2
    have r1 := p1 1
    have r2 := p1 2
    have r3 := p1 3
    unfold kEP
    rw [hp1, hp2, hp3, hml]
    refine ⟨?_, ?_, ?_, ?_, ?_, ?_, ?_, ?_, ?_, e10⟩
    · rw [List.length_append]
      exact sHap_c (k := 0) _
    · exact AL.snoc (e2.cong fun i hi => by simp (disch := omega) only [hp_s, hp_o', hp_k, sHap_n, upd_n, upd_s]) (sHap_p _ (by omega))
    · simp (disch := omega) only [hp_s, hp_o', hp_k, sHap_n, upd_n, upd_s, e3]
    · exact e4.cong fun i hi => by simp (disch := omega) only [hp_s, hp_o', hp_k, sHap_n, upd_n, upd_s]
    · simp (disch := omega) only [hp_s, hp_o', hp_k, sHap_n, upd_n, upd_s, e5]
    · exact e6.cong fun i hi => by simp (disch := omega) only [hp_s, hp_o', hp_k, sHap_n, upd_n, upd_s]
    · simp (disch := omega) only [hp_s, hp_o', hp_k, sHap_n, upd_n, upd_s, e7]
    · exact e8.cong fun i hi => by simp (disch := omega) only [hp_s, hp_o', hp_k, sHap_n, upd_n, upd_s]
    · rw [List.length_append]
      omega
  · obtain ⟨e1, e2⟩ := R.eh
    refine ⟨fun k hk => ?_, fun g hg hn => ?_⟩
    · obtain ⟨s, h1, h2, h3⟩ := e1 k hk
      have hs4 := R.sn4
      refine ⟨s, by rw [List.length_append]; omega, ?_, fun i g hi ho => ?_⟩
      · simp (disch := omega) only [hp_s, hp_o', hp_k, sHap_n, upd_n, upd_s, h2]
      · by_cases hil : i < L.length
        · rw [List.getElem?_append_left hil] at hi
          have hg := R.hL2 g (List.mem_of_getElem? hi)
          rw [hS g 10 hg (by omega) (by omega)] at ho
          rw [hS g 11 hg (by omega) (by omega)]
          exact h3 i g hi ho
        · rw [List.getElem?_append_right (by omega)] at hi
          have hgf : g = f := by
            have := List.mem_of_getElem? hi
            exact List.mem_singleton.mp this
          subst hgf
          rw [hS g 11 hf (by omega) (by omega), e2 g hf hfL, if_neg (by omega)]
    · rw [hS g 11 hg (by omega) (by omega)]
      exact e2 g hg (fun u => hn (List.mem_append_left _ u))
  · exact R.wi.cong (fun j i _ _ => (by first | rfl | (simp (disch := omega) only [hp_s, hp_o', hp_k, sHap_n, upd_n, upd_s]; done))) (fun k _ => (by first | rfl | (simp (disch := omega) only [hp_s, hp_o', hp_k, sHap_n, upd_n, upd_s]; done)))
  · obtain ⟨e1, e2, e3, e4⟩ := R.ta
    have q := R.ep
    refine ⟨?_, ?_, ?_, ?_⟩
    · rw [sHap_c (k := 0), hp_s, tally_up, ← e1, q.1, nI_1]
    · simp (disch := omega) only [hp_s, hp_o', hp_k, sHap_n, upd_n, upd_s, ← e2]
    · simp (disch := omega) only [hp_s, hp_o', hp_k, sHap_n, upd_n, upd_s, ← e3]
    · simp (disch := omega) only [hp_s, hp_o', hp_k, sHap_n, upd_n, upd_s, ← e4]
  · exact R.pk.cong (by first | rfl | (simp (disch := omega) only [hp_s, hp_o', hp_k, sHap_n, upd_n, upd_s]; done)) (by first | rfl | (simp (disch := omega) only [hp_s, hp_o', hp_k, sHap_n, upd_n, upd_s]; done))
  · exact R.kbg.cong (fun b' _ => (by first | rfl | (simp (disch := omega) only [hp_s, hp_o', hp_k, sHap_n, upd_n, upd_s]; done))) (fun f c _ _ => (by first | rfl | (simp (disch := omega) only [hp_s, hp_o', hp_k, sHap_n, upd_n, upd_s]; done))) (fun b' _ => (by first | rfl | (simp (disch := omega) only [hp_s, hp_o', hp_k, sHap_n, upd_n, upd_s]; done)))
  · exact R.px.snoc R.hL2 (fun a ha hm => hS6 a ha (fun u => hfL (u ▸ hm)))
  · exact R.lt.cong (by first | rfl | (simp (disch := omega) only [hp_s, hp_o', hp_k, sHap_n, upd_n, upd_s]; done)) (by first | rfl | (simp (disch := omega) only [hp_s, hp_o', hp_k, sHap_n, upd_n, upd_s]; done))
theorem Rel.fin2 {f : Nat} (R : Rel bg rl tb m y sn Bd n N f nw ol L h w S) (hf2 : f < 200) (hmk : S (276 + 12 * f + 5) = 0) : Rel bg rl tb m y sn Bd n N 200 nw ol (L ++ [f]) (hp (hp (hp (hp (hp h (w + 2 + 9) f (nI 2)) (w + 2 + 10) f (nI N)) (w + 2 + 12) L.length (nI f)) (w + 2) 14 (nI (L.length + 1))) (w + 2 + 13) 2 (h (w + 2 + 13) 2 + 1)) w (sHap (upd S (276 + 12 * f + 6) (nI 2)) 1 (pl S 2 L).length f) := by
  obtain ⟨hf, hb0, hwf⟩ := R.el.2.2.2.2.2.2.1 hf2
  have hnn := R.n200
  have hx0 : ¬ nI 2 = 0 := by decide
  have hfL : f ∉ L := fun u => ((R.el.2.2.2.2.2.1 f).mp u).2.1 rfl
  have hLn := R.el.lr200 hnn
  rw [lr_in _ hf2, List.length_append] at hLn
  have hLn2 : L.length + 1 ≤ n := hLn
  have hpl : (pl S 2 L).length ≤ L.length := List.length_filter_le _ _
  have hS6 : ∀ g, g < n → g ≠ f → (sHap (upd S (276 + 12 * f + 6) (nI 2)) 1 (pl S 2 L).length f) (276 + 12 * g + 6) = S (276 + 12 * g + 6) := fun g hg hn => by simp (disch := omega) only [hp_s, hp_o', hp_k, sHap_n, upd_n, upd_s]
  have hS6f : (sHap (upd S (276 + 12 * f + 6) (nI 2)) 1 (pl S 2 L).length f) (276 + 12 * f + 6) = nI 2 := by simp (disch := omega) only [hp_s, hp_o', hp_k, sHap_n, upd_n, upd_s]
  have hS : ∀ g j, g < n → j ≠ 6 → j < 12 → (sHap (upd S (276 + 12 * f + 6) (nI 2)) 1 (pl S 2 L).length f) (276 + 12 * g + j) = S (276 + 12 * g + j) := fun g j hg hn hj => by simp (disch := omega) only [hp_s, hp_o', hp_k, sHap_n, upd_n, upd_s]
  have hsb : ∀ b' g, g < n → sb (sHap (upd S (276 + 12 * f + 6) (nI 2)) 1 (pl S 2 L).length f) b' g = sb S b' g := fun b' g hg => by
    by_cases e : g = f
    · subst e
      rw [sb_f.mpr (fun u => hb0 u.2), sb_f.mpr (fun u => hx0 (by rw [← hS6f]; exact u.2))]
    · exact sb_cong (hS g 4 hg (by omega) (by omega)) (hS6 g hg e)
  have hn200 := R.n200
  have hmy := R.my
  refine ⟨?_, ?_, ?_, ?_, ?_, ?_, ?_, ?_, ?_, ?_, ?_, ?_, ?_, ?_, ?_, ?_, ?_, ?_, ?_, ?_, ?_⟩
  · exact R.sc.cong (fun j _ _ => (by first | rfl | (simp (disch := omega) only [hp_s, hp_o', hp_k, sHap_n, upd_n, upd_s]; done))) (by first | rfl | (simp (disch := omega) only [hp_s, hp_o', hp_k, sHap_n, upd_n, upd_s]; done)) (fun j _ _ _ => (by first | rfl | (simp (disch := omega) only [hp_s, hp_o', hp_k, sHap_n, upd_n, upd_s]; done))) (fun k _ _ _ _ => (by first | rfl | (simp (disch := omega) only [hp_s, hp_o', hp_k, sHap_n, upd_n, upd_s]; done)))
  · exact R.bk.cong (fun b' j _ _ => (by first | rfl | (simp (disch := omega) only [hp_s, hp_o', hp_k, sHap_n, upd_n, upd_s]; done))) (fun b' c _ _ => (by first | rfl | (simp (disch := omega) only [hp_s, hp_o', hp_k, sHap_n, upd_n, upd_s]; done)))
  · intro g hg
    obtain ⟨e1, e2, e3, e4, e5, e6, e7, e8, e9⟩ := R.fr g hg
    refine ⟨?_, ?_, ?_, ?_, ?_, ?_, ?_, ?_, fun ht => ?_⟩
    · simp (disch := omega) only [hp_s, hp_o', hp_k, sHap_n, upd_n, upd_s, e1]
    · simp (disch := omega) only [hp_s, hp_o', hp_k, sHap_n, upd_n, upd_s, e2]
    · simp (disch := omega) only [hp_s, hp_o', hp_k, sHap_n, upd_n, upd_s, e3]
    · simp (disch := omega) only [hp_s, hp_o', hp_k, sHap_n, upd_n, upd_s, e4]
    · simp (disch := omega) only [hp_s, hp_o', hp_k, sHap_n, upd_n, upd_s, e5]
    · simp (disch := omega) only [hp_s, hp_o', hp_k, sHap_n, upd_n, upd_s, e6]
    · simp (disch := omega) only [hp_s, hp_o', hp_k, sHap_n, upd_n, upd_s, e7]
    · simp (disch := omega) only [hp_s, hp_o', hp_k, sHap_n, upd_n, upd_s, e8]
    · by_cases e : g = f
      · subst e
        refine ⟨?_, ?_⟩
        · rw [hS6f]
          simp (disch := omega) only [hp_s, hp_o', hp_k, sHap_n, upd_n, upd_s]
        · rw [hS g 7 hg (by omega) (by omega), hwf]
          simp (disch := omega) only [hp_s, hp_o', hp_k, sHap_n, upd_n, upd_s]
      · obtain ⟨e10, e11⟩ := e9 e
        exact ⟨by simp (disch := omega) only [hp_s, hp_o', hp_k, sHap_n, upd_n, upd_s, e10], by simp (disch := omega) only [hp_s, hp_o', hp_k, sHap_n, upd_n, upd_s, e11]⟩
  · exact R.ksn.cong (fun k j _ _ => (by first | rfl | (simp (disch := omega) only [hp_s, hp_o', hp_k, sHap_n, upd_n, upd_s]; done))) (fun k _ _ => (by first | rfl | (simp (disch := omega) only [hp_s, hp_o', hp_k, sHap_n, upd_n, upd_s]; done))) R.sn4
  · exact R.is.cong (fun k _ _ _ _ _ _ => (by first | rfl | (simp (disch := omega) only [hp_s, hp_o', hp_k, sHap_n, upd_n, upd_s]; done)))
  · exact R.br.cong (fun b' c _ _ => (by first | rfl | (simp (disch := omega) only [hp_s, hp_o', hp_k, sHap_n, upd_n, upd_s]; done)))
  · refine ⟨fun g hg => ?_, fun g h1 h2 => ?_⟩
    · obtain ⟨z1, z2, z3, z4, z5, z6, z7, z8, z9, z10, z11, z12⟩ := R.fi.1 g hg
      rw [hS g 0 hg (by omega) (by omega), hS g 1 hg (by omega) (by omega), hS g 2 hg (by omega) (by omega), hS g 3 hg (by omega) (by omega), hS g 4 hg (by omega) (by omega), hS g 5 hg (by omega) (by omega), hS g 7 hg (by omega) (by omega), hS g 9 hg (by omega) (by omega), hS g 10 hg (by omega) (by omega)]
      by_cases e : g = f
      · subst e
        rw [hS6f]
        exact ⟨z1, z2, z3, z4, z5, z6, ⟨2, by omega, by omega, rfl⟩, fun _ => z8 hb0, fun u => absurd (hmk.symm.trans u) (by decide), z10, z11, fun u => absurd u hx0⟩
      · rw [hS6 g hg e]
        exact ⟨z1, z2, z3, z4, z5, z6, z7, z8, z9, z10, z11, z12⟩
    · have := R.fi.2 g h1 h2
      simp (disch := omega) only [hp_s, hp_o', hp_k, sHap_n, upd_n, upd_s]
      exact this
  · exact R.si.cong (fun k c _ _ => (by first | rfl | (simp (disch := omega) only [hp_s, hp_o', hp_k, sHap_n, upd_n, upd_s]; done))) R.sn4
  · exact R.li.cong (fun k _ _ _ => (by first | rfl | (simp (disch := omega) only [hp_s, hp_o', hp_k, sHap_n, upd_n, upd_s]; done))) (fun b' _ => (by first | rfl | (simp (disch := omega) only [hp_s, hp_o', hp_k, sHap_n, upd_n, upd_s]; done))) R.my
  · exact R.lc.cong (fun j => (by first | rfl | (simp (disch := omega) only [hp_s, hp_o', hp_k, sHap_n, upd_n, upd_s]; done))) (fun j => (by first | rfl | (simp (disch := omega) only [hp_s, hp_o', hp_k, sHap_n, upd_n, upd_s]; done)))
  · intro b' hb'
    obtain ⟨e1, e2, e3, e4⟩ := R.cb b' hb'
    refine ⟨?_, ?_, ?_, ?_⟩
    · simp (disch := omega) only [hp_s, hp_o', hp_k, sHap_n, upd_n, upd_s]
      exact e1.cong (hsb b')
    · simp (disch := omega) only [hp_s, hp_o', hp_k, sHap_n, upd_n, upd_s]
      exact e2.cong (hsb b')
    · simp (disch := omega) only [hp_s, hp_o', hp_k, sHap_n, upd_n, upd_s, e3]
      rw [fa_cnt_cong (hsb b')]
    · have hq : bsum (sHap (upd S (276 + 12 * f + 6) (nI 2)) 1 (pl S 2 L).length f) b' n = bsum S b' n := sm_cong fun k hk => by
        show (if sb _ b' k then _ else 0) = (if sb S b' k then _ else 0)
        rw [hsb b' k hk, hS k 1 hk (by omega) (by omega)]
      rw [hq]
      simp (disch := omega) only [hp_s, hp_o', hp_k, sHap_n, upd_n, upd_s, e4]
  · refine ⟨fun b' g hb' hg hs' => ?_, ?_, ?_⟩
    · rw [hsb b' g hg] at hs'
      simp (disch := omega) only [hp_s, hp_o', hp_k, sHap_n, upd_n, upd_s]
      exact (R.cf.1 b' g hb' hg hs').cong (hsb b')
    · have hq : fa_cnt (sd (sHap (upd S (276 + 12 * f + 6) (nI 2)) 1 (pl S 2 L).length f)) n = fa_cnt (sd S) n := fa_cnt_cong fun k hk => by
        unfold sd
        by_cases e : k = f
        · subst e
          rw [hS6f]
          exact decide_eq_decide.mpr ⟨fun u => absurd u hx0, fun u => absurd u hb0⟩
        · rw [hS6 k hk e]
      rw [hq]
      simp (disch := omega) only [hp_s, hp_o', hp_k, sHap_n, upd_n, upd_s, R.cf.2.1]
    · have hq : isum (fun b => (sHap (upd S (276 + 12 * f + 6) (nI 2)) 1 (pl S 2 L).length f) (68 + 13 * b + 12)) 16 = isum (fun b => S (68 + 13 * b + 12)) 16 := isum_cong fun k hk => by simp (disch := omega) only [hp_s, hp_o', hp_k, sHap_n, upd_n, upd_s]
      rw [hq]
      simp (disch := omega) only [hp_s, hp_o', hp_k, sHap_n, upd_n, upd_s, R.cf.2.2]
  · obtain ⟨e1, e2, e3, e4, e5, e6, e7, e8⟩ := R.el
    rw [lr_in _ hf2] at e3 e4
    refine ⟨?_, ?_, ?_, ?_, ?_, fun g => ?_, fun u => absurd u (by omega), ?_⟩
    · simp (disch := omega) only [hp_s, hp_o', hp_k, sHap_n, upd_n, upd_s, List.length_append, List.length_cons, List.length_nil]
    · refine AL.snoc (e2.cong fun i hi => ?_) ?_
      · simp (disch := omega) only [hp_s, hp_o', hp_k, sHap_n, upd_n, upd_s]
      · simp (disch := omega) only [hp_s, hp_o', hp_k, sHap_n, upd_n, upd_s, Nat.zero_add]
    · rw [lr_200 _ (Nat.le_refl _)]
      simp (disch := omega) only [hp_s, hp_o', hp_k, sHap_n, upd_n, upd_s, e3]
    · rw [lr_200 _ (Nat.le_refl _)]
      refine e4.cong fun i hi => ?_
      rw [List.length_append] at hi
      have hi2 : i < L.length + 1 := hi
      simp (disch := omega) only [hp_s, hp_o', hp_k, sHap_n, upd_n, upd_s]
    · exact List.nodup_append.mpr ⟨e5, by simp, fun a ha z hz => by rw [List.mem_singleton] at hz; subst hz; exact fun q => hfL (q ▸ ha)⟩
    · rw [List.mem_append, List.mem_singleton, e6 g]
      constructor
      · rintro (⟨x1, x2, x3⟩ | x1)
        · exact ⟨x1, by omega, by rw [hS6 g x1 x2]; exact x3⟩
        · subst x1
          exact ⟨hf, by omega, by rw [hS6f]; exact hx0⟩
      · rintro ⟨x1, x2, x3⟩
        by_cases e : g = f
        · exact Or.inr e
        · exact Or.inl ⟨x1, e, by rw [hS6 g x1 e] at x3; exact x3⟩
    · have hwn : ∀ a, a < n → wn (sHap (upd S (276 + 12 * f + 6) (nI 2)) 1 (pl S 2 L).length f) a = wn S a := fun a ha => by
        unfold wn
        rw [hS a 7 ha (by omega) (by omega)]
      refine List.pairwise_append.mpr ⟨e8.imp_of_mem fun {a a'} ha ha' hab => by rw [hwn a (R.hL2 a ha), hwn a' (R.hL2 a' ha')]; exact hab, by simp, fun a ha z hz => ?_⟩
      rw [List.mem_singleton] at hz
      subst hz
      rw [hwn a (R.hL2 a ha), hwn z hf]
      obtain ⟨c0, v0, k1, k2, k3, k4⟩ := (R.fi.1 a (R.hL2 a ha)).2.2.2.2.2.2.2.1 (((e6 a).mp ha).2.2)
      have hN := R.N5
      unfold wn
      rw [k2, hwf, nI_clamp (by omega), nI_clamp (by omega)]
      exact k4
  · obtain ⟨e1, e2, e3, e4, e5, e6, e7, e8, e9, e10⟩ := R.ep
    rw [lr_in _ hf2] at e5 e6
    have hp1 : pl (sHap (upd S (276 + 12 * f + 6) (nI 2)) 1 (pl S 2 L).length f) 1 (L ++ [f]) = pl S 1 L := by
      rw [pl_snoc (S := S) (fun a ha => hS6 a (R.hL2 a ha) (fun u => hfL (u ▸ ha))), hS6f]
      rw [if_neg (by decide), List.append_nil]
    have hp2 : pl (sHap (upd S (276 + 12 * f + 6) (nI 2)) 1 (pl S 2 L).length f) 2 (L ++ [f]) = pl S 2 L ++ [f] := by
      rw [pl_snoc (S := S) (fun a ha => hS6 a (R.hL2 a ha) (fun u => hfL (u ▸ ha))), hS6f]
      rw [if_pos rfl]
    have hp3 : pl (sHap (upd S (276 + 12 * f + 6) (nI 2)) 1 (pl S 2 L).length f) 3 (L ++ [f]) = pl S 3 L := by
      rw [pl_snoc (S := S) (fun a ha => hS6 a (R.hL2 a ha) (fun u => hfL (u ▸ ha))), hS6f]
      rw [if_neg (by decide), List.append_nil]
    have hml : ml (sHap (upd S (276 + 12 * f + 6) (nI 2)) 1 (pl S 2 L).length f) (lr 200 (L ++ [f])) = ml S (L ++ [f]) := by
      rw [lr_200 _ (Nat.le_refl _)]
      refine List.filter_congr fun a ha => ?_
      rw [hS a 5 (by rcases List.mem_append.mp ha with u | u; exact R.hL2 a u; rw [List.mem_singleton.mp u]; exact hf) (by omega) (by omega)]
    have p1 : ∀ c', (pl S c' L).length ≤ L.length := fun c' => List.length_filter_le _ _
    have p2 : (ml S (L ++ [f])).length ≤ (L ++ [f]).length := List.length_filter_le _ _
    rw [List.length_append] at p2
    have p3 : (ml S (L ++ [f])).length ≤ L.length + 1 := p2
    have r1 := p1 1
    have r2 := p1 2
    have r3 := p1 3
    unfold kEP
    rw [hp1, hp2, hp3, hml]
    refine ⟨?_, ?_, ?_, ?_, ?_, ?_, ?_, ?_, ?_, e10⟩
    · simp (disch := omega) only [hp_s, hp_o', hp_k, sHap_n, upd_n, upd_s, e1]
    · exact e2.cong fun i hi => by simp (disch := omega) only [hp_s, hp_o', hp_k, sHap_n, upd_n, upd_s]
    · rw [List.length_append]
      exact sHap_c (k := 1) _
    · exact AL.snoc (e4.cong fun i hi => by simp (disch := omega) only [hp_s, hp_o', hp_k, sHap_n, upd_n, upd_s]) (sHap_p _ (by omega))
    · simp (disch := omega) only [hp_s, hp_o', hp_k, sHap_n, upd_n, upd_s, e5]
    · exact e6.cong fun i hi => by simp (disch := omega) only [hp_s, hp_o', hp_k, sHap_n, upd_n, upd_s]
    · simp (disch := omega) only [hp_s, hp_o', hp_k, sHap_n, upd_n, upd_s, e7]
    · exact e8.cong fun i hi => by simp (disch := omega) only [hp_s, hp_o', hp_k, sHap_n, upd_n, upd_s]
    · exact e9
  · obtain ⟨e1, e2⟩ := R.eh
    refine ⟨fun k hk => ?_, fun g hg hn => ?_⟩
    · obtain ⟨s, h1, h2, h3⟩ := e1 k hk
      have hs4 := R.sn4
      refine ⟨s, by rw [List.length_append]; omega, ?_, fun i g hi ho => ?_⟩
      · simp (disch := omega) only [hp_s, hp_o', hp_k, sHap_n, upd_n, upd_s, h2]
      · by_cases hil : i < L.length
        · rw [List.getElem?_append_left hil] at hi
          have hg := R.hL2 g (List.mem_of_getElem? hi)
          rw [hS g 10 hg (by omega) (by omega)] at ho
          rw [hS g 11 hg (by omega) (by omega)]
          exact h3 i g hi ho
        · rw [List.getElem?_append_right (by omega)] at hi
          have hgf : g = f := by
            have := List.mem_of_getElem? hi
            exact List.mem_singleton.mp this
          subst hgf
          rw [hS g 11 hf (by omega) (by omega), e2 g hf hfL, if_neg (by omega)]
    · rw [hS g 11 hg (by omega) (by omega)]
      exact e2 g hg (fun u => hn (List.mem_append_left _ u))
  · exact R.wi.cong (fun j i _ _ => (by first | rfl | (simp (disch := omega) only [hp_s, hp_o', hp_k, sHap_n, upd_n, upd_s]; done))) (fun k _ => (by first | rfl | (simp (disch := omega) only [hp_s, hp_o', hp_k, sHap_n, upd_n, upd_s]; done)))
  · obtain ⟨e1, e2, e3, e4⟩ := R.ta
    have q := R.ep
    refine ⟨?_, ?_, ?_, ?_⟩
    · simp (disch := omega) only [hp_s, hp_o', hp_k, sHap_n, upd_n, upd_s, ← e1]
    · rw [sHap_c (k := 1), hp_s, tally_up, ← e2, q.2.2.1, nI_1]
    · simp (disch := omega) only [hp_s, hp_o', hp_k, sHap_n, upd_n, upd_s, ← e3]
    · simp (disch := omega) only [hp_s, hp_o', hp_k, sHap_n, upd_n, upd_s, ← e4]
  · exact R.pk.cong (by first | rfl | (simp (disch := omega) only [hp_s, hp_o', hp_k, sHap_n, upd_n, upd_s]; done)) (by first | rfl | (simp (disch := omega) only [hp_s, hp_o', hp_k, sHap_n, upd_n, upd_s]; done))
  · exact R.kbg.cong (fun b' _ => (by first | rfl | (simp (disch := omega) only [hp_s, hp_o', hp_k, sHap_n, upd_n, upd_s]; done))) (fun f c _ _ => (by first | rfl | (simp (disch := omega) only [hp_s, hp_o', hp_k, sHap_n, upd_n, upd_s]; done))) (fun b' _ => (by first | rfl | (simp (disch := omega) only [hp_s, hp_o', hp_k, sHap_n, upd_n, upd_s]; done)))
  · exact R.px.snoc R.hL2 (fun a ha hm => hS6 a ha (fun u => hfL (u ▸ hm)))
  · exact R.lt.cong (by first | rfl | (simp (disch := omega) only [hp_s, hp_o', hp_k, sHap_n, upd_n, upd_s]; done)) (by first | rfl | (simp (disch := omega) only [hp_s, hp_o', hp_k, sHap_n, upd_n, upd_s]; done))
theorem Rel.fin3 {f : Nat} (R : Rel bg rl tb m y sn Bd n N f nw ol L h w S) (hf2 : f < 200) (hmk : S (276 + 12 * f + 5) = 0) : Rel bg rl tb m y sn Bd n N 200 nw ol (L ++ [f]) (hp (hp (hp (hp (hp h (w + 2 + 9) f (nI 3)) (w + 2 + 10) f (nI N)) (w + 2 + 12) L.length (nI f)) (w + 2) 14 (nI (L.length + 1))) (w + 2 + 13) 3 (h (w + 2 + 13) 3 + 1)) w (sHap (upd S (276 + 12 * f + 6) (nI 3)) 3 (pl S 3 L).length f) := by
  obtain ⟨hf, hb0, hwf⟩ := R.el.2.2.2.2.2.2.1 hf2
  have hnn := R.n200
  have hx0 : ¬ nI 3 = 0 := by decide
  have hfL : f ∉ L := fun u => ((R.el.2.2.2.2.2.1 f).mp u).2.1 rfl
  have hLn := R.el.lr200 hnn
  rw [lr_in _ hf2, List.length_append] at hLn
  have hLn2 : L.length + 1 ≤ n := hLn
  have hpl : (pl S 3 L).length ≤ L.length := List.length_filter_le _ _
  have hS6 : ∀ g, g < n → g ≠ f → (sHap (upd S (276 + 12 * f + 6) (nI 3)) 3 (pl S 3 L).length f) (276 + 12 * g + 6) = S (276 + 12 * g + 6) := fun g hg hn => by simp (disch := omega) only [hp_s, hp_o', hp_k, sHap_n, upd_n, upd_s]
  have hS6f : (sHap (upd S (276 + 12 * f + 6) (nI 3)) 3 (pl S 3 L).length f) (276 + 12 * f + 6) = nI 3 := by simp (disch := omega) only [hp_s, hp_o', hp_k, sHap_n, upd_n, upd_s]
  have hS : ∀ g j, g < n → j ≠ 6 → j < 12 → (sHap (upd S (276 + 12 * f + 6) (nI 3)) 3 (pl S 3 L).length f) (276 + 12 * g + j) = S (276 + 12 * g + j) := fun g j hg hn hj => by simp (disch := omega) only [hp_s, hp_o', hp_k, sHap_n, upd_n, upd_s]
  have hsb : ∀ b' g, g < n → sb (sHap (upd S (276 + 12 * f + 6) (nI 3)) 3 (pl S 3 L).length f) b' g = sb S b' g := fun b' g hg => by
    by_cases e : g = f
    · subst e
      rw [sb_f.mpr (fun u => hb0 u.2), sb_f.mpr (fun u => hx0 (by rw [← hS6f]; exact u.2))]
    · exact sb_cong (hS g 4 hg (by omega) (by omega)) (hS6 g hg e)
  have hn200 := R.n200
  have hmy := R.my
  refine ⟨?_, ?_, ?_, ?_, ?_, ?_, ?_, ?_, ?_, ?_, ?_, ?_, ?_, ?_, ?_, ?_, ?_, ?_, ?_, ?_, ?_⟩
  · exact R.sc.cong (fun j _ _ => (by first | rfl | (simp (disch := omega) only [hp_s, hp_o', hp_k, sHap_n, upd_n, upd_s]; done))) (by first | rfl | (simp (disch := omega) only [hp_s, hp_o', hp_k, sHap_n, upd_n, upd_s]; done)) (fun j _ _ _ => (by first | rfl | (simp (disch := omega) only [hp_s, hp_o', hp_k, sHap_n, upd_n, upd_s]; done))) (fun k _ _ _ _ => (by first | rfl | (simp (disch := omega) only [hp_s, hp_o', hp_k, sHap_n, upd_n, upd_s]; done)))
  · exact R.bk.cong (fun b' j _ _ => (by first | rfl | (simp (disch := omega) only [hp_s, hp_o', hp_k, sHap_n, upd_n, upd_s]; done))) (fun b' c _ _ => (by first | rfl | (simp (disch := omega) only [hp_s, hp_o', hp_k, sHap_n, upd_n, upd_s]; done)))
  · intro g hg
    obtain ⟨e1, e2, e3, e4, e5, e6, e7, e8, e9⟩ := R.fr g hg
    refine ⟨?_, ?_, ?_, ?_, ?_, ?_, ?_, ?_, fun ht => ?_⟩
    · simp (disch := omega) only [hp_s, hp_o', hp_k, sHap_n, upd_n, upd_s, e1]
    · simp (disch := omega) only [hp_s, hp_o', hp_k, sHap_n, upd_n, upd_s, e2]
    · simp (disch := omega) only [hp_s, hp_o', hp_k, sHap_n, upd_n, upd_s, e3]
    · simp (disch := omega) only [hp_s, hp_o', hp_k, sHap_n, upd_n, upd_s, e4]
    · simp (disch := omega) only [hp_s, hp_o', hp_k, sHap_n, upd_n, upd_s, e5]
    · simp (disch := omega) only [hp_s, hp_o', hp_k, sHap_n, upd_n, upd_s, e6]
    · simp (disch := omega) only [hp_s, hp_o', hp_k, sHap_n, upd_n, upd_s, e7]
    · simp (disch := omega) only [hp_s, hp_o', hp_k, sHap_n, upd_n, upd_s, e8]
    · by_cases e : g = f
      · subst e
        refine ⟨?_, ?_⟩
        · rw [hS6f]
          simp (disch := omega) only [hp_s, hp_o', hp_k, sHap_n, upd_n, upd_s]
        · rw [hS g 7 hg (by omega) (by omega), hwf]
          simp (disch := omega) only [hp_s, hp_o', hp_k, sHap_n, upd_n, upd_s]
      · obtain ⟨e10, e11⟩ := e9 e
        exact ⟨by simp (disch := omega) only [hp_s, hp_o', hp_k, sHap_n, upd_n, upd_s, e10], by simp (disch := omega) only [hp_s, hp_o', hp_k, sHap_n, upd_n, upd_s, e11]⟩
  · exact R.ksn.cong (fun k j _ _ => (by first | rfl | (simp (disch := omega) only [hp_s, hp_o', hp_k, sHap_n, upd_n, upd_s]; done))) (fun k _ _ => (by first | rfl | (simp (disch := omega) only [hp_s, hp_o', hp_k, sHap_n, upd_n, upd_s]; done))) R.sn4
  · exact R.is.cong (fun k _ _ _ _ _ _ => (by first | rfl | (simp (disch := omega) only [hp_s, hp_o', hp_k, sHap_n, upd_n, upd_s]; done)))
  · exact R.br.cong (fun b' c _ _ => (by first | rfl | (simp (disch := omega) only [hp_s, hp_o', hp_k, sHap_n, upd_n, upd_s]; done)))
  · refine ⟨fun g hg => ?_, fun g h1 h2 => ?_⟩
    · obtain ⟨z1, z2, z3, z4, z5, z6, z7, z8, z9, z10, z11, z12⟩ := R.fi.1 g hg
      rw [hS g 0 hg (by omega) (by omega), hS g 1 hg (by omega) (by omega), hS g 2 hg (by omega) (by omega), hS g 3 hg (by omega) (by omega), hS g 4 hg (by omega) (by omega), hS g 5 hg (by omega) (by omega), hS g 7 hg (by omega) (by omega), hS g 9 hg (by omega) (by omega), hS g 10 hg (by omega) (by omega)]
      by_cases e : g = f
      · subst e
        rw [hS6f]
        exact ⟨z1, z2, z3, z4, z5, z6, ⟨3, by omega, by omega, rfl⟩, fun _ => z8 hb0, fun u => absurd (hmk.symm.trans u) (by decide), z10, z11, fun u => absurd u hx0⟩
      · rw [hS6 g hg e]
        exact ⟨z1, z2, z3, z4, z5, z6, z7, z8, z9, z10, z11, z12⟩
    · have := R.fi.2 g h1 h2
      simp (disch := omega) only [hp_s, hp_o', hp_k, sHap_n, upd_n, upd_s]
      exact this
  · exact R.si.cong (fun k c _ _ => (by first | rfl | (simp (disch := omega) only [hp_s, hp_o', hp_k, sHap_n, upd_n, upd_s]; done))) R.sn4
  · exact R.li.cong (fun k _ _ _ => (by first | rfl | (simp (disch := omega) only [hp_s, hp_o', hp_k, sHap_n, upd_n, upd_s]; done))) (fun b' _ => (by first | rfl | (simp (disch := omega) only [hp_s, hp_o', hp_k, sHap_n, upd_n, upd_s]; done))) R.my
  · exact R.lc.cong (fun j => (by first | rfl | (simp (disch := omega) only [hp_s, hp_o', hp_k, sHap_n, upd_n, upd_s]; done))) (fun j => (by first | rfl | (simp (disch := omega) only [hp_s, hp_o', hp_k, sHap_n, upd_n, upd_s]; done)))
  · intro b' hb'
    obtain ⟨e1, e2, e3, e4⟩ := R.cb b' hb'
    refine ⟨?_, ?_, ?_, ?_⟩
    · simp (disch := omega) only [hp_s, hp_o', hp_k, sHap_n, upd_n, upd_s]
      exact e1.cong (hsb b')
    · simp (disch := omega) only [hp_s, hp_o', hp_k, sHap_n, upd_n, upd_s]
      exact e2.cong (hsb b')
    · simp (disch := omega) only [hp_s, hp_o', hp_k, sHap_n, upd_n, upd_s, e3]
      rw [fa_cnt_cong (hsb b')]
    · have hq : bsum (sHap (upd S (276 + 12 * f + 6) (nI 3)) 3 (pl S 3 L).length f) b' n = bsum S b' n := sm_cong fun k hk => by
        show (if sb _ b' k then _ else 0) = (if sb S b' k then _ else 0)
        rw [hsb b' k hk, hS k 1 hk (by omega) (by omega)]
      rw [hq]
      simp (disch := omega) only [hp_s, hp_o', hp_k, sHap_n, upd_n, upd_s, e4]
  · refine ⟨fun b' g hb' hg hs' => ?_, ?_, ?_⟩
    · rw [hsb b' g hg] at hs'
      simp (disch := omega) only [hp_s, hp_o', hp_k, sHap_n, upd_n, upd_s]
      exact (R.cf.1 b' g hb' hg hs').cong (hsb b')
    · have hq : fa_cnt (sd (sHap (upd S (276 + 12 * f + 6) (nI 3)) 3 (pl S 3 L).length f)) n = fa_cnt (sd S) n := fa_cnt_cong fun k hk => by
        unfold sd
        by_cases e : k = f
        · subst e
          rw [hS6f]
          exact decide_eq_decide.mpr ⟨fun u => absurd u hx0, fun u => absurd u hb0⟩
        · rw [hS6 k hk e]
      rw [hq]
      simp (disch := omega) only [hp_s, hp_o', hp_k, sHap_n, upd_n, upd_s, R.cf.2.1]
    · have hq : isum (fun b => (sHap (upd S (276 + 12 * f + 6) (nI 3)) 3 (pl S 3 L).length f) (68 + 13 * b + 12)) 16 = isum (fun b => S (68 + 13 * b + 12)) 16 := isum_cong fun k hk => by simp (disch := omega) only [hp_s, hp_o', hp_k, sHap_n, upd_n, upd_s]
      rw [hq]
      simp (disch := omega) only [hp_s, hp_o', hp_k, sHap_n, upd_n, upd_s, R.cf.2.2]
  · obtain ⟨e1, e2, e3, e4, e5, e6, e7, e8⟩ := R.el
    rw [lr_in _ hf2] at e3 e4
    refine ⟨?_, ?_, ?_, ?_, ?_, fun g => ?_, fun u => absurd u (by omega), ?_⟩
    · simp (disch := omega) only [hp_s, hp_o', hp_k, sHap_n, upd_n, upd_s, List.length_append, List.length_cons, List.length_nil]
    · refine AL.snoc (e2.cong fun i hi => ?_) ?_
      · simp (disch := omega) only [hp_s, hp_o', hp_k, sHap_n, upd_n, upd_s]
      · simp (disch := omega) only [hp_s, hp_o', hp_k, sHap_n, upd_n, upd_s, Nat.zero_add]
    · rw [lr_200 _ (Nat.le_refl _)]
      simp (disch := omega) only [hp_s, hp_o', hp_k, sHap_n, upd_n, upd_s, e3]
    · rw [lr_200 _ (Nat.le_refl _)]
      refine e4.cong fun i hi => ?_
      rw [List.length_append] at hi
      have hi2 : i < L.length + 1 := hi
      simp (disch := omega) only [hp_s, hp_o', hp_k, sHap_n, upd_n, upd_s]
    · exact List.nodup_append.mpr ⟨e5, by simp, fun a ha z hz => by rw [List.mem_singleton] at hz; subst hz; exact fun q => hfL (q ▸ ha)⟩
    · rw [List.mem_append, List.mem_singleton, e6 g]
      constructor
      · rintro (⟨x1, x2, x3⟩ | x1)
        · exact ⟨x1, by omega, by rw [hS6 g x1 x2]; exact x3⟩
        · subst x1
          exact ⟨hf, by omega, by rw [hS6f]; exact hx0⟩
      · rintro ⟨x1, x2, x3⟩
        by_cases e : g = f
        · exact Or.inr e
        · exact Or.inl ⟨x1, e, by rw [hS6 g x1 e] at x3; exact x3⟩
    · have hwn : ∀ a, a < n → wn (sHap (upd S (276 + 12 * f + 6) (nI 3)) 3 (pl S 3 L).length f) a = wn S a := fun a ha => by
        unfold wn
        rw [hS a 7 ha (by omega) (by omega)]
      refine List.pairwise_append.mpr ⟨e8.imp_of_mem fun {a a'} ha ha' hab => by rw [hwn a (R.hL2 a ha), hwn a' (R.hL2 a' ha')]; exact hab, by simp, fun a ha z hz => ?_⟩
      rw [List.mem_singleton] at hz
      subst hz
      rw [hwn a (R.hL2 a ha), hwn z hf]
      obtain ⟨c0, v0, k1, k2, k3, k4⟩ := (R.fi.1 a (R.hL2 a ha)).2.2.2.2.2.2.2.1 (((e6 a).mp ha).2.2)
      have hN := R.N5
      unfold wn
      rw [k2, hwf, nI_clamp (by omega), nI_clamp (by omega)]
      exact k4
  · obtain ⟨e1, e2, e3, e4, e5, e6, e7, e8, e9, e10⟩ := R.ep
    rw [lr_in _ hf2] at e5 e6
    have hp1 : pl (sHap (upd S (276 + 12 * f + 6) (nI 3)) 3 (pl S 3 L).length f) 1 (L ++ [f]) = pl S 1 L := by
      rw [pl_snoc (S := S) (fun a ha => hS6 a (R.hL2 a ha) (fun u => hfL (u ▸ ha))), hS6f]
      rw [if_neg (by decide), List.append_nil]
    have hp2 : pl (sHap (upd S (276 + 12 * f + 6) (nI 3)) 3 (pl S 3 L).length f) 2 (L ++ [f]) = pl S 2 L := by
      rw [pl_snoc (S := S) (fun a ha => hS6 a (R.hL2 a ha) (fun u => hfL (u ▸ ha))), hS6f]
      rw [if_neg (by decide), List.append_nil]
    have hp3 : pl (sHap (upd S (276 + 12 * f + 6) (nI 3)) 3 (pl S 3 L).length f) 3 (L ++ [f]) = pl S 3 L ++ [f] := by
      rw [pl_snoc (S := S) (fun a ha => hS6 a (R.hL2 a ha) (fun u => hfL (u ▸ ha))), hS6f]
      rw [if_pos rfl]
    have hml : ml (sHap (upd S (276 + 12 * f + 6) (nI 3)) 3 (pl S 3 L).length f) (lr 200 (L ++ [f])) = ml S (L ++ [f]) := by
      rw [lr_200 _ (Nat.le_refl _)]
      refine List.filter_congr fun a ha => ?_
      rw [hS a 5 (by rcases List.mem_append.mp ha with u | u; exact R.hL2 a u; rw [List.mem_singleton.mp u]; exact hf) (by omega) (by omega)]
    have p1 : ∀ c', (pl S c' L).length ≤ L.length := fun c' => List.length_filter_le _ _
    have p2 : (ml S (L ++ [f])).length ≤ (L ++ [f]).length := List.length_filter_le _ _
    rw [List.length_append] at p2
    have p3 : (ml S (L ++ [f])).length ≤ L.length + 1 := p2
    have r1 := p1 1
    have r2 := p1 2
    have r3 := p1 3
    unfold kEP
    rw [hp1, hp2, hp3, hml]
    refine ⟨?_, ?_, ?_, ?_, ?_, ?_, ?_, ?_, ?_, e10⟩
    · simp (disch := omega) only [hp_s, hp_o', hp_k, sHap_n, upd_n, upd_s, e1]
    · exact e2.cong fun i hi => by simp (disch := omega) only [hp_s, hp_o', hp_k, sHap_n, upd_n, upd_s]
    · simp (disch := omega) only [hp_s, hp_o', hp_k, sHap_n, upd_n, upd_s, e3]
    · exact e4.cong fun i hi => by simp (disch := omega) only [hp_s, hp_o', hp_k, sHap_n, upd_n, upd_s]
    · simp (disch := omega) only [hp_s, hp_o', hp_k, sHap_n, upd_n, upd_s, e5]
    · exact e6.cong fun i hi => by simp (disch := omega) only [hp_s, hp_o', hp_k, sHap_n, upd_n, upd_s]
    · rw [List.length_append]
      exact sHap_c (k := 3) _
    · exact AL.snoc (e8.cong fun i hi => by simp (disch := omega) only [hp_s, hp_o', hp_k, sHap_n, upd_n, upd_s]) (sHap_p _ (by omega))
    · exact e9
  · obtain ⟨e1, e2⟩ := R.eh
    refine ⟨fun k hk => ?_, fun g hg hn => ?_⟩
    · obtain ⟨s, h1, h2, h3⟩ := e1 k hk
      have hs4 := R.sn4
      refine ⟨s, by rw [List.length_append]; omega, ?_, fun i g hi ho => ?_⟩
      · simp (disch := omega) only [hp_s, hp_o', hp_k, sHap_n, upd_n, upd_s, h2]
      · by_cases hil : i < L.length
        · rw [List.getElem?_append_left hil] at hi
          have hg := R.hL2 g (List.mem_of_getElem? hi)
          rw [hS g 10 hg (by omega) (by omega)] at ho
          rw [hS g 11 hg (by omega) (by omega)]
          exact h3 i g hi ho
        · rw [List.getElem?_append_right (by omega)] at hi
          have hgf : g = f := by
            have := List.mem_of_getElem? hi
            exact List.mem_singleton.mp this
          subst hgf
          rw [hS g 11 hf (by omega) (by omega), e2 g hf hfL, if_neg (by omega)]
    · rw [hS g 11 hg (by omega) (by omega)]
      exact e2 g hg (fun u => hn (List.mem_append_left _ u))
  · exact R.wi.cong (fun j i _ _ => (by first | rfl | (simp (disch := omega) only [hp_s, hp_o', hp_k, sHap_n, upd_n, upd_s]; done))) (fun k _ => (by first | rfl | (simp (disch := omega) only [hp_s, hp_o', hp_k, sHap_n, upd_n, upd_s]; done)))
  · obtain ⟨e1, e2, e3, e4⟩ := R.ta
    have q := R.ep
    refine ⟨?_, ?_, ?_, ?_⟩
    · simp (disch := omega) only [hp_s, hp_o', hp_k, sHap_n, upd_n, upd_s, ← e1]
    · simp (disch := omega) only [hp_s, hp_o', hp_k, sHap_n, upd_n, upd_s, ← e2]
    · simp (disch := omega) only [hp_s, hp_o', hp_k, sHap_n, upd_n, upd_s, ← e3]
    · rw [sHap_c (k := 3), hp_s, tally_up, ← e4, q.2.2.2.2.2.2.1, nI_1]
  · exact R.pk.cong (by first | rfl | (simp (disch := omega) only [hp_s, hp_o', hp_k, sHap_n, upd_n, upd_s]; done)) (by first | rfl | (simp (disch := omega) only [hp_s, hp_o', hp_k, sHap_n, upd_n, upd_s]; done))
  · exact R.kbg.cong (fun b' _ => (by first | rfl | (simp (disch := omega) only [hp_s, hp_o', hp_k, sHap_n, upd_n, upd_s]; done))) (fun f c _ _ => (by first | rfl | (simp (disch := omega) only [hp_s, hp_o', hp_k, sHap_n, upd_n, upd_s]; done))) (fun b' _ => (by first | rfl | (simp (disch := omega) only [hp_s, hp_o', hp_k, sHap_n, upd_n, upd_s]; done)))
  · exact R.px.snoc R.hL2 (fun a ha hm => hS6 a ha (fun u => hfL (u ▸ hm)))
  · exact R.lt.cong (by first | rfl | (simp (disch := omega) only [hp_s, hp_o', hp_k, sHap_n, upd_n, upd_s]; done)) (by first | rfl | (simp (disch := omega) only [hp_s, hp_o', hp_k, sHap_n, upd_n, upd_s]; done))
theorem Rel.mrk {f : Nat} (R : Rel bg rl tb m y sn Bd n N f nw ol L h w S) (hf2 : f < 200) (h0 : S (276 + 12 * f + 5) = 0) (h6 : S (276 + 12 * f + 6) = 1) : Rel bg rl tb m y sn Bd n N f nw ol L (hp (hp h (w + 2 + 8) f 1) (w + 2 + 13) 4 (h (w + 2 + 13) 4 + 1)) w (sHap (upd S (276 + 12 * f + 5) 1) 2 (ml S (lr f L)).length f) := by
  obtain ⟨hf, hb0, hwf⟩ := R.el.2.2.2.2.2.2.1 hf2
  have hnn := R.n200
  have hfL : f ∉ L := fun u => ((R.el.2.2.2.2.2.1 f).mp u).2.1 rfl
  have hLn := R.el.lr200 hnn
  have hml0 : ml S (lr f L) = ml S L := by
    rw [lr_in _ hf2]
    unfold ml
    rw [List.filter_append, List.filter_cons_of_neg (by rw [h0]; decide)]
    simp
  have hml1 : (ml S (lr f L)).length ≤ L.length := by
    rw [hml0]
    exact List.length_filter_le _ _
  have hll : L.length + 1 = (lr f L).length := by
    rw [lr_in _ hf2, List.length_append]
    rfl
  have hS5f : (sHap (upd S (276 + 12 * f + 5) 1) 2 (ml S (lr f L)).length f) (276 + 12 * f + 5) = 1 := by simp (disch := omega) only [hp_s, hp_o', hp_k, sHap_n, upd_n, upd_s]
  have hS5 : ∀ g, g < n → g ≠ f → (sHap (upd S (276 + 12 * f + 5) 1) 2 (ml S (lr f L)).length f) (276 + 12 * g + 5) = S (276 + 12 * g + 5) := fun g hg hn => by simp (disch := omega) only [hp_s, hp_o', hp_k, sHap_n, upd_n, upd_s]
  have hS : ∀ g j, g < n → j ≠ 5 → j < 12 → (sHap (upd S (276 + 12 * f + 5) 1) 2 (ml S (lr f L)).length f) (276 + 12 * g + j) = S (276 + 12 * g + j) := fun g j hg hn hj => by simp (disch := omega) only [hp_s, hp_o', hp_k, sHap_n, upd_n, upd_s]
  have hn200 := R.n200
  have hmy := R.my
  refine ⟨?_, ?_, ?_, ?_, ?_, ?_, ?_, ?_, ?_, ?_, ?_, ?_, ?_, ?_, ?_, ?_, ?_, ?_, ?_, ?_, ?_⟩
  · exact R.sc.cong (fun j _ _ => (by first | rfl | (simp (disch := omega) only [hp_s, hp_o', hp_k, sHap_n, upd_n, upd_s]; done))) (by first | rfl | (simp (disch := omega) only [hp_s, hp_o', hp_k, sHap_n, upd_n, upd_s]; done)) (fun j _ _ _ => (by first | rfl | (simp (disch := omega) only [hp_s, hp_o', hp_k, sHap_n, upd_n, upd_s]; done))) (fun k _ _ _ _ => (by first | rfl | (simp (disch := omega) only [hp_s, hp_o', hp_k, sHap_n, upd_n, upd_s]; done)))
  · exact R.bk.cong (fun b' j _ _ => (by first | rfl | (simp (disch := omega) only [hp_s, hp_o', hp_k, sHap_n, upd_n, upd_s]; done))) (fun b' c _ _ => (by first | rfl | (simp (disch := omega) only [hp_s, hp_o', hp_k, sHap_n, upd_n, upd_s]; done)))
  · intro g hg
    obtain ⟨e1, e2, e3, e4, e5, e6, e7, e8, e9⟩ := R.fr g hg
    by_cases e : g = f
    · subst e
      refine ⟨?_, ?_, ?_, ?_, ?_, ?_, ?_, ?_, fun ht => absurd rfl ht⟩
      · simp (disch := omega) only [hp_s, hp_o', hp_k, sHap_n, upd_n, upd_s, e1]
      · simp (disch := omega) only [hp_s, hp_o', hp_k, sHap_n, upd_n, upd_s, e2]
      · simp (disch := omega) only [hp_s, hp_o', hp_k, sHap_n, upd_n, upd_s, e3]
      · simp (disch := omega) only [hp_s, hp_o', hp_k, sHap_n, upd_n, upd_s, e4]
      · simp (disch := omega) only [hp_s, hp_o', hp_k, sHap_n, upd_n, upd_s, e5]
      · simp (disch := omega) only [hp_s, hp_o', hp_k, sHap_n, upd_n, upd_s, e6]
      · simp (disch := omega) only [hp_s, hp_o', hp_k, sHap_n, upd_n, upd_s, e7]
      · simp (disch := omega) only [hp_s, hp_o', hp_k, sHap_n, upd_n, upd_s, e8]
    · refine ⟨?_, ?_, ?_, ?_, ?_, ?_, ?_, ?_, fun ht => ?_⟩
      · simp (disch := omega) only [hp_s, hp_o', hp_k, sHap_n, upd_n, upd_s, e1]
      · simp (disch := omega) only [hp_s, hp_o', hp_k, sHap_n, upd_n, upd_s, e2]
      · simp (disch := omega) only [hp_s, hp_o', hp_k, sHap_n, upd_n, upd_s, e3]
      · simp (disch := omega) only [hp_s, hp_o', hp_k, sHap_n, upd_n, upd_s, e4]
      · simp (disch := omega) only [hp_s, hp_o', hp_k, sHap_n, upd_n, upd_s, e5]
      · simp (disch := omega) only [hp_s, hp_o', hp_k, sHap_n, upd_n, upd_s, e6]
      · simp (disch := omega) only [hp_s, hp_o', hp_k, sHap_n, upd_n, upd_s, e7]
      · simp (disch := omega) only [hp_s, hp_o', hp_k, sHap_n, upd_n, upd_s, e8]
      · obtain ⟨e10, e11⟩ := e9 ht
        exact ⟨by simp (disch := omega) only [hp_s, hp_o', hp_k, sHap_n, upd_n, upd_s, e10], by simp (disch := omega) only [hp_s, hp_o', hp_k, sHap_n, upd_n, upd_s, e11]⟩
  · exact R.ksn.cong (fun k j _ _ => (by first | rfl | (simp (disch := omega) only [hp_s, hp_o', hp_k, sHap_n, upd_n, upd_s]; done))) (fun k _ _ => (by first | rfl | (simp (disch := omega) only [hp_s, hp_o', hp_k, sHap_n, upd_n, upd_s]; done))) R.sn4
  · exact R.is.cong (fun k _ _ _ _ _ _ => (by first | rfl | (simp (disch := omega) only [hp_s, hp_o', hp_k, sHap_n, upd_n, upd_s]; done)))
  · exact R.br.cong (fun b' c _ _ => (by first | rfl | (simp (disch := omega) only [hp_s, hp_o', hp_k, sHap_n, upd_n, upd_s]; done)))
  · refine ⟨fun g hg => ?_, fun g h1 h2 => ?_⟩
    · obtain ⟨z1, z2, z3, z4, z5, z6, z7, z8, z9, z10, z11, z12⟩ := R.fi.1 g hg
      rw [hS g 0 hg (by omega) (by omega), hS g 1 hg (by omega) (by omega), hS g 2 hg (by omega) (by omega), hS g 3 hg (by omega) (by omega), hS g 4 hg (by omega) (by omega), hS g 6 hg (by omega) (by omega), hS g 7 hg (by omega) (by omega), hS g 9 hg (by omega) (by omega), hS g 10 hg (by omega) (by omega)]
      by_cases e : g = f
      · subst e
        rw [hS5f]
        exact ⟨z1, z2, z3, z4, z5, rg_1 (by omega), z7, z8, fun _ => h6, z10, z11, z12⟩
      · rw [hS5 g hg e]
        exact ⟨z1, z2, z3, z4, z5, z6, z7, z8, z9, z10, z11, z12⟩
    · have := R.fi.2 g h1 h2
      simp (disch := omega) only [hp_s, hp_o', hp_k, sHap_n, upd_n, upd_s]
      exact this
  · exact R.si.cong (fun k c _ _ => (by first | rfl | (simp (disch := omega) only [hp_s, hp_o', hp_k, sHap_n, upd_n, upd_s]; done))) R.sn4
  · exact R.li.cong (fun k _ _ _ => (by first | rfl | (simp (disch := omega) only [hp_s, hp_o', hp_k, sHap_n, upd_n, upd_s]; done))) (fun b' _ => (by first | rfl | (simp (disch := omega) only [hp_s, hp_o', hp_k, sHap_n, upd_n, upd_s]; done))) R.my
  · exact R.lc.cong (fun j => (by first | rfl | (simp (disch := omega) only [hp_s, hp_o', hp_k, sHap_n, upd_n, upd_s]; done))) (fun j => (by first | rfl | (simp (disch := omega) only [hp_s, hp_o', hp_k, sHap_n, upd_n, upd_s]; done)))
  · exact R.cb.cong (fun b' j _ _ => (by first | rfl | (simp (disch := omega) only [hp_s, hp_o', hp_k, sHap_n, upd_n, upd_s]; done))) (fun f c _ _ => (by first | rfl | (simp (disch := omega) only [hp_s, hp_o', hp_k, sHap_n, upd_n, upd_s]; done))) (fun b' _ => (by first | rfl | (simp (disch := omega) only [hp_s, hp_o', hp_k, sHap_n, upd_n, upd_s]; done)))
  · exact R.cf.cong (fun f _ => (by first | rfl | (simp (disch := omega) only [hp_s, hp_o', hp_k, sHap_n, upd_n, upd_s]; done))) (by first | rfl | (simp (disch := omega) only [hp_s, hp_o', hp_k, sHap_n, upd_n, upd_s]; done)) (fun f c _ _ => (by first | rfl | (simp (disch := omega) only [hp_s, hp_o', hp_k, sHap_n, upd_n, upd_s]; done))) (by first | rfl | (simp (disch := omega) only [hp_s, hp_o', hp_k, sHap_n, upd_n, upd_s]; done)) (fun b' _ => (by first | rfl | (simp (disch := omega) only [hp_s, hp_o', hp_k, sHap_n, upd_n, upd_s]; done)))
  · exact R.el.cong R.n200 (by first | rfl | (simp (disch := omega) only [hp_s, hp_o', hp_k, sHap_n, upd_n, upd_s]; done)) (fun i _ => (by first | rfl | (simp (disch := omega) only [hp_s, hp_o', hp_k, sHap_n, upd_n, upd_s]; done))) (fun k _ _ => (by first | rfl | (simp (disch := omega) only [hp_s, hp_o', hp_k, sHap_n, upd_n, upd_s]; done))) (fun f c _ _ => (by first | rfl | (simp (disch := omega) only [hp_s, hp_o', hp_k, sHap_n, upd_n, upd_s]; done)))
  · obtain ⟨e1, e2, e3, e4, e5, e6, e7, e8, e9, e10⟩ := R.ep
    have hp : ∀ c', pl (sHap (upd S (276 + 12 * f + 5) 1) 2 (ml S (lr f L)).length f) c' L = pl S c' L := fun c' => List.filter_congr fun a ha => by rw [hS a 6 (R.hL2 a ha) (by omega) (by omega)]
    have hml : ml (sHap (upd S (276 + 12 * f + 5) 1) 2 (ml S (lr f L)).length f) (lr f L) = ml S (lr f L) ++ [f] := by
      have h1 := ml_snoc (S := S) (S' := sHap (upd S (276 + 12 * f + 5) 1) 2 (ml S (lr f L)).length f) (L := L) (f := f) (fun a ha => hS5 a (R.hL2 a ha) (fun u => hfL (u ▸ ha)))
      rw [hS5f, if_pos rfl, ← hml0, ← lr_in _ hf2] at h1
      exact h1
    have p1 : ∀ c', (pl S c' L).length ≤ L.length := fun c' => List.length_filter_le _ _
    have r1 := p1 1
    have r2 := p1 2
    have r3 := p1 3
    unfold kEP
    rw [hp, hp, hp, hml]
    refine ⟨?_, ?_, ?_, ?_, ?_, ?_, ?_, ?_, e9, e10⟩
    · simp (disch := omega) only [hp_s, hp_o', hp_k, sHap_n, upd_n, upd_s, e1]
    · exact e2.cong fun i hi => by simp (disch := omega) only [hp_s, hp_o', hp_k, sHap_n, upd_n, upd_s]
    · simp (disch := omega) only [hp_s, hp_o', hp_k, sHap_n, upd_n, upd_s, e3]
    · exact e4.cong fun i hi => by simp (disch := omega) only [hp_s, hp_o', hp_k, sHap_n, upd_n, upd_s]
    · rw [List.length_append]
      exact sHap_c (k := 2) _
    · exact AL.snoc (e6.cong fun i hi => by simp (disch := omega) only [hp_s, hp_o', hp_k, sHap_n, upd_n, upd_s]) (sHap_p _ (by omega))
    · simp (disch := omega) only [hp_s, hp_o', hp_k, sHap_n, upd_n, upd_s, e7]
    · exact e8.cong fun i hi => by simp (disch := omega) only [hp_s, hp_o', hp_k, sHap_n, upd_n, upd_s]
  · exact R.eh.cong R.hL2 R.sn4 (fun k _ => (by first | rfl | (simp (disch := omega) only [hp_s, hp_o', hp_k, sHap_n, upd_n, upd_s]; done))) (fun f c _ _ => (by first | rfl | (simp (disch := omega) only [hp_s, hp_o', hp_k, sHap_n, upd_n, upd_s]; done)))
  · exact R.wi.cong (fun j i _ _ => (by first | rfl | (simp (disch := omega) only [hp_s, hp_o', hp_k, sHap_n, upd_n, upd_s]; done))) (fun k _ => (by first | rfl | (simp (disch := omega) only [hp_s, hp_o', hp_k, sHap_n, upd_n, upd_s]; done)))
  · obtain ⟨e1, e2, e3, e4⟩ := R.ta
    have q := R.ep
    refine ⟨?_, ?_, ?_, ?_⟩
    · simp (disch := omega) only [hp_s, hp_o', hp_k, sHap_n, upd_n, upd_s, ← e1]
    · simp (disch := omega) only [hp_s, hp_o', hp_k, sHap_n, upd_n, upd_s, ← e2]
    · rw [sHap_c (k := 2), hp_s, tally_up, ← e3, q.2.2.2.2.1, nI_1]
    · simp (disch := omega) only [hp_s, hp_o', hp_k, sHap_n, upd_n, upd_s, ← e4]
  · exact R.pk.cong (by first | rfl | (simp (disch := omega) only [hp_s, hp_o', hp_k, sHap_n, upd_n, upd_s]; done)) (by first | rfl | (simp (disch := omega) only [hp_s, hp_o', hp_k, sHap_n, upd_n, upd_s]; done))
  · exact R.kbg.cong (fun b' _ => (by first | rfl | (simp (disch := omega) only [hp_s, hp_o', hp_k, sHap_n, upd_n, upd_s]; done))) (fun f c _ _ => (by first | rfl | (simp (disch := omega) only [hp_s, hp_o', hp_k, sHap_n, upd_n, upd_s]; done))) (fun b' _ => (by first | rfl | (simp (disch := omega) only [hp_s, hp_o', hp_k, sHap_n, upd_n, upd_s]; done)))
  · exact R.px.cong R.hL2 (fun a ha _ => hS a 6 ha (by omega) (by omega))
  · exact R.lt.cong (by first | rfl | (simp (disch := omega) only [hp_s, hp_o', hp_k, sHap_n, upd_n, upd_s]; done)) (by first | rfl | (simp (disch := omega) only [hp_s, hp_o', hp_k, sHap_n, upd_n, upd_s]; done))
end En
