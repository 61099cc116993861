/-! sender, inBucket, eldest, past -/
section Qa
variable {Bd : Nat} {h : Hp}
theorem hasB_out {bg rl : Bool} {tb : Nat → Int32} {m y sn Bd n N tk w : Nat} {nw ol L : List Nat} {S : Nat → Int32} (R : Rel bg rl tb m y sn Bd n N tk nw ol L h w S) {x : Int32} (a : x < 0 ∨ nI (m * y) ≤ x) : p_X8_hasBucket h w x = some (0, h) := by
  unfold p_X8_hasBucket p_X8_bucketCount
  by_cases c : x < 0
  · rw [if_pos c]
  · rw [if_neg c, Option.bind_some]
    dsimp +instances only
    rw [if_pos (by rw [R.sets, R.ways, R.i10, R.i11, nI_mul]; exact a.resolve_left c)]
theorem isB_out (hm : Hp) {S : Nat → Int32} (t l : Int32) {m y : Nat} (e10 : S 10 = nI m) (e11 : S 11 = nI y) {x : Int32} (a : x < 0 ∨ nI (m * y) ≤ x) : p_X10_isBucket (mt hm S t l) 110 x = some (0, mt hm S t l) := by
  unfold p_X10_isBucket
  by_cases c : x < 0
  · rw [if_pos c]
  · rw [if_neg c, m_buckets, Option.bind_some]
    dsimp +instances only
    rw [if_pos (by rw [e10, e11, nI_mul]; exact a.resolve_left c)]
theorem isB_y (hm : Hp) {S : Nat → Int32} (t l : Int32) {m y b : Nat} (e10 : S 10 = nI m) (e11 : S 11 = nI y) (h1 : b < m * y) (h2 : m * y ≤ 16) : p_X10_isBucket (mt hm S t l) 110 (nI b) = some (1, mt hm S t l) := by
  unfold p_X10_isBucket
  rw [if_neg (nI_pos (by omega)), m_buckets, Option.bind_some]
  dsimp +instances only
  rw [if_neg (by rw [e10, e11, nI_mul]; exact nI_ge h1 (by omega))]
theorem sender_m (G : GR Bd h) (hB : Bd + 1000 ≤ 5000000) (x z : Int32) : Met2 (Bd + 1000) h (fun h => p_X9_sender h 0 x z) (fun h => p_X10_sender_ h 110 x z) := by
  have G0 := G
  obtain ⟨m, y, sn, n, N, nw, ol, L, R, hLS, g1, g2, g3, g4, g5, g6, g7⟩ := G
  have hs4 := R.sn4
  have e1 : hp h 110 0 0 (110 + 6) 3477 = nI sn := by
    rw [hp_o' _ _ (by omega)]
    exact R.isn
  have e2 : h (0 + 10) 6 = nI sn := by rw [R.snd, R.isn]
  have bad : (x < 0 ∨ nI sn ≤ x) → Met2 (Bd + 1000) h (fun h => p_X9_sender h 0 x z) (fun h => p_X10_sender_ h 110 x z) := fun a => by
    refine no_m G0 hB (r := -1) ?_ ?_
    · show p_X9_sender h 0 x z = _
      unfold p_X9_sender
      by_cases c : x < 0
      · rw [if_pos c]
      · rw [if_neg c, if_pos (by rw [e2]; exact a.resolve_left c)]
    · show p_X10_sender_ h 110 x z = _
      unfold p_X10_sender_
      rw [nv_eq]
      by_cases c : x < 0
      · rw [if_pos c]
      · rw [if_neg c, if_pos (by rw [e1]; exact a.resolve_left c)]
  rcases pk_ix x (n := sn) (by omega) with a | a | ⟨k, hk, rfl⟩
  · exact bad (Or.inl a)
  · exact bad (Or.inr a)
  · have eC : p_X9_sender h 0 (nI k) z = Option.bind (p_X5_tell h (0 + 10 + 35 + 1 + k) z) fun r2 => some (r2.1, r2.2) := by
      unfold p_X9_sender
      rw [if_neg (nI_pos (by omega)), if_neg (by rw [e2]; exact nI_ge hk (by omega)), if_pos (show nI k < 4 from nI_lt (b := 4) (by omega) (by omega)), if_pos (ib_n (by omega) (by omega)), nI_clamp (by omega)]
    have eM : p_X10_sender_ h 110 (nI k) z = if z < 0 then (some ((-1), hp h 110 0 0)) else (if 8 < z then (some ((-1), hp h 110 0 0)) else (Option.bind (p_X10_senderOf (hp h 110 0 0) 110 (nI k) z) fun r2 => some (r2.1, r2.2))) := by
      unfold p_X10_sender_
      rw [nv_eq, if_neg (nI_pos (by omega)), if_neg (by rw [e1]; exact nI_ge hk (by omega))]
    have bad2 : (z < 0 ∨ nI 8 < z) → Met2 (Bd + 1000) h (fun h => p_X9_sender h 0 (nI k) z) (fun h => p_X10_sender_ h 110 (nI k) z) := fun a => by
      have nz : ∀ c : Nat, c ≤ 8 → ¬ z = nI c := fun c hc u => by
        rw [u] at a
        rcases a with a | a
        · exact nI_pos (by omega) a
        · exact nI_nlt (by omega) (by omega) a
      refine no_m G0 hB (r := -1) ?_ ?_
      · show p_X9_sender h 0 (nI k) z = _
        rw [eC]
        unfold p_X5_tell
        rw [if_neg (show ¬ z = 0 from nz 0 (by omega)), if_neg (show ¬ z = 1 from nz 1 (by omega)), if_neg (show ¬ z = 2 from nz 2 (by omega)), if_neg (show ¬ z = 3 from nz 3 (by omega)), if_neg (show ¬ z = 4 from nz 4 (by omega)), if_neg (show ¬ z = 5 from nz 5 (by omega)), if_neg (show ¬ z = 6 from nz 6 (by omega)), if_neg (show ¬ z = 7 from nz 7 (by omega)), if_neg (show ¬ z = 8 from nz 8 (by omega)), Option.bind_some]
      · show p_X10_sender_ h 110 (nI k) z = _
        rw [eM]
        by_cases c : z < 0
        · rw [if_pos c]
        · rw [if_neg c, if_pos (show (8 : Int32) < z from a.resolve_left c)]
    rcases rng3 z (lo := 0) (hi := 8) (by omega) (by omega) with a | a | ⟨c, _, hc, rfl⟩
    · exact bad2 (Or.inl a)
    · exact bad2 (Or.inr a)
    · have tC : p_X5_tell h (0 + 10 + 35 + 1 + k) (nI c) = some (h (0 + 10 + 35 + 1 + k) c, h) := by
        unfold p_X5_tell
        rcases (show c = 0 ∨ c = 1 ∨ c = 2 ∨ c = 3 ∨ c = 4 ∨ c = 5 ∨ c = 6 ∨ c = 7 ∨ c = 8 by omega) with rfl | rfl | rfl | rfl | rfl | rfl | rfl | rfl | rfl <;> rfl
      have tM : p_X10_senderOf (hp h 110 0 0) 110 (nI k) (nI c) = some (h 116 (3478 + 9 * k + c), hp h 110 0 0) := by
        have hk4 : k < 4 := by omega
        rw [GR.S0]
        rcases (show c = 0 ∨ c = 1 ∨ c = 2 ∨ c = 3 ∨ c = 4 ∨ c = 5 ∨ c = 6 ∨ c = 7 ∨ c = 8 by omega) with rfl | rfl | rfl | rfl | rfl | rfl | rfl | rfl | rfl
        · exact m_senderOf_0 _ _ _ _ hk4
        · exact m_senderOf_1 _ _ _ _ hk4
        · exact m_senderOf_2 _ _ _ _ hk4
        · exact m_senderOf_3 _ _ _ _ hk4
        · exact m_senderOf_4 _ _ _ _ hk4
        · exact m_senderOf_5 _ _ _ _ hk4
        · exact m_senderOf_6 _ _ _ _ hk4
        · exact m_senderOf_7 _ _ _ _ hk4
        · exact m_senderOf_8 _ _ _ _ hk4
      have eq : h (0 + 10 + 35 + 1 + k) c = h 116 (3478 + 9 * k + c) := by
        by_cases c5 : c = 5
        · subst c5
          rw [R.ksn.2 k hk]
          exact (Int32.add_zero _).symm
        · exact R.ksn.1 k hk c (by omega) c5
      refine no_m G0 hB (r := h 116 (3478 + 9 * k + c)) ?_ ?_
      · show p_X9_sender h 0 (nI k) (nI c) = _
        rw [eC, tC, Option.bind_some, eq]
      · show p_X10_sender_ h 110 (nI k) (nI c) = _
        rw [eM, if_neg (nI_pos (by omega)), if_neg (show ¬ (8 : Int32) < nI c from nI_nlt (a := 8) (by omega) (by omega)), tM, Option.bind_some]
/-! inBucket -/
def scn (p : Nat → Bool) : Nat → Nat → Nat → Int32
  | 0, _, _ => -2
  | k + 1, g, d => if p g then (if d = 0 then nI g else scn p k (g + 1) (d - 1)) else scn p k (g + 1) d
theorem scn_none (p : Nat → Bool) : ∀ (k g d : Nat), (∀ j, g ≤ j → j < g + k → p j = false) → scn p k g d = -2
  | 0, _, _, _ => rfl
  | k + 1, g, d, e => by
    rw [scn, e g (by omega) (by omega)]
    exact scn_none p k (g + 1) d (fun j a b => e j (by omega) (by omega))
theorem scn_skip (p : Nat → Bool) (d f : Nat) : ∀ (k g : Nat), g ≤ f → f < g + k → (∀ j, g ≤ j → j < f → p j = false) → scn p k g d = scn p (g + k - f) f d
  | 0, g, a, b, _ => by omega
  | k + 1, g, a, b, e => by
    by_cases c : g = f
    · subst c
      rw [show g + (k + 1) - g = k + 1 by omega]
    · rw [scn, e g (by omega) (by omega)]
      rw [show (if false = true then (if d = 0 then nI g else scn p k (g + 1) (d - 1)) else scn p k (g + 1) d) = scn p k (g + 1) d from rfl, scn_skip p d f k (g + 1) (by omega) (by omega) (fun j a b => e j (by omega) b), show g + 1 + k - f = g + (k + 1) - f by omega]
theorem m_inB (hm : Hp) {S : Nat → Int32} (t l : Int32) {n b : Nat} (hn : S 1 = nI n) (hn2 : n ≤ 200) : ∀ (k g d m : Nat), g + k = n → k < m → d < 2 ^ 31 → lp (b_X10_inBucket_24 110 (nI b)) m (mt hm S t l, nI d, nI g) = some (scn (sb S b) k g d, mt hm S t l)
  | 0, g, d, m, e, hk, hd => by
    obtain ⟨m', rfl⟩ : ∃ m', m = m' + 1 := ⟨m - 1, by omega⟩
    rw [lp_s]
    generalize lp (b_X10_inBucket_24 110 (nI b)) m' = K
    unfold b_X10_inBucket_24
    dsimp +instances only
    rw [if_pos (by rw [mt_r _ _ _ _ (by omega) (by omega), hn]; exact nI_le (by omega) (by omega))]
    rfl
  | k + 1, g, d, m, e, hk, hd => by
    obtain ⟨m', rfl⟩ : ∃ m', m = m' + 1 := ⟨m - 1, by omega⟩
    have ih := m_inB hm t l (b := b) hn hn2 k (g + 1)
    rw [lp_s]
    unfold b_X10_inBucket_24
    dsimp +instances only
    rw [if_neg (by rw [mt_r _ _ _ _ (by omega) (by omega), hn]; exact nI_ge (by omega) (by omega)), m_frameOf_4 hm S t l (b := g) (by omega), Option.bind_some]
    dsimp +instances only
    rw [scn, nI_1]
    by_cases c1 : S (276 + 12 * g + 4) = nI b
    · rw [if_pos c1, m_frameOf_6 hm S t l (b := g) (by omega), Option.bind_some]
      dsimp +instances only
      by_cases c2 : S (276 + 12 * g + 6) = 0
      · rw [if_pos c2, if_pos (sb_t.mpr ⟨c1, c2⟩)]
        by_cases c3 : d = 0
        · subst c3
          rw [if_pos nI_0, if_pos rfl]
        · rw [if_neg (nI_ne0 (by omega) hd), if_neg c3]
          obtain ⟨d', rfl⟩ : ∃ d', d = d' + 1 := ⟨d - 1, by omega⟩
          rw [pk_m1]
          exact ih d' m' (by omega) (by omega) (by omega)
      · rw [if_neg c2, if_neg (by rw [sb_f.mpr (fun u => c2 u.2)]; decide)]
        exact ih d m' (by omega) (by omega) hd
    · rw [if_neg c1, if_neg (by rw [sb_f.mpr (fun u => c1 u.1)]; decide)]
      exact ih d m' (by omega) (by omega) hd
theorem c_inB {bg rl : Bool} {tb : Nat → Int32} {m y sn Bd n N tk w : Nat} {nw ol L : List Nat} {S : Nat → Int32} (R : Rel bg rl tb m y sn Bd n N tk nw ol L h w S) {b x : Nat} (hb : b < 16) (hx : x < 2 ^ 31) : ∀ (k g i M : Nat) (cur : Int32), g + k = n → k < M → i ≤ g → i ≤ x → isnx (sb S b) g n cur → lp (b_X1_along_5 (w + 2) (nI x)) M (h, cur, nI i) = some (scn (sb S b) k g (x - i), h) := by
  have hnn := R.n200
  intro k
  induction k using Nat.strongRecOn with
  | ind k ih =>
    intro g i M cur e hk hig hix hc
    obtain ⟨M', rfl⟩ : ∃ m', M = m' + 1 := ⟨M - 1, by omega⟩
    rw [lp_s]
    rcases hc with ⟨f, f1, f2, f3, f4, rfl⟩ | ⟨f1, rfl⟩
    · rw [scn_skip (sb S b) (x - i) f k g f1 (by omega) (fun j a c => f4 j a c), show g + k - f = (n - f - 1) + 1 by omega, scn, if_pos f3]
      have i200 : ¬ (200 : Int32) ≤ nI i := nI_ge (b := 200) (by omega) (by omega)
      by_cases c : x = i
      · subst c
        generalize lp (b_X1_along_5 (w + 2) (nI x)) M' = K
        unfold b_X1_along_5
        dsimp +instances only
        rw [if_pos (nI_le (by omega) (by omega)), has_y R f2, Option.bind_some]
        dsimp +instances only
        rw [if_neg one_nz, if_neg i200, if_pos (by omega)]
      · have := ih (n - f - 1) (by omega) (f + 1) (i + 1) M' (h (w + 2 + 11) f) (by omega) (by omega) (by omega) (by omega) (R.cf.1 b f hb f2 f3)
        rw [if_neg (by omega), show x - i - 1 = x - (i + 1) by omega, ← this]
        generalize lp (b_X1_along_5 (w + 2) (nI x)) M' = K
        unfold b_X1_along_5
        dsimp +instances only
        rw [if_neg (nI_ge (by omega) (by omega)), if_neg i200, has_y R f2, Option.bind_some]
        dsimp +instances only
        rw [if_neg one_nz, if_pos (ib_n (by omega) (by omega)), nv_eq, nI_clamp (by omega), nI_1]
    · rw [scn_none (sb S b) k g (x - i) (fun j a c => f1 j a (by omega))]
      generalize lp (b_X1_along_5 (w + 2) (nI x)) M' = K
      unfold b_X1_along_5
      dsimp +instances only
      have e0 := has_n h (w + 2)
      by_cases c1 : nI x ≤ nI i
      · rw [if_pos c1, e0, Option.bind_some]
        dsimp +instances only
        rw [if_pos rfl]
      · rw [if_neg c1]
        by_cases c2 : (200 : Int32) ≤ nI i
        · rw [if_pos c2, e0, Option.bind_some]
          dsimp +instances only
          rw [if_pos rfl]
        · rw [if_neg c2, e0, Option.bind_some]
          dsimp +instances only
          rw [if_pos rfl, e0, Option.bind_some]
          dsimp +instances only
          rw [if_pos rfl]
theorem inBucket_m (G : GR Bd h) (hB : Bd + 1000 ≤ 5000000) (x z : Int32) : Met2 (Bd + 1000) h (fun h => p_X9_inBucket h 0 x z) (fun h => p_X10_inBucket h 110 x z) := by
  have G0 := G
  obtain ⟨m, y, sn, n, N, nw, ol, L, R, hLS, g1, g2, g3, g4, g5, g6, g7⟩ := G
  have hmy := R.my
  have hnn := R.n200
  have bad : (x < 0 ∨ nI (m * y) ≤ x) → Met2 (Bd + 1000) h (fun h => p_X9_inBucket h 0 x z) (fun h => p_X10_inBucket h 110 x z) := fun a => by
    refine no_m G0 hB (r := -1) ?_ ?_
    · show p_X9_inBucket h 0 x z = _
      unfold p_X9_inBucket
      rw [hasB_out R a, Option.bind_some]
      dsimp +instances only
      rw [if_pos rfl]
    · have e := isB_out (hp h 110 0 0) (h 116 4) (h 116 7) R.i10 R.i11 a
      rw [← GR.S0] at e
      show p_X10_inBucket h 110 x z = _
      unfold p_X10_inBucket
      rw [nv_eq, e, Option.bind_some]
      dsimp +instances only
      rw [if_pos rfl]
  rcases pk_ix x (n := m * y) (by omega) with a | a | ⟨b, hb, rfl⟩
  · exact bad (Or.inl a)
  · exact bad (Or.inr a)
  · have e := isB_y (hp h 110 0 0) (h 116 4) (h 116 7) R.i10 R.i11 hb hmy
    rw [← GR.S0] at e
    by_cases c : z < 0
    · have a0 : ¬ (0 : Int32) ≤ z := (fa_of_lt c).2.1
      refine no_m G0 hB (r := -1) ?_ ?_
      · show p_X9_inBucket h 0 (nI b) z = _
        unfold p_X9_inBucket
        rw [hasB_y R hb, Option.bind_some]
        dsimp +instances only
        rw [if_neg one_nz, if_neg a0]
      · show p_X10_inBucket h 110 (nI b) z = _
        unfold p_X10_inBucket
        rw [nv_eq, e, Option.bind_some]
        dsimp +instances only
        rw [if_neg one_nz, if_neg a0]
    · obtain ⟨d, hd, rfl⟩ := nI_of c
      have a0 : (0 : Int32) ≤ nI d := nI_pos' hd
      have kC := c_inB R (b := b) (x := d) (by omega) hd n 0 0 FU (h (0 + 10 + 16 + 1 + b) 1) (by omega) (FU_gt (by omega)) (by omega) (by omega) (R.cb b (by omega)).1
      have kM := m_inB (hp h 110 0 0) (h 116 4) (h 116 7) (b := b) R.i1 hnn n 0 d FU (by omega) (FU_gt (by omega)) hd
      rw [← GR.S0] at kM
      rw [nI_0] at kC kM
      refine no_m G0 hB (r := scn (sb (h 116) b) n 0 d) ?_ ?_
      · show p_X9_inBucket h 0 (nI b) (nI d) = _
        unfold p_X9_inBucket p_X1_along
        rw [hasB_y R hb, Option.bind_some]
        dsimp +instances only
        rw [if_neg one_nz, if_pos a0, if_pos (ib_n (by omega) (by omega)), nI_clamp (by omega), kC, Option.bind_some]
        rfl
      · show p_X10_inBucket h 110 (nI b) (nI d) = _
        unfold p_X10_inBucket
        rw [nv_eq, e, Option.bind_some]
        dsimp +instances only
        rw [if_neg one_nz, if_pos a0, kM]
/-! eldest -/
theorem eldest_m (G : GR Bd h) (hB : Bd + 1000 ≤ 5000000) (x z : Int32) : Met2 (Bd + 1000) h (fun h => p_X9_eldest h 0 x z) (fun h => p_X10_eldest h 110 x z) := by
  have G0 := G
  obtain ⟨m, y, sn, n, N, nw, ol, L, R, hLS, g1, g2, g3, g4, g5, g6, g7⟩ := G
  have hmy := R.my
  have hnn := R.n200
  have bad : (x < 0 ∨ nI (m * y) ≤ x) → Met2 (Bd + 1000) h (fun h => p_X9_eldest h 0 x z) (fun h => p_X10_eldest h 110 x z) := fun a => by
    refine no_m G0 hB (r := -1) ?_ ?_
    · show p_X9_eldest h 0 x z = _
      unfold p_X9_eldest
      rw [hasB_out R a, Option.bind_some]
      dsimp +instances only
      rw [if_pos rfl]
    · have e := isB_out (hp h 110 0 0) (h 116 4) (h 116 7) R.i10 R.i11 a
      rw [← GR.S0] at e
      show p_X10_eldest h 110 x z = _
      unfold p_X10_eldest
      rw [nv_eq, e, Option.bind_some]
      dsimp +instances only
      rw [if_pos rfl]
  rcases pk_ix x (n := m * y) (by omega) with a | a | ⟨b, hb, rfl⟩
  · exact bad (Or.inl a)
  · exact bad (Or.inr a)
  · have e := isB_y (hp h 110 0 0) (h 116 4) (h 116 7) R.i10 R.i11 hb hmy
    rw [← GR.S0] at e
    by_cases c : z < 0 ∨ ¬ z ≤ 1
    · refine no_m G0 hB (r := -1) ?_ ?_
      · show p_X9_eldest h 0 (nI b) z = _
        unfold p_X9_eldest
        rw [hasB_y R hb, Option.bind_some]
        dsimp +instances only
        rw [if_neg one_nz]
        by_cases c1 : z < 0
        · rw [if_pos c1]
        · rw [if_neg c1, if_neg (c.resolve_left c1)]
      · show p_X10_eldest h 110 (nI b) z = _
        unfold p_X10_eldest
        rw [nv_eq, e, Option.bind_some]
        dsimp +instances only
        rw [if_neg one_nz]
        by_cases c1 : z < 0
        · rw [if_pos c1]
        · rw [if_neg c1, if_neg (c.resolve_left c1)]
    · have c1 : ¬ z < 0 := fun u => c (Or.inl u)
      have c2 : z ≤ 1 := Decidable.byContradiction fun u => c (Or.inr u)
      have eC : p_X9_eldest h 0 (nI b) z = Option.bind (p_X1_has h (0 + 10 + 2) (h (0 + 10 + 16 + 1 + b) 1)) fun r4 => if r4.1 = 0 then (some ((-2), r4.2)) else (if z = 0 then (if ib (h (0 + 10 + 16 + 1 + b) 1) 200 then (some ((r4.2 (0 + 10) 7) - (r4.2 (0 + 10 + 2 + 4) (Int32.toNatClampNeg (h (0 + 10 + 16 + 1 + b) 1))), r4.2)) else none) else (some (h (0 + 10 + 16 + 1 + b) 1, r4.2))) := by
        unfold p_X9_eldest
        rw [hasB_y R hb, Option.bind_some]
        dsimp +instances only
        rw [if_neg one_nz, if_neg c1, if_pos c2, if_pos (ib_n (by omega) (by omega)), nv_eq, nI_clamp (by omega)]
      have eM : p_X10_eldest h 110 (nI b) z = Option.bind (p_X10_firstIn (hp h 110 0 0) 110 (nI b)) fun r3 => if r3.1 = (-1) then (some ((-2), r3.2)) else (if z = 0 then (Option.bind (p_X10_frameOf r3.2 110 r3.1 3) fun r4 => some ((r3.2 (110 + 6) 0) - r4.1, r4.2)) else (some (r3.1, r3.2))) := by
        unfold p_X10_eldest
        rw [nv_eq, e, Option.bind_some]
        dsimp +instances only
        rw [if_neg one_nz, if_neg c1, if_pos c2]
      rcases (R.cb b (by omega)).1 with ⟨f, f1, f2, f3, f4, f5⟩ | ⟨f1, f5⟩
      · have kM := m_first_y (hp h 110 0 0) (h 116) (h 116 4) (h 116 7) R.i1 hnn f2 f3 (fun g hg => f4 g (by omega) hg)
        have kF := m_frameOf_3 (hp h 110 0 0) (h 116) (h 116 4) (h 116 7) (b := f) (by omega)
        rw [← GR.S0] at kM kF
        have nf : ¬ nI f = -1 := fun u => by
          have : ¬ nI f < 0 := nI_pos (by omega)
          rw [u] at this
          exact this (by decide)
        by_cases c3 : z = 0
        · refine no_m G0 hB (r := h 116 0 - h 116 (276 + 12 * f + 3)) ?_ ?_
          · show p_X9_eldest h 0 (nI b) z = _
            rw [eC, f5, has_y R f2, Option.bind_some]
            dsimp +instances only
            rw [if_neg one_nz, if_pos c3, if_pos (ib_n (by omega) (by omega)), nI_clamp (by omega), R.now, R.f4 f2]
          · show p_X10_eldest h 110 (nI b) z = _
            rw [eM, kM, Option.bind_some]
            dsimp +instances only
            rw [if_neg nf, if_pos c3, kF, Option.bind_some]
            dsimp +instances only
            rw [hp_o' _ _ (by omega)]
        · refine no_m G0 hB (r := nI f) ?_ ?_
          · show p_X9_eldest h 0 (nI b) z = _
            rw [eC, f5, has_y R f2, Option.bind_some]
            dsimp +instances only
            rw [if_neg one_nz, if_neg c3]
          · show p_X10_eldest h 110 (nI b) z = _
            rw [eM, kM, Option.bind_some]
            dsimp +instances only
            rw [if_neg nf, if_neg c3]
      · have kM := m_first_n (hp h 110 0 0) (h 116) (h 116 4) (h 116 7) (b := b) R.i1 hnn (fun g hg => f1 g (by omega) hg)
        rw [← GR.S0] at kM
        refine no_m G0 hB (r := -2) ?_ ?_
        · show p_X9_eldest h 0 (nI b) z = _
          rw [eC, f5, has_n, Option.bind_some]
          dsimp +instances only
          rw [if_pos rfl]
        · show p_X10_eldest h 110 (nI b) z = _
          rw [eM, kM, Option.bind_some]
          dsimp +instances only
          rw [if_pos rfl]
/-! past -/
def gt2 (l : List Nat) (d : Nat) : Int32 := match l[d]? with | some f => nI f | none => -2
theorem gt2_0 (f : Nat) (l : List Nat) : gt2 (f :: l) 0 = nI f := rfl
theorem gt2_s (f : Nat) (l : List Nat) (d : Nat) : gt2 (f :: l) (d + 1) = gt2 l d := rfl
theorem c_one {bg rl : Bool} {tb : Nat → Int32} {m y sn Bd n N w : Nat} {nw ol L : List Nat} {S : Nat → Int32} (R : Rel bg rl tb m y sn Bd n N 200 nw ol L h w S) {i f : Nat} (ef : L[i]? = some f) : p_X1_endedOne h (w + 2) (nI i) = some (nI f, h) := by
  have hL : L.length ≤ n := nd_len n L R.el.2.2.2.2.1 (fun x hx => ((R.el.2.2.2.2.2.1 x).mp hx).1)
  have hnn := R.n200
  have hi : i < L.length := (List.getElem?_eq_some_iff.mp ef).1
  have ev : h (w + 2 + 12) i = nI f := by
    have := R.el.2.1 i f ef
    rw [Nat.zero_add] at this
    exact this
  unfold p_X1_endedOne
  rw [if_neg (nI_pos (by omega)), if_neg (by rw [R.el.1]; exact nI_ge (by omega) (by omega)), if_neg (show ¬ (200 : Int32) ≤ nI i from nI_ge (b := 200) (by omega) (by omega)), if_pos (ib_n (by omega) (by omega)), nI_clamp (by omega), ev]
theorem c_past {bg rl : Bool} {tb : Nat → Int32} {m y sn Bd n N w : Nat} {nw ol L : List Nat} {S : Nat → Int32} (R : Rel bg rl tb m y sn Bd n N 200 nw ol L h w S) {v : Int32} (P : Nat → Bool) (hP : ∀ f, f < n → (P f = true ↔ if v = 4 then S (276 + 12 * f + 5) = 1 else S (276 + 12 * f + 6) = v)) : ∀ (l : List Nat) (i d M : Nat), (∀ j x, l[j]? = some x → L[i + j]? = some x) → i + l.length = L.length → l.length < M → d < 2 ^ 31 → lp (b_X1_endedAs_5 (w + 2) v) M (h, nI d, nI i) = some (gt2 (l.filter P) d, h)
  | [], i, d, M, e, hl, hM, hd => by
    obtain ⟨M', rfl⟩ : ∃ m', M = m' + 1 := ⟨M - 1, by omega⟩
    have hL : L.length ≤ n := nd_len n L R.el.2.2.2.2.1 (fun x hx => ((R.el.2.2.2.2.2.1 x).mp hx).1)
    have hnn := R.n200
    rw [List.length_nil] at hl
    rw [lp_s]
    generalize lp (b_X1_endedAs_5 (w + 2) v) M' = K
    unfold b_X1_endedAs_5
    dsimp +instances only
    rw [if_pos (by rw [R.el.1]; exact nI_le (by omega) (by omega))]
    rfl
  | f :: l, i, d, M, e, hl, hM, hd => by
    obtain ⟨M', rfl⟩ : ∃ m', M = m' + 1 := ⟨M - 1, by omega⟩
    have hL : L.length ≤ n := nd_len n L R.el.2.2.2.2.1 (fun x hx => ((R.el.2.2.2.2.2.1 x).mp hx).1)
    have hnn := R.n200
    rw [List.length_cons] at hl hM
    have ef : L[i]? = some f := e 0 f rfl
    have fn : f < n := ((R.el.2.2.2.2.2.1 f).mp (List.mem_of_getElem? ef)).1
    have ih := c_past R P hP l (i + 1)
    have e' : ∀ j x, l[j]? = some x → L[i + 1 + j]? = some x := fun j x hj => by
      rw [show i + 1 + j = i + (j + 1) by omega]
      exact e (j + 1) x hj
    have hk : ∀ q : Prop, [Decidable q] → (P f = true ↔ q) → ∀ (x1 : Hp × Int32 × Int32 → Option (Int32 × Hp)), x1 = lp (b_X1_endedAs_5 (w + 2) v) M' → (if q then (if nI d = 0 then some (nI f, h) else x1 (h, nI d + (-1), nI i + 1)) else x1 (h, nI d, nI i + 1)) = some (gt2 ((f :: l).filter P) d, h) := fun q _ hq x1 e1 => by
      subst e1
      rw [nI_1]
      by_cases c : q
      · rw [if_pos c, List.filter_cons_of_pos (hq.mpr c)]
        by_cases c3 : d = 0
        · subst c3
          rw [if_pos nI_0]
          rfl
        · rw [if_neg (nI_ne0 (by omega) hd)]
          obtain ⟨d', rfl⟩ : ∃ d', d = d' + 1 := ⟨d - 1, by omega⟩
          rw [pk_m1, gt2_s]
          exact ih d' M' e' (by omega) (by omega) (by omega)
      · rw [if_neg c, List.filter_cons_of_neg (fun u => c (hq.mp u))]
        exact ih d M' e' (by omega) (by omega) hd
    rw [lp_s]
    generalize lp (b_X1_endedAs_5 (w + 2) v) M' = K at hk
    unfold b_X1_endedAs_5
    dsimp +instances only
    rw [if_neg (by rw [R.el.1]; exact nI_ge (by omega) (by omega)), c_one R ef, Option.bind_some]
    dsimp +instances only
    rw [has_y R fn, Option.bind_some]
    dsimp +instances only
    rw [if_neg one_nz]
    have hPf := hP f fn
    by_cases c4 : v = 4
    · rw [if_pos c4] at hPf
      rw [if_pos c4, if_pos (ib_n (by omega) (by omega)), nI_clamp (by omega), R.f8 fn]
      exact hk _ hPf K rfl
    · rw [if_neg c4] at hPf
      rw [if_neg c4, if_pos (ib_n (by omega) (by omega)), nI_clamp (by omega), R.f9 fn (by omega)]
      exact hk _ hPf K rfl
theorem past_m (G : GR Bd h) (hB : Bd + 1000 ≤ 5000000) (x z : Int32) : Met2 (Bd + 1000) h (fun h => p_X9_past h 0 x z) (fun h => p_X10_past h 110 x z) := by
  have G0 := G
  obtain ⟨m, y, sn, n, N, nw, ol, L, R, hLS, g1, g2, g3, g4, g5, g6, g7⟩ := G
  have hnn := R.n200
  have hL : L.length ≤ n := nd_len n L R.el.2.2.2.2.1 (fun x hx => ((R.el.2.2.2.2.2.1 x).mp hx).1)
  rcases pk_ix x (n := 4) (by omega) with a | a | ⟨k, hk, rfl⟩
  · refine no_m G0 hB (r := -1) ?_ ?_
    · show p_X9_past h 0 x z = _
      unfold p_X9_past
      rw [if_pos a]
    · show p_X10_past h 110 x z = _
      unfold p_X10_past
      rw [nv_eq, if_pos a]
  · have a0 : ¬ x < 0 := fun u => by
      have := fa_trans u (show (0 : Int32) ≤ nI 4 by decide)
      exact (fa_of_lt this).2.1 a
    refine no_m G0 hB (r := -1) ?_ ?_
    · show p_X9_past h 0 x z = _
      unfold p_X9_past
      rw [if_neg a0, if_pos (show (4 : Int32) ≤ x from a)]
    · show p_X10_past h 110 x z = _
      unfold p_X10_past
      rw [nv_eq, if_neg a0, if_pos (fa_trans (show (3 : Int32) < nI 4 by decide) a)]
  · have k0 : ¬ nI k < 0 := nI_pos (by omega)
    have k4 : ¬ (4 : Int32) ≤ nI k := nI_ge (b := 4) (by omega) (by omega)
    have k3 : ¬ (3 : Int32) < nI k := nI_nlt (a := 3) (by omega) (by omega)
    by_cases c : z < 0
    · have a0 : ¬ (0 : Int32) ≤ z := (fa_of_lt c).2.1
      refine no_m G0 hB (r := -1) ?_ ?_
      · show p_X9_past h 0 (nI k) z = _
        unfold p_X9_past
        rw [if_neg k0, if_neg k4, if_neg a0]
      · show p_X10_past h 110 (nI k) z = _
        unfold p_X10_past
        rw [nv_eq, if_neg k0, if_neg k3, if_neg a0]
    · obtain ⟨d, hd, rfl⟩ := nI_of c
      have a0 : (0 : Int32) ≤ nI d := nI_pos' hd
      obtain ⟨P, hP, p1, p2⟩ : ∃ P : Nat → Bool, (∀ f, f < n → (P f = true ↔ if tbv 5 k = 4 then h 116 (276 + 12 * f + 5) = 1 else h 116 (276 + 12 * f + 6) = tbv 5 k)) ∧ h 116 (14 + k) = nI (L.filter P).length ∧ AL (h 116) (2676 + 200 * k) (L.filter P) := by
        obtain ⟨e1, e2, e3, e4, e5, e6, e7, e8, e9, e10⟩ := R.ep
        rcases (show k = 0 ∨ k = 1 ∨ k = 2 ∨ k = 3 by omega) with rfl | rfl | rfl | rfl
        · refine ⟨fun f => decide (h 116 (276 + 12 * f + 6) = nI 1), fun f _ => ?_, e1, e2⟩
          rw [decide_eq_true_iff, show tbv 5 0 = nI 1 from rfl, if_neg (by decide)]
        · refine ⟨fun f => decide (h 116 (276 + 12 * f + 6) = nI 2), fun f _ => ?_, e3, e4⟩
          rw [decide_eq_true_iff, show tbv 5 1 = nI 2 from rfl, if_neg (by decide)]
        · refine ⟨fun f => decide (h 116 (276 + 12 * f + 5) = 1), fun f _ => ?_, e5, e6⟩
          rw [decide_eq_true_iff, show tbv 5 2 = nI 4 from rfl, if_pos (by decide)]
        · refine ⟨fun f => decide (h 116 (276 + 12 * f + 6) = nI 3), fun f _ => ?_, e7, e8⟩
          rw [decide_eq_true_iff, show tbv 5 3 = nI 3 from rfl, if_neg (by decide)]
      have kC := c_past R P hP L 0 d FU (fun j x hj => by rw [Nat.zero_add]; exact hj) (by omega) (FU_gt (by omega)) hd
      rw [nI_0] at kC
      have hl := List.length_filter_le P L
      refine no_m G0 hB (r := gt2 (L.filter P) d) ?_ ?_
      · show p_X9_past h 0 (nI k) (nI d) = _
        unfold p_X9_past p_X1_endedAs
        rw [if_neg k0, if_neg k4, if_pos a0, if_pos (ib_n (by omega) (by omega)), nI_clamp (by omega), kC, Option.bind_some]
      · have j1 : (14 : Int32) + nI k = nI (14 + k) := nI_add 14 k
        have j2 : (2676 : Int32) + 200 * nI k + nI d = nI (2676 + 200 * k + d) := lin3 2676 200 k d
        show p_X10_past h 110 (nI k) (nI d) = _
        unfold p_X10_past
        rw [nv_eq, if_neg k0, if_neg k3, if_pos a0, j1, j2, if_pos (ib_n (by omega) (by omega)), nI_clamp (by omega)]
        have er : hp h 110 0 0 (110 + 6) (14 + k) = nI (L.filter P).length := by
          rw [hp_o' _ _ (by omega)]
          exact p1
        by_cases c5 : d < (L.filter P).length
        · rw [if_neg (by rw [er]; exact nI_ge c5 (by omega)), if_pos (ib_n (by omega) (by omega)), nI_clamp (by omega), hp_o' _ _ (by omega)]
          obtain ⟨f, ef⟩ : ∃ f, (L.filter P)[d]? = some f := ⟨_, List.getElem?_eq_getElem c5⟩
          rw [show h (110 + 6) (2676 + 200 * k + d) = nI f from p2 d f ef]
          unfold gt2
          rw [ef]
        · rw [if_pos (by rw [er]; exact nI_le (by omega) hd)]
          unfold gt2
          rw [List.getElem?_eq_none (by omega)]
end Qa
