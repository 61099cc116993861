/-! feed -/
theorem low8c : ∀ j : Fin 32, 8 ≤ j.val → (255#32).getLsbD j.val = false := by decide
theorem low8 (b : BitVec 32) (k : Nat) (hk : k ≤ 24) : b.sshiftRight k &&& 255#32 = b >>> k &&& 255#32 := by
  ext i hi
  rw [BitVec.getElem_and, BitVec.getElem_and]
  by_cases c : i < 8
  · congr 1
    rw [BitVec.getElem_sshiftRight, BitVec.getElem_ushiftRight]
    rw [dif_pos (show k + i < 32 by omega)]
    rw [BitVec.getLsbD_eq_getElem (by omega)]
  · have e : (255#32)[i] = false := by
      rw [← BitVec.getLsbD_eq_getElem hi]
      exact low8c ⟨i, hi⟩ (show 8 ≤ i by omega)
    rw [e, Bool.and_false, Bool.and_false]
def byt (x : Int32) (k : Nat) : Int32 := nI (x.toBitVec.toNat / 2 ^ k % 256)
theorem byt_rg (x : Int32) (k : Nat) : rg (byt x k) 0 255 := ⟨_, Nat.zero_le _, by omega, rfl⟩
theorem byt_c (x s : Int32) (k : Nat) (hs : ((s.toUInt32 &&& Int32.toUInt32 31).toBitVec % 32).toNat = k) : (((x : Int32).toUInt32 >>> ((s : Int32).toUInt32 &&& Int32.toUInt32 31)).toInt32) &&& 255 = byt x k := by
  rw [pk_and _ 8 (by decide), pk_ushr x s k hs]
  rfl
theorem byt_m (x s : Int32) (k : Nat) (hk : k ≤ 24) (hs : (s.toBitVec.smod 32).toNat = k) : (x >>> s) &&& 255 = byt x k := by
  unfold byt
  have e1 : (x >>> s).toBitVec = x.toBitVec.sshiftRight k := by
    rw [Int32.toBitVec_shiftRight, BitVec.sshiftRight_eq', hs]
  have e2 : ((x >>> s) &&& 255).toBitVec = x.toBitVec >>> k &&& 255#32 := by
    rw [Int32.toBitVec_and, e1]
    exact low8 _ k hk
  have e3 : (x.toBitVec >>> k &&& 255#32).toNat = x.toBitVec.toNat / 2 ^ k % 256 := by
    rw [BitVec.toNat_and, BitVec.toNat_ushiftRight, Nat.shiftRight_eq_div_pow]
    exact Nat.and_two_pow_sub_one_eq_mod _ 8
  apply Int32.toBitVec_inj.mp
  apply BitVec.eq_of_toNat_eq
  rw [e2, e3, pk_tn (by omega)]
section Fe
variable {Bd : Nat} {h : Hp}
/-- one number more on the tape: four bytes -/
theorem app_c (h : Hp) {k : Nat} (x : Int32) (hk : h (0 + 1) 1 = nI k) (hk2 : k + 4 ≤ 900) : ∃ h', p_X3_append h (0 + 1) x = some h' ∧ h' (0 + 1) 1 = nI (k + 4) ∧ (∀ j, j < 4 → h' (0 + 1 + 1) (k + j) = byt x (24 - 8 * j)) ∧ (∀ j, j < k → h' (0 + 1 + 1) j = h (0 + 1 + 1) j) ∧ (∀ o, o ≠ 0 + 1 → o ≠ 0 + 1 + 1 → h' o = h o) ∧ ∀ j, j ≠ 1 → h' (0 + 1) j = h (0 + 1) j := by
  have st : ∀ (q s : Int32) (g : Hp) (i z : Nat) (K : Hp × Int32 → Option Hp), g (0 + 1) 1 = nI i → i < 900 → ¬ q < 0 → ((q.toUInt32 &&& Int32.toUInt32 31).toBitVec % 32).toNat = z → q + (-8) = s → b_X3_append_3 (0 + 1) x K (g, q) = K (hp (hp g (0 + 1 + 1) i (byt x z)) (0 + 1) 1 (nI (i + 1)), s) := fun q s g i z K e1 e2 e3 e4 e5 => by
    unfold b_X3_append_3
    dsimp +instances only
    rw [if_neg e3, if_neg (by rw [e1]; exact nI_ge (b := 900) e2 (by omega)), e1]
    simp only [if_pos (show ib (nI i) 900 from ib_n e2 (by omega)), nI_clamp (show i < 2 ^ 31 by omega)]
    rw [byt_c x q z e4, nv_eq, nv_eq, hp_o' _ _ (by omega), e1, nI_1, e5]
  have f4 : ∀ (a b c d : Int32), ∃ h', h' = hp (hp (hp (hp (hp (hp (hp (hp h (0 + 1 + 1) k a) (0 + 1) 1 (nI (k + 1))) (0 + 1 + 1) (k + 1) b) (0 + 1) 1 (nI (k + 2))) (0 + 1 + 1) (k + 2) c) (0 + 1) 1 (nI (k + 3))) (0 + 1 + 1) (k + 3) d) (0 + 1) 1 (nI (k + 4)) := fun a b c d => ⟨_, rfl⟩
  obtain ⟨h', e'⟩ := f4 (byt x 24) (byt x 16) (byt x 8) (byt x 0)
  refine ⟨h', ?_, ?_, fun j hj => ?_, fun j hj => ?_, fun o h1 h2 => ?_, fun j hj => ?_⟩
  · obtain ⟨F, hF⟩ : ∃ F, FU = F + 5 := ⟨FU - 5, by have := FU_gt (k := 5) (by omega); omega⟩
    unfold p_X3_append
    rw [hF, lp_s, st 24 16 h k 24 _ hk (by omega) (by decide) (by decide) (by decide), show F + 4 = F + 3 + 1 from rfl, lp_s, st 16 8 _ (k + 1) 16 _ (hp_s _ _ _ _) (by omega) (by decide) (by decide) (by decide), show F + 3 = F + 2 + 1 from rfl, lp_s, st 8 0 _ (k + 2) 8 _ (hp_s _ _ _ _) (by omega) (by decide) (by decide) (by decide), show F + 2 = F + 1 + 1 from rfl, lp_s, st 0 (-8) _ (k + 3) 0 _ (hp_s _ _ _ _) (by omega) (by decide) (by decide) (by decide), lp_s]
    generalize lp (b_X3_append_3 (0 + 1) x) F = K
    unfold b_X3_append_3
    dsimp +instances only
    rw [if_pos (by decide), e']
  · rw [e', hp_s]
  · rw [e']
    rcases (show j = 0 ∨ j = 1 ∨ j = 2 ∨ j = 3 by omega) with rfl | rfl | rfl | rfl <;> simp (disch := omega) only [hp_o', hp_k, hp_s, Nat.add_zero] <;> rfl
  · rw [e']
    simp (disch := omega) only [hp_o', hp_k]
  · rw [e']
    simp (disch := assumption) only [hp_n]
  · rw [e']
    rw [hp_k _ _ hj, hp_o' _ _ (by omega), hp_k _ _ hj, hp_o' _ _ (by omega), hp_k _ _ hj, hp_o' _ _ (by omega), hp_k _ _ hj, hp_o' _ _ (by omega)]
def fby (X : Nat → Int32) (i : Nat) : Int32 := byt (X (i / 4)) (24 - 8 * (i % 4))
def xs5 (x1 x2 x3 x4 x5 : Int32) : Nat → Int32 := fun j => if j = 0 then x1 else if j = 1 then x2 else if j = 2 then x3 else if j = 3 then x4 else x5
theorem sh20 : ∀ i : Fin 20, (((24 - (8 * (nI i.val - nI i.val / 4 * 4))) &&& 31).toBitVec.smod 32).toNat = 24 - 8 * (i.val % 4) := by decide
def tap (g : Nat → Int32) (X : Nat → Int32) (k i : Nat) : Nat → Int32 := fun j => if k ≤ j ∧ j < k + i then fby X (j - k) else g j
theorem tap_s (g X : Nat → Int32) (k i : Nat) : upd (tap g X k i) (k + i) (fby X i) = tap g X k (i + 1) := by
  funext j
  unfold upd tap
  by_cases e : j = k + i
  · subst e
    rw [if_pos rfl, if_pos ⟨by omega, by omega⟩, show k + i - k = i by omega]
  · rw [if_neg e]
    by_cases c : k ≤ j ∧ j < k + i
    · rw [if_pos c, if_pos ⟨c.1, by omega⟩]
    · rw [if_neg c, if_neg (fun u => c ⟨u.1, by omega⟩)]
theorem feed_lp (g : Hp) {k : Nat} (x1 x2 x3 x4 x5 : Int32) (hk : g 110 2 = nI k) (hk2 : k + 20 ≤ 900) : lp (b_X10_feed_20 110 x1 x2 x3 x4 x5) FU (g, 0) = some (nI (k + 20), hp (va_up g 111 (tap (g 111) (xs5 x1 x2 x3 x4 x5) k 20)) 110 2 (nI (k + 20))) := by
  have e2 : ∀ d, va_up g 111 d 110 2 = nI k := fun d => by rw [va_up_ne _ _ (by omega), hk]
  have := lp_for (b := b_X10_feed_20 110 x1 x2 x3 x4 x5) (fun i => (va_up g 111 (tap (g 111) (xs5 x1 x2 x3 x4 x5) k i), nI i)) 20 (nI (k + 20), hp (va_up g 111 (tap (g 111) (xs5 x1 x2 x3 x4 x5) k 20)) 110 2 (nI (k + 20))) (fun K i hi => by
    have q : q_X10_feed_73 K (va_up g 111 (tap (g 111) (xs5 x1 x2 x3 x4 x5) k i)) 110 x1 x2 x3 x4 x5 (nI i) (xs5 x1 x2 x3 x4 x5 (i / 4)) = K (va_up g 111 (tap (g 111) (xs5 x1 x2 x3 x4 x5) k (i + 1)), nI (i + 1)) := by
      unfold q_X10_feed_73
      rw [e2, nI_add]
      simp only [if_pos (show ib (nI (k + i)) 900 from ib_n (by omega) (by omega)), nI_clamp (show k + i < 2 ^ 31 by omega)]
      rw [nv_eq, byt_m _ _ (24 - 8 * (i % 4)) (by omega) (sh20 ⟨i, hi⟩), nI_1]
      have e3 : hp (va_up g 111 (tap (g 111) (xs5 x1 x2 x3 x4 x5) k i)) (110 + 1) (k + i) (byt (xs5 x1 x2 x3 x4 x5 (i / 4)) (24 - 8 * (i % 4))) = va_up g 111 (tap (g 111) (xs5 x1 x2 x3 x4 x5) k (i + 1)) := by
        unfold hp
        rw [show (110 + 1 : Nat) = 111 from rfl, va_up_self, ← tap_s]
        funext j
        by_cases e : j = 111
        · subst e
          rw [va_up_self, va_up_self]
          rfl
        · rw [va_up_ne _ _ e, va_up_ne _ _ e, va_up_ne _ _ e]
      rw [e3]
    unfold b_X10_feed_20
    dsimp +instances only
    rw [if_neg (show ¬ (20 : Int32) ≤ nI i from nI_ge (b := 20) hi (by omega))]
    by_cases c4 : 4 ≤ i
    · rw [if_pos (show (4 : Int32) ≤ nI i from nI_le (a := 4) c4 (by omega))]
      by_cases c8 : 8 ≤ i
      · rw [if_pos (show (8 : Int32) ≤ nI i from nI_le (a := 8) c8 (by omega))]
        by_cases c12 : 12 ≤ i
        · rw [if_pos (show (12 : Int32) ≤ nI i from nI_le (a := 12) c12 (by omega))]
          by_cases c16 : 16 ≤ i
          · rw [if_pos (show (16 : Int32) ≤ nI i from nI_le (a := 16) c16 (by omega)), ← q, show i / 4 = 4 by omega]
            rfl
          · rw [if_neg (show ¬ (16 : Int32) ≤ nI i from nI_ge (b := 16) (by omega) (by omega)), ← q, show i / 4 = 3 by omega]
            rfl
        · rw [if_neg (show ¬ (12 : Int32) ≤ nI i from nI_ge (b := 12) (by omega) (by omega)), ← q, show i / 4 = 2 by omega]
          rfl
      · rw [if_neg (show ¬ (8 : Int32) ≤ nI i from nI_ge (b := 8) (by omega) (by omega)), ← q, show i / 4 = 1 by omega]
        rfl
    · rw [if_neg (show ¬ (4 : Int32) ≤ nI i from nI_ge (b := 4) (by omega) (by omega)), ← q, show i / 4 = 0 by omega]
      rfl) (fun K => by
    unfold b_X10_feed_20
    dsimp +instances only
    rw [if_pos (show (20 : Int32) ≤ nI 20 by decide), e2, nv_eq, hp_s, show nI k + 20 = nI (k + 20) from nI_add k 20]) 20 0 FU (by omega) (FU_gt (by omega))
  have e0 : va_up g 111 (tap (g 111) (xs5 x1 x2 x3 x4 x5) k 0) = g := by
    funext j
    by_cases e : j = 111
    · subst e
      rw [va_up_self]
      funext i
      unfold tap
      rw [if_neg (by omega)]
    · rw [va_up_ne _ _ e]
  rw [e0, nI_0] at this
  exact this
theorem feed_m (G : GR Bd h) (hB : Bd + 1000 ≤ 5000000) (x1 x2 x3 x4 x5 : Int32) : Met2 (Bd + 1000) h (fun h => p_X9_feed h 0 x1 x2 x3 x4 x5) (fun h => p_X10_feed h 110 x1 x2 x3 x4 x5) := by
  have G0 := G
  obtain ⟨m, y, sn, n, N, nw, ol, L, R, hLS, g1, g2, g3, g4, g5, g6, g7⟩ := G
  obtain ⟨k, k1, k2, k3, k4, k5, k6⟩ := g7
  have e20 : nI k + 20 = nI (k + 20) := nI_add k 20
  by_cases c : k + 20 ≤ 900
  · obtain ⟨a1, p1, p2, p3, p4, p5, p6⟩ := app_c h x1 k2 (by omega)
    obtain ⟨a2, q1, q2, q3, q4, q5, q6⟩ := app_c a1 x2 p2 (by omega)
    obtain ⟨a3, r1, r2, r3, r4, r5, r6⟩ := app_c a2 x3 q2 (by omega)
    obtain ⟨a4, s1, s2, s3, s4, s5, s6⟩ := app_c a3 x4 r2 (by omega)
    obtain ⟨a5, t1, t2, t3, t4, t5, t6⟩ := app_c a4 x5 s2 (by omega)
    have f5 : ∀ o, o ≠ 0 + 1 → o ≠ 0 + 1 + 1 → a5 o = h o := fun o h1 h2 => by rw [t5 o h1 h2, s5 o h1 h2, r5 o h1 h2, q5 o h1 h2, p5 o h1 h2]
    have fj : ∀ j, j ≠ 1 → a5 (0 + 1) j = h (0 + 1) j := fun j hj => by rw [t6 j hj, s6 j hj, r6 j hj, q6 j hj, p6 j hj]
    have fo : ∀ j, j < k → a5 (0 + 1 + 1) j = h (0 + 1 + 1) j := fun j hj => by rw [t4 j (by omega), s4 j (by omega), r4 j (by omega), q4 j (by omega), p4 j (by omega)]
    have fb : ∀ i, i < 20 → a5 (0 + 1 + 1) (k + i) = fby (xs5 x1 x2 x3 x4 x5) i := fun i hi => by
      unfold fby
      rcases (show i / 4 = 0 ∨ i / 4 = 1 ∨ i / 4 = 2 ∨ i / 4 = 3 ∨ i / 4 = 4 by omega) with u | u | u | u | u
      · rw [u, t4 _ (by omega), s4 _ (by omega), r4 _ (by omega), q4 _ (by omega), show k + i = k + (i % 4) by omega, p3 _ (by omega)]
        rfl
      · rw [u, t4 _ (by omega), s4 _ (by omega), r4 _ (by omega), show k + i = k + 4 + (i % 4) by omega, q3 _ (by omega)]
        rfl
      · rw [u, t4 _ (by omega), s4 _ (by omega), show k + i = k + 4 + 4 + (i % 4) by omega, r3 _ (by omega)]
        rfl
      · rw [u, t4 _ (by omega), show k + i = k + 4 + 4 + 4 + (i % 4) by omega, s3 _ (by omega)]
        rfl
      · rw [u, show k + i = k + 4 + 4 + 4 + 4 + (i % 4) by omega, t3 _ (by omega)]
        rfl
    have e110 : hp a5 110 0 0 110 2 = nI k := by rw [hp_k _ _ (by omega), f5 _ (by omega) (by omega), k3]
    refine ⟨nI (k + 20), a5, hp (va_up (hp a5 110 0 0) 111 (tap (hp a5 110 0 0 111) (xs5 x1 x2 x3 x4 x5) k 20)) 110 2 (nI (k + 20)), ?_, ?_, ?_⟩
    · show p_X9_feed h 0 x1 x2 x3 x4 x5 = _
      unfold p_X9_feed
      rw [if_pos (by rw [k2, e20]; exact nI_le (b := 900) c (by omega)), p1, Option.bind_some, q1, Option.bind_some, r1, Option.bind_some, s1, Option.bind_some, t1, Option.bind_some, t2]
    · show p_X10_feed a5 110 x1 x2 x3 x4 x5 = _
      unfold p_X10_feed
      rw [nv_eq, if_pos (by rw [e110]; exact nI_le (b := 880) (by omega) (by omega))]
      exact feed_lp _ x1 x2 x3 x4 x5 e110 c
    · have z : ∀ o, o ≠ 110 → o ≠ 111 → o ≠ 1 → o ≠ 2 → hp (va_up (hp a5 110 0 0) 111 (tap (hp a5 110 0 0 111) (xs5 x1 x2 x3 x4 x5) k 20)) 110 2 (nI (k + 20)) o = h o := fun o h1 h2 h3 h4 => by rw [hp_n h1, va_up_ne _ _ h2, hp_n h1, f5 o h3 h4]
      have z0 : ∀ j, j ≠ 0 → j ≠ 2 → hp (va_up (hp a5 110 0 0) 111 (tap (hp a5 110 0 0 111) (xs5 x1 x2 x3 x4 x5) k 20)) 110 2 (nI (k + 20)) 110 j = h 110 j := fun j h1 h2 => by rw [hp_k _ _ h2, va_up_ne _ _ (by omega), hp_k _ _ h1, f5 _ (by omega) (by omega)]
      refine GR.bd (Bd := Bd) ?_ (by omega) hB
      unfold GR
      rw [z 116 (by omega) (by omega) (by omega) (by omega)]
      refine ⟨m, y, sn, n, N, nw, ol, L, R.heap (fun o a b => z o (by omega) (by omega) (by omega) (by omega)), hLS, ?_, ?_, g3, g4, ?_, ?_, k + 20, c, ?_, ?_, fun j hj => ?_, ?_, ?_⟩
      · rw [z _ (by omega) (by omega) (by omega) (by omega), g1]
      · rw [z _ (by omega) (by omega) (by omega) (by omega), g2]
      · rw [z0 _ (by omega) (by omega), g5]
      · rw [z _ (by omega) (by omega) (by omega) (by omega), g6]
      · rw [hp_o' _ _ (by omega), va_up_ne _ _ (by omega), hp_o' _ _ (by omega), t2]
      · rw [hp_s]
      · have w2 : hp (va_up (hp a5 110 0 0) 111 (tap (hp a5 110 0 0 111) (xs5 x1 x2 x3 x4 x5) k 20)) 110 2 (nI (k + 20)) (0 + 1 + 1) j = a5 (0 + 1 + 1) j := by rw [hp_o' _ _ (by omega), va_up_ne _ _ (by omega), hp_o' _ _ (by omega)]
        have w3 : hp (va_up (hp a5 110 0 0) 111 (tap (hp a5 110 0 0 111) (xs5 x1 x2 x3 x4 x5) k 20)) 110 2 (nI (k + 20)) (110 + 1) j = tap (hp a5 110 0 0 111) (xs5 x1 x2 x3 x4 x5) k 20 j := by
          rw [hp_o' _ _ (by omega), show (110 + 1 : Nat) = 111 from rfl, va_up_self]
        rw [w2, w3]
        unfold tap
        by_cases cj : j < k
        · rw [if_neg (by omega), fo j cj, hp_n (by omega), f5 111 (by omega) (by omega)]
          exact k4 j cj
        · rw [if_pos ⟨by omega, by omega⟩]
          have := fb (j - k) (by omega)
          rw [show k + (j - k) = j by omega] at this
          exact ⟨this, byt_rg _ _⟩
      · rw [hp_o' _ _ (by omega), va_up_ne _ _ (by omega), hp_o' _ _ (by omega), fj _ (by omega), z0 _ (by omega) (by omega), k5]
      · rw [hp_o' _ _ (by omega), va_up_ne _ _ (by omega), hp_o' _ _ (by omega), fj _ (by omega), z0 _ (by omega) (by omega), k6]
  · refine no_m G0 hB (r := -1) ?_ ?_
    · show p_X9_feed h 0 x1 x2 x3 x4 x5 = _
      unfold p_X9_feed
      rw [if_neg (by rw [k2, e20]; exact nI_ge (a := 900) (by omega) (by omega))]
    · show p_X10_feed h 110 x1 x2 x3 x4 x5 = _
      unfold p_X10_feed
      rw [nv_eq, if_neg (by rw [hp_k _ _ (by omega), k3]; exact nI_ge (a := 880) (by omega) (by omega))]
end Fe
