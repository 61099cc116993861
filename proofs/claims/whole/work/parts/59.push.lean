/-! serving, in one; pushing out -/
section Pu
variable {bg rl : Bool} {tb : Nat → Int32} {m y sn Bd n N tk : Nat} {nw ol L : List Nat} {h : Hp} {w : Nat} {S : Nat → Int32}
theorem serve_sim (R : Rel bg rl tb m y sn Bd n N 200 nw ol L h w S) (hLS : LSt n nw ol S) : ∃ h' S' L' nw' ol' N' r, p_X8_serve h w = some (r, h') ∧ (∀ hm t l, Tk (h (w + 1) 0) t (h' w 12) → p_X10_serves (mt hm S t l) 110 = some (r, mt hm S' t l)) ∧ Rel bg rl tb m y sn Bd n N' 200 nw' ol' L' h' w S' ∧ LSt n nw' ol' S' ∧ Fr w h h' ∧ h' w 10 = h w 10 ∧ h' w 12 ≤ h w 12 ∧ S' 17 = S 17 ∧ ((∃ f, f < n ∧ r = nI f ∧ fa_cnt (sd S') n + 1 ≤ fa_cnt (sd S) n) ∨ (r = -2 ∧ fa_cnt (sd S') n = 0)) := by
  have hlen := R.li.len R.my
  have hph : sm (phi S) 16 ≤ 1501 * 16 := sm_le fun b hb => by
    have := (R.br b hb).1
    unfold phi
    omega
  obtain ⟨h', S', L', nw', ol', N', r, iC, iM, rest⟩ := serve_lp 30000 (turn := 0) R hLS (by omega) (by omega)
  refine ⟨h', S', L', nw', ol', N', r, ?_, fun hm t l hTk => iM hm t l FU (FU_gt (by omega)) hTk, rest⟩
  have := iC FU (FU_gt (by omega))
  rw [nI_0] at this
  exact this
def bst (S : Nat → Int32) : Nat → Nat
  | 0 => 0
  | 1 => 0
  | i + 2 => if S (68 + 13 * (i + 1) + 12) ≤ S (68 + 13 * bst S (i + 1) + 12) then bst S (i + 1) else i + 1
theorem bst_s (S : Nat → Int32) {i : Nat} (h : 1 ≤ i) : bst S (i + 1) = if S (68 + 13 * i + 12) ≤ S (68 + 13 * bst S i + 12) then bst S i else i := by
  cases i with
  | zero => omega
  | succ i => rfl
theorem bst_lt (S : Nat → Int32) : ∀ i, 1 ≤ i → bst S i < i
  | 0, h => by omega
  | 1, _ => Nat.zero_lt_one
  | i + 2, _ => by
    have := bst_lt S (i + 1) (by omega)
    rw [bst_s S (by omega)]
    split <;> omega
theorem bst_max (S : Nat → Int32) : ∀ i, 1 ≤ i → ∀ j, j < i → S (68 + 13 * j + 12) ≤ S (68 + 13 * bst S i + 12)
  | 0, h, _, _ => by omega
  | 1, _, j, hj => by
    rw [show j = 0 by omega]
    exact Int32.le_refl _
  | i + 2, _, j, hj => by
    have ih := bst_max S (i + 1) (by omega)
    rw [bst_s S (by omega)]
    by_cases e : S (68 + 13 * (i + 1) + 12) ≤ S (68 + 13 * bst S (i + 1) + 12)
    · rw [if_pos e]
      by_cases hj2 : j = i + 1
      · rw [hj2]
        exact e
      · exact ih j (by omega)
    · rw [if_neg e]
      by_cases hj2 : j = i + 1
      · rw [hj2]
        exact Int32.le_refl _
      · exact Int32.le_trans (ih j (by omega)) (fa_of_lt (fa_of_nle e)).1
theorem bsum_le (R : Rel bg rl tb m y sn Bd n N tk nw ol L h w S) (b : Nat) : bsum S b n ≤ 300000 := by
  have h1 : bsum S b n ≤ 1500 * n := sm_le fun f hf => by
    show (if sb S b f then (S (276 + 12 * f + 1)).toNatClampNeg else 0) ≤ 1500
    split
    · obtain ⟨x, _, hx, e⟩ := (R.fi.1 f hf).2.1
      rw [e, nI_clamp (by omega)]
      exact hx
    · omega
  have := R.n200
  omega
theorem push_sim (R : Rel bg rl tb m y sn Bd n N 200 nw ol L h w S) (hc : 0 < fa_cnt (sd S) n) : ∃ h' S' L', p_X8_pushOut h w = some h' ∧ (∀ hm t l, p_X10_pushes (mt hm S t l) 110 = some (mt hm S' t l)) ∧ Rel bg rl tb m y sn Bd n N 200 nw ol L' h' w S' ∧ Fr w h h' ∧ h' w 10 = h w 10 ∧ h' w 12 = h w 12 ∧ (∀ b' g, g < n → sb S' b' g = true → sb S b' g = true) ∧ S' 17 = S 17 + 1 ∧ (∀ k, 68 ≤ k → k < 276 → k ≠ 68 + 13 * bst S (m * y) + 12 → S' k = S k) ∧ (∀ f c, f < n → c = 4 ∨ c = 8 → S' (276 + 12 * f + c) = S (276 + 12 * f + c)) ∧ (∀ b, b < 16 → h' (w + 16 + 1 + b) 13 = h (w + 16 + 1 + b) 13) := by
  have hn := R.n200
  have hmy := R.my
  have hm1 := R.m1
  have hy1 := R.y1
  have hB1 : 1 ≤ m * y := Nat.mul_pos hm1 hy1
  have hbl := bst_lt S (m * y) hB1
  obtain ⟨b, hbe⟩ : ∃ b, b = bst S (m * y) := ⟨_, rfl⟩
  have hb : b < 16 := by omega
  -- some frame stands in the longest
  obtain ⟨f, hf, hs, hmn⟩ : ∃ f, f < n ∧ sb S b f = true ∧ ∀ g, g < f → sb S b g = false := by
    obtain ⟨j, hj, hsj⟩ := cnt_pos hc
    obtain ⟨b0, hb0, e0⟩ := (R.fi.1 j hj).2.2.2.2.1
    have hsb0 : sb S b0 j = true := sb_t.mpr ⟨e0, decide_eq_true_iff.mp hsj⟩
    have hpos : 1 ≤ bsum S b0 n := by
      have h1 := sm_ge (g := fun f => if sb S b0 f then (S (276 + 12 * f + 1)).toNatClampNeg else 0) hj
      obtain ⟨x, hx1, hx, e⟩ := (R.fi.1 j hj).2.1
      simp only [hsb0, if_true, e, nI_clamp (show x < 2 ^ 31 by omega)] at h1
      unfold bsum
      omega
    have hle := bst_max S (m * y) hB1 b0 hb0
    rw [← hbe, (R.cb b0 (by omega)).2.2.2, (R.cb b hb).2.2.2, nI_leI (by have := bsum_le R b0; omega) (by have := bsum_le R b; omega)] at hle
    obtain ⟨j2, hj2, hp2⟩ := sm_pos (g := fun f => if sb S b f then (S (276 + 12 * f + 1)).toNatClampNeg else 0) (n := n) (by unfold bsum at hle hpos; omega)
    have hsb2 : sb S b j2 = true := by
      cases hq : sb S b j2 with
      | true => rfl
      | false =>
        simp only [hq] at hp2
        exact absurd hp2 (by simp)
    have hlt := first_lt ⟨j2, hj2, hsb2⟩
    exact ⟨_, hlt, fa_first_yes _ _ hlt, fun g hg => fa_first_no _ n g hg⟩
  have hf2 : f < 200 := by omega
  obtain ⟨hs1, hs2⟩ := sb_t.mp hs
  have hmk : S (276 + 12 * f + 5) = 0 := (rg01 (R.fi.1 f hf).2.2.2.2.2.1).resolve_right (fun u => by have := (R.fi.1 f hf).2.2.2.2.2.2.2.2.1 u; rw [hs2] at this; exact absurd this (by decide))
  have h1f : h (w + 16 + 1 + b) 1 = nI f := by
    rcases (R.cb b hb).1 with ⟨z, k1, k2, k3, k4, k5⟩ | ⟨k1, k2⟩
    · rcases Nat.lt_trichotomy z f with u | u | u
      · rw [hmn z u] at k3
        cases k3
      · rw [← u]
        exact k5
      · rw [k4 f (by omega) u] at hs
        cases hs
    · rw [k1 f (by omega) hf] at hs
      cases hs
  have hfL : f ∉ L := fun u => ((R.el.2.2.2.2.2.1 f).mp u).2.2 hs2
  have hlen : L.length < n := by
    have := nd_len n (f :: L) (List.nodup_cons.mpr ⟨hfL, R.el.2.2.2.2.1⟩) (fun x hx => by
      rcases List.mem_cons.mp hx with u | u
      · rw [u]; exact hf
      · exact R.hL2 x u)
    rw [List.length_cons] at this
    omega
  obtain ⟨h1, hU, fr, fw, fb, q1, q2, q3, q4, q8, q9⟩ := unlink_c R hb hf h1f
  have R1 := R.tak hb hf hs hmn (Or.inr rfl) fr fw fb q1 q2 q3 q4 q8 q9
  have hM : ∀ h0 t l, p_X10_becomes (mt h0 S t l) 110 (nI f) 3 = some (mt h0 (sBec S f b L.length (nI 3)) t l) := fun h0 t l => m_becomes h0 S t l (nI 3) hf2 hb hs1 (by rw [R.el.2.2.1, lr_200 _ (Nat.le_refl _)]) (by omega)
  have s6 : sBec S f b L.length (nI 3) (276 + 12 * f + 6) = nI 3 := sBec_6 _ _ hf2 hb
  have s5 : sBec S f b L.length (nI 3) (276 + 12 * f + 5) = 0 := by rw [sBec_n _ _ (by omega) (by omega) (by omega) (by omega) (by omega) (by omega), hmk]
  have s17 : sBec S f b L.length (nI 3) 17 = S 17 := sBec_n _ _ (by omega) (by omega) (by omega) (by omega) (by omega) (by omega)
  have sbk : ∀ k, 68 ≤ k → k < 276 → k ≠ 68 + 13 * b + 12 → sBec S f b L.length (nI 3) k = S k := fun k a c d => sBec_n _ _ (by omega) (by omega) d (by omega) (by omega) (by omega)
  have sfr : ∀ g c, g < n → c = 4 ∨ c = 8 → sBec S f b L.length (nI 3) (276 + 12 * g + c) = S (276 + 12 * g + c) := fun g c hg hc => sBec_n _ _ (by omega) (by omega) (by omega) (by omega) (by omega) (by omega)
  have ssb : ∀ b' g, g < n → sb (sBec S f b L.length (nI 3)) b' g = true → sb S b' g = true := fun b' g hg u => by
    by_cases e : g = f
    · subst e
      have := (sb_t.mp u).2
      rw [s6] at this
      exact absurd this (by decide)
    · rw [sb_cong (S := S) (sBec_n _ _ (by omega) (by omega) (by omega) (by omega) (by omega) (by omega)) (sBec_n _ _ (by omega) (by omega) (by omega) (by omega) (by omega) (by omega))] at u
      exact u
  generalize hS1 : sBec S f b L.length (nI 3) = S1 at R1 hM s6 s5 s17 sbk sfr ssb
  have R2 := R1.fin3 hf2 s5
  rw [fa_upd_same s6] at R2
  have hpl : (pl S1 3 L).length < 200 := Nat.lt_of_le_of_lt (List.length_filter_le _ _) (by omega)
  have e17 : S1 17 = nI (pl S1 3 L).length := R1.ep.2.2.2.2.2.2.1
  have hE : p_X1_end h1 (w + 2) (nI f) 3 (h1 w 7) = some (hp (hp (hp (hp (hp h1 (w + 2 + 9) f (nI 3)) (w + 2 + 10) f (nI N)) (w + 2 + 12) L.length (nI f)) (w + 2) 14 (nI (L.length + 1))) (w + 2 + 13) 3 (h1 (w + 2 + 13) 3 + 1)) := by
    rw [R1.now, R1.i0]
    exact end_c R1 hf (by omega) (c := 3) (by omega)
  have hM2 : ∀ h0 t l, p_X10_happens (mt h0 S1 t l) 110 3 (nI f) = some (mt h0 (sHap S1 3 (pl S1 3 L).length f) t l) := fun h0 t l => m_happens h0 S1 t l (k := 3) (by omega) hpl e17
  generalize hh2 : hp (hp (hp (hp (hp h1 (w + 2 + 9) f (nI 3)) (w + 2 + 10) f (nI N)) (w + 2 + 12) L.length (nI f)) (w + 2) 14 (nI (L.length + 1))) (w + 2 + 13) 3 (h1 (w + 2 + 13) 3 + 1) = h2 at R2 hE
  obtain ⟨d, d', nC, nM, R3⟩ := nsim_4 R2 (nI b)
  have hF1 : Fr w h h1 := ⟨fun o ho => funext fun j => fr o j (by omega) (by omega), fun j => fr _ _ (by omega) (by omega)⟩
  have hF2 : Fr w h1 h2 := by
    rw [← hh2]
    exact ((((Fr.hp _ _ _ (by omega) (by omega) (by omega)).trans (Fr.hp _ _ _ (by omega) (by omega) (by omega))).trans (Fr.hp _ _ _ (by omega) (by omega) (by omega))).trans (Fr.hp _ _ _ (by omega) (by omega) (by omega))).trans (Fr.hp _ _ _ (by omega) (by omega) (by omega))
  have hw2 : ∀ j, j ≠ 8 → j ≠ 9 → h2 w j = h w j := fun j a c => by
    rw [← hh2]
    simp (disch := omega) only [hp_o']
    exact fw j a c
  refine ⟨_, _, L ++ [f], ?_, fun h0 t l => ?_, R3, (hF1.trans hF2).trans (Fr.vu _ _ (by omega) (by omega) (by omega)), ?_, ?_, fun b' g hg u => ?_, ?_, fun k a c e => ?_, fun g c hg hc => ?_, fun b' hb' => ?_⟩
  · have cB : nI m * nI y = nI (m * y) := nI_mul m y
    have c16 : ¬ (16 : Int32) < nI (m * y) := nI_nlt (a := 16) (by omega) (by omega)
    have key := lp_for (b := b_X8_pushOut_14 w (nI (m * y))) (fun i => (h, nI (bst S (i + 1)), nI (i + 1))) (m * y - 1) (va_up h2 (w + 40 + 3) d) (fun K i hi => by
        have hbi := bst_lt S (i + 1) (by omega)
        have z1 : ¬ nI (m * y) ≤ nI (i + 1) := nI_ge (by omega) (by omega)
        have z2 : ib (nI (i + 1)) 16 := ib_n (by omega) (by omega)
        have z3 : ib (nI (bst S (i + 1))) 16 := ib_n (by omega) (by omega)
        have z4 : (nI (i + 1)).toNatClampNeg = i + 1 := nI_clamp (by omega)
        have z5 : (nI (bst S (i + 1))).toNatClampNeg = bst S (i + 1) := nI_clamp (by omega)
        unfold b_X8_pushOut_14
        dsimp only
        rw [if_neg z1, if_pos z2, if_pos z3, z4, z5, nI_1]
        rw [bst_s S (show 1 ≤ i + 1 by omega)]
        by_cases e : S (68 + 13 * (i + 1) + 12) ≤ S (68 + 13 * bst S (i + 1) + 12)
        · rw [if_pos (by rw [R.b4 (show i + 1 < 16 by omega), R.b4 (show bst S (i + 1) < 16 by omega)]; exact e), if_pos e]
        · rw [if_neg (by rw [R.b4 (show i + 1 < 16 by omega), R.b4 (show bst S (i + 1) < 16 by omega)]; exact e), if_neg e]) (fun K => by
        have z1 : nI (m * y) ≤ nI (m * y - 1 + 1) := nI_le (by omega) (by omega)
        have z2 : bst S (m * y - 1 + 1) = b := by rw [hbe, show m * y - 1 + 1 = m * y by omega]
        have z3 : ib (nI b) 16 := ib_n (by omega) (by omega)
        have z5 : (nI b).toNatClampNeg = b := nI_clamp (by omega)
        unfold b_X8_pushOut_14
        dsimp only
        rw [if_pos z1, z2, if_pos z3, z5, hU, Option.bind_some]
        dsimp only
        rw [hE, Option.bind_some, nC, Option.bind_some]) (m * y - 1) 0 FU (by omega) (FU_gt (by omega))
    unfold p_X8_pushOut p_X8_bucketCount
    rw [Option.bind_some]
    dsimp only
    rw [R.sets, R.ways, R.i10, R.i11, cB, if_neg c16, nv_eq]
    exact key
  · have r10 : ∀ hm t l, p_X10_buckets (mt hm S t l) 110 = some (nI (m * y), mt hm S t l) := fun hm t l => by rw [m_buckets, R.i10, R.i11, nI_mul]
    have key := lp_for (b := b_X10_pushes_4 110) (fun i => (mt h0 S t l, nI (bst S (i + 1)), nI (i + 1))) (m * y - 1) (mt h0 (wup (sHap S1 3 (pl S1 3 L).length f) d') t l) (fun K i hi => by
        have hbi := bst_lt S (i + 1) (by omega)
        have z1 : ¬ nI (m * y) ≤ nI (i + 1) := nI_ge (by omega) (by omega)
        unfold b_X10_pushes_4
        dsimp only
        rw [r10, Option.bind_some]
        dsimp only
        rw [if_neg z1, m_of_12 h0 S t l (show i + 1 < 16 by omega), Option.bind_some]
        dsimp only
        rw [m_of_12 h0 S t l (show bst S (i + 1) < 16 by omega), Option.bind_some]
        dsimp only
        rw [nI_1, bst_s S (show 1 ≤ i + 1 by omega)]
        by_cases e : S (68 + 13 * (i + 1) + 12) ≤ S (68 + 13 * bst S (i + 1) + 12)
        · rw [if_pos e, if_pos e]
        · rw [if_neg e, if_neg e]) (fun K => by
        have z1 : nI (m * y) ≤ nI (m * y - 1 + 1) := nI_le (by omega) (by omega)
        have z2 : bst S (m * y - 1 + 1) = b := by rw [hbe, show m * y - 1 + 1 = m * y by omega]
        unfold b_X10_pushes_4
        dsimp only
        rw [r10, Option.bind_some]
        dsimp only
        rw [if_pos z1, z2, m_first_y h0 S t l R.i1 hn hf hs hmn, Option.bind_some]
        dsimp only
        rw [hM, Option.bind_some, hM2, Option.bind_some, nM, Option.bind_some]) (m * y - 1) 0 FU (by omega) (FU_gt (by omega))
    exact key
  · rw [vu_o _ _ (by omega), hw2 10 (by omega) (by omega)]
  · rw [vu_o _ _ (by omega), hw2 12 (by omega) (by omega)]
  · refine ssb b' g hg ?_
    rw [sb_cong (S := S1) (by rw [wup_n _ _ (by omega), sHap_n _ (by omega) (by omega)]) (by rw [wup_n _ _ (by omega), sHap_n _ (by omega) (by omega)])] at u
    exact u
  · rw [wup_n _ _ (by omega), show (17 : Nat) = 14 + 3 from rfl, sHap_c, ← nI_1, ← e17, s17]
  · rw [wup_n _ _ (by omega), sHap_n _ (by omega) (by omega), sbk k a c (by rw [hbe]; exact e)]
  · rw [wup_n _ _ (by omega), sHap_n _ (by omega) (by omega), sfr g c hg hc]
  · rw [vu_o _ _ (by omega), ← hh2]
    simp (disch := omega) only [hp_o']
    by_cases e : b' = b
    · rw [e]
      exact fb 13 (by omega) (by omega) (by omega) (by omega)
    · exact fr _ _ (by omega) (by omega)
end Pu

