/-! a line that tells a sender -/
section Lx
variable {h X : Hp} {c O Q d T I Z A : Nat → Int32} {ch : Nat → Nat} {len ln p s : Nat} {P1 P2 : List (List Nat)}
theorem nume_q (f : Int32) (hf : ¬ f = 0) (x : Int32) : q_X10_numeral_46 (mH X (fau d f) T I Z A) 110 x = some (x, mH X (fau d f) T I Z A) := by
  have z : ¬ fau d f 16 = 0 := by rw [fau_16]; exact hf
  unfold q_X10_numeral_46
  rw [if_neg (by rw [mH_0]; exact z), goOn_1 z, Option.bind_some]
theorem nume_y {a lo hi : Nat} (d16 : d 16 = 0) (d14 : d 14 = 1) (d15 : d 15 = nI a) (h1 : lo ≤ a) (h2 : a ≤ hi) (hh : hi < 2 ^ 31) : p_X10_numeral (mH X d T I Z A) 110 (nI lo) (nI hi) = Option.bind (p_X10_token (mH X d T I Z A) 110) fun r2 => some (nI a, r2) := by
  unfold p_X10_numeral
  rw [if_pos (by rw [mH_0]; exact d16), if_pos (by rw [mH_0]; exact d14), mH_0, d15, if_neg (nI_nlt h1 (by omega)), if_pos (nI_le h2 hh)]
  unfold q_X10_numeral_46
  rw [if_pos (by rw [mH_0]; exact d16), nv_eq, mH_0, d15, goOn_0 d16]
theorem nume_2 {a lo hi : Nat} (d16 : d 16 = 0) (d14 : d 14 = 1) (d15 : d 15 = nI a) (h1 : hi < a) (ha : a < 2 ^ 31) (hlo : lo ≤ hi) : p_X10_numeral (mH X d T I Z A) 110 (nI lo) (nI hi) = some (nI lo, mH X (fau d 2) T I Z A) := by
  unfold p_X10_numeral
  rw [if_pos (by rw [mH_0]; exact d16), if_pos (by rw [mH_0]; exact d14), mH_0, d15, if_neg (nI_nlt (by omega) (by omega)), if_neg (nI_ge h1 ha), show p_X10_wrong (mH X d T I Z A) 110 2 = some (mH X (fau d 2) T I Z A) from wrg_0 d16 2, Option.bind_some, nume_q 2 (by decide)]
theorem nume_1 {lo hi : Int32} (d16 : d 16 = 0) (d14 : ¬ d 14 = 1) : p_X10_numeral (mH X d T I Z A) 110 lo hi = some (lo, mH X (fau d 1) T I Z A) := by
  unfold p_X10_numeral
  rw [if_pos (by rw [mH_0]; exact d16), if_neg (by rw [mH_0]; exact d14), show p_X10_wrong (mH X d T I Z A) 110 1 = some (mH X (fau d 1) T I Z A) from wrg_0 d16 1, Option.bind_some, nume_q 1 (by decide)]
def K28 (r20 : Hp) : Option Hp := if (r20 110 16) = 0 then (if (r20 110 14) = 1 then (if 9999 < (r20 110 15) then (q_X10_sender_94 r20 110) else (lp (b_X10_sender_60 110) FU (r20, 0))) else (q_X10_sender_94 r20 110)) else (some r20)
theorem key_step (hT : ∀ j, j < len → h 2 j = nI (ch j) ∧ ch j ≤ 255) (hT2 : ∀ j, j < len → X 111 j = nI (ch j) ∧ ch j ≤ 255) (hl9 : len ≤ 900) (c2 : c 2 = nI len) (d11 : d 11 = nI len) {p0 on sk : Nat} (hp0 : p0 ≤ len) (c3 : c 3 = nI p0) (d12 : d 12 = nI p0) (c10 : c 10 = 0) (d16 : d 16 = 0) (c8 : c 8 = nI on) (ho : on ≤ p0) (hsk : sk < 4) (c14 : c 14 = nI (sk + 1)) (d6 : d 6 = nI sk) (key : Nat → Nat) (hkQ : ∀ k, k < sk → Q k = nI (key k) ∧ key k < 2 ^ 31) (hkZ : ∀ k, k < sk → Z (5 * k) = nI (key k) ∧ key k < 2 ^ 31) : (∃ a c1 d1 p1, a ≤ 9999 ∧ (∀ Kc : Hp → Option Hp, (Option.bind (p_X3_nextToken (cH h c O Q) (0 + 1)) fun r5 => Option.bind (p_X3_readNumber r5 (0 + 1) (nI 8)) Kc) = Kc (cH h c1 (upd O on (nI a)) (upd Q sk (nI a)))) ∧ (Option.bind (p_X10_token (mH X d T I Z A) 110) fun g => Option.bind (K28 g) fun r => q_X10_readLine_59 r 110) = (Option.bind (p_X10_token (mH X d1 T I Z A) 110) fun r2 => S1 (nI (5 * sk)) (nI a, r2)) ∧ c1 8 = nI (on + 1) ∧ c1 3 = nI p1 ∧ d1 12 = nI p1 ∧ p0 < p1 ∧ p1 ≤ len ∧ (∀ j, j < 3 ∨ 8 < j → c1 j = c j) ∧ (∀ j, j < 12 ∨ 15 < j → d1 j = d j)) ∨ (∃ f c1 O1 Q1 d1, ¬ f = 0 ∧ (∀ Kc : Hp → Option Hp, (Option.bind (p_X3_nextToken (cH h c O Q) (0 + 1)) fun r5 => Option.bind (p_X3_readNumber r5 (0 + 1) (nI 8)) Kc) = Kc (cH h c1 O1 Q1)) ∧ (Option.bind (p_X10_token (mH X d T I Z A) 110) fun g => Option.bind (K28 g) fun r => q_X10_readLine_59 r 110) = some (mH X d1 T I Z A) ∧ c1 10 = f ∧ c1 11 = d1 17 ∧ d1 16 = f ∧ d1 22 = d 22) := by
  obtain ⟨p, s, kk, vv, kk', vv', t1, t2, t3, t4, t5, t6, t7⟩ := token_sim (O := O) (Q := Q) (T := T) (I := I) (Z := Z) (A := A) hT hT2 hl9 c2 d11 hp0 c3 d12
  obtain ⟨C, hC⟩ : ∃ C, C = ct c (nI p) kk (nI s) vv := ⟨_, rfl⟩
  obtain ⟨D, hD⟩ : ∃ D, D = md d (nI p) (nI s) kk' vv' := ⟨_, rfl⟩
  have Cn : ∀ j, j < 3 ∨ 6 < j → C j = c j := fun j hj => by rw [hC, ct_n _ _ _ _ _ hj]
  have Dn : ∀ j, j < 12 ∨ 15 < j → D j = d j := fun j hj => by rw [hD, md_n _ _ _ _ _ hj]
  have C4 : C 4 = kk := by rw [hC, ct_4]
  have C5 : C 5 = nI s := by rw [hC, ct_5]
  have C6 : C 6 = vv := by rw [hC, ct_6]
  have D13 : D 13 = nI s := by rw [hD, md_13]
  have D14 : D 14 = kk' := by rw [hD, md_14]
  have D15 : D 15 = vv' := by rw [hD, md_15]
  have C10 : C 10 = 0 := by rw [Cn _ (by omega), c10]
  have D16 : D 16 = 0 := by rw [Dn _ (by omega), d16]
  have C8 : C 8 = nI on := by rw [Cn _ (by omega), c8]
  rw [← hC] at t1
  rw [← hD] at t2
  have bad : ∀ (f : Int32) (Q1 : Nat → Int32), ¬ f = 0 → ∃ c' O', (Option.bind (p_X3_refuse (cH h C O Q1) (0 + 1) f) fun r2 => Option.bind (p_X3_put r2 (0 + 1) (r2 (0 + 1) 6)) fun r3 => some r3) = some (cH h c' O' Q1) ∧ c' 10 = f ∧ c' 11 = nI s := fun f Q1 hf => by
    obtain ⟨c', O', q1, q2⟩ := put_any (h := h) (c := upd (upd C 10 f) 11 (C 5)) (O := O) (Q := Q1) (on := on) (by rw [upd_n _ _ (by omega), upd_n _ _ (by omega), C8]) (by omega) (C 6)
    refine ⟨c', O', ?_, ?_, ?_⟩
    · rw [ref_0 C10, Option.bind_some, cH_1, upd_n _ _ (by omega), upd_n _ _ (by omega), q1, Option.bind_some]
    · rw [q2 _ (by omega), upd_n _ _ (by omega), upd_s]
    · rw [q2 _ (by omega), upd_s, C5]
  have badM : ∀ f : Int32, ¬ f = 0 → (Option.bind (K28 (mH X D T I Z A)) fun r => q_X10_readLine_59 r 110) = some (mH X (upd (fau D f) 10 (fau D f 10 + 1)) T I Z A) → ∀ c1 O1 Q1, p_X3_readNumber (cH h C O Q) (0 + 1) (nI 8) = some (cH h c1 O1 Q1) → c1 10 = f → c1 11 = nI s → (∃ f c1 O1 Q1 d1, ¬ f = 0 ∧ (∀ Kc : Hp → Option Hp, (Option.bind (p_X3_nextToken (cH h c O Q) (0 + 1)) fun r5 => Option.bind (p_X3_readNumber r5 (0 + 1) (nI 8)) Kc) = Kc (cH h c1 O1 Q1)) ∧ (Option.bind (p_X10_token (mH X d T I Z A) 110) fun g => Option.bind (K28 g) fun r => q_X10_readLine_59 r 110) = some (mH X d1 T I Z A) ∧ c1 10 = f ∧ c1 11 = d1 17 ∧ d1 16 = f ∧ d1 22 = d 22) := fun f hf eM c1 O1 Q1 eC e10 e11 => by
    refine ⟨f, c1, O1, Q1, upd (fau D f) 10 (fau D f 10 + 1), hf, fun Kc => ?_, ?_, e10, ?_, ?_, ?_⟩
    · rw [t1, Option.bind_some, eC, Option.bind_some]
    · rw [t2, Option.bind_some, eM]
    · rw [e11, upd_n _ _ (by omega), fau_17, D13]
    · rw [upd_n _ _ (by omega), fau_16]
    · rw [upd_n _ _ (by omega), fau_n _ _ (by omega) (by omega), Dn _ (by omega)]
  have kM : K28 (mH X D T I Z A) = if kk' = 1 then (if 9999 < vv' then (q_X10_sender_94 (mH X D T I Z A) 110) else (lp (b_X10_sender_60 110) FU (mH X D T I Z A, 0))) else (q_X10_sender_94 (mH X D T I Z A) 110) := by
    unfold K28
    rw [if_pos (by rw [mH_0]; exact D16), mH_0, D14, D15]
  have v5 : 5 * mH X D T I Z A 110 6 = nI (5 * sk) := by
    rw [mH_0, Dn _ (by omega), d6]
    exact nI_mul 5 sk
  by_cases k2 : kk = 2
  · obtain ⟨a, a1, a2, a3, a4⟩ : ∃ a, a < 1000000 ∧ vv = nI (min a 100000) ∧ kk' = 1 ∧ vv' = nI a := by
      rcases t7 with ⟨u, _⟩ | ⟨i, _, u, _⟩ | ⟨a, a1, a2, a3, a4, a5⟩ | ⟨u, _⟩ | ⟨u, _⟩
      · rw [k2] at u
        exact absurd u (by decide)
      · rw [k2] at u
        exact absurd u (by decide)
      · exact ⟨a, a1, a3, a4, a5⟩
      · rw [k2] at u
        exact absurd u (by decide)
      · rw [k2] at u
        exact absurd u (by decide)
    have sp : s < p := t6 (by rw [k2]; decide)
    have rC : p_X3_readNumber (cH h C O Q) (0 + 1) (nI 8) = Option.bind (p_X9_fits (cH h C O Q) (nI 8) (nI (min a 100000))) fun r1 => if r1.1 = 0 then (Option.bind (p_X3_refuse r1.2 (0 + 1) 2) fun r2 => Option.bind (p_X3_put r2 (0 + 1) (r2 (0 + 1) 6)) fun r3 => some r3) else (Option.bind (p_X3_isToldKey r1.2 (0 + 1)) fun r4 => if r4.1 = 0 then (Option.bind (p_X3_put r4.2 (0 + 1) (r4.2 (0 + 1) 6)) fun r5 => some r5) else (Option.bind (p_X3_refuse r4.2 (0 + 1) 3) fun r6 => Option.bind (p_X3_put r6 (0 + 1) (r6 (0 + 1) 6)) fun r7 => some r7)) := by
      unfold p_X3_readNumber
      rw [if_pos (by rw [cH_1, C4]; exact k2), cH_1, C6, a2]
      rfl
    by_cases ok : a ≤ 9999
    · have m1 : min a 100000 = a := by omega
      have fy : p_X9_fits (cH h C O Q) (nI 8) (nI a) = some (1, cH h C O Q) := fits_y _ (r := 8) (lo := 0) (hi := 9999) (by omega) rfl rfl (by omega) (by omega) ok (by omega)
      obtain ⟨dc1, dc2⟩ := dup_c (h := h) (c := C) (O := O) (Q := Q) (sk := sk) (a := a) hsk (by rw [Cn _ (by omega), c14]) (by rw [C6, a2, m1]) (by omega) key hkQ
      obtain ⟨dm1, dm2⟩ := dup_m (X := X) (d := D) (T := T) (I := I) (Z := Z) (A := A) (sk := sk) (a := a) (by omega) (by rw [Dn _ (by omega), d6]) (by rw [D15, a4]) D16 (by omega) key hkZ
      rw [if_pos a3, a4, if_neg (show ¬ (9999 : Int32) < nI a from nI_nlt (a := 9999) ok (by omega))] at kM
      by_cases told : ∃ k, k < sk ∧ key k = a
      · obtain ⟨c', O', q1, q2, q3⟩ := bad 3 Q (by decide)
        refine Or.inr (badM 3 (by decide) ?_ c' O' Q ?_ q2 q3)
        · rw [kM, dm2 told, q94_f (by rw [fau_16]; decide)]
        · rw [rC, m1, fy, Option.bind_some]
          dsimp +instances only
          rw [if_neg one_nz, dc2 told, Option.bind_some]
          dsimp +instances only
          rw [if_neg one_nz, q1]
      · have nt : ∀ k, k < sk → key k ≠ a := fun k hk u => told ⟨k, hk, u⟩
        refine Or.inl ⟨a, upd C 8 (nI (on + 1)), D, p, ok, fun Kc => ?_, ?_, upd_s _ _ _, ?_, by rw [hD, md_12], by omega, t5, fun j hj => ?_, Dn⟩
        · rw [t1, Option.bind_some, rC, m1, fy, Option.bind_some]
          dsimp +instances only
          rw [if_neg one_nz, dc1 nt, Option.bind_some]
          dsimp +instances only
          rw [if_pos rfl, cH_1, C6, a2, m1, put_y C8 (by omega), Option.bind_some, Option.bind_some]
        · rw [t2, Option.bind_some, kM, dm1 nt, q94_e, v5, nume_y D16 (by rw [D14, a3]) (by rw [D15, a4]) (by omega) ok (by omega)]
          cases p_X10_token (mH X D T I Z A) 110 <;> rfl
        · rw [upd_n _ _ (by omega), hC, ct_3]
        · rw [upd_n _ _ (by omega), Cn _ (by omega)]
    · obtain ⟨c', O', q1, q2, q3⟩ := bad 2 Q (by decide)
      rw [if_pos a3, a4, if_pos (show (9999 : Int32) < nI a from nI_lt (a := 9999) (by omega) (by omega))] at kM
      refine Or.inr (badM 2 (by decide) ?_ c' O' Q ?_ q2 q3)
      · rw [kM, q94_e, nume_2 D16 (by rw [D14, a3]) (by rw [D15, a4]) (by omega) (by omega) (by omega), Option.bind_some, S1_f _ _ (by rw [fau_16]; decide)]
      · have fn : p_X9_fits (cH h C O Q) (nI 8) (nI (min a 100000)) = some (0, cH h C O Q) := fits_n _ (r := 8) (by omega) (Or.inr (show (9999 : Int32) < nI (min a 100000) from nI_lt (a := 9999) (by omega) (by omega)))
        rw [rC, fn, Option.bind_some]
        dsimp +instances only
        rw [if_pos rfl, q1]
  · have k1 : ¬ kk' = 1 := fun z => by
      rcases t7 with ⟨_, u⟩ | ⟨i, _, _, _, u, _⟩ | ⟨a, _, u, _⟩ | ⟨_, u⟩ | ⟨_, u⟩
      · rw [z] at u
        exact absurd u (by decide)
      · rw [z] at u
        exact absurd u (by decide)
      · exact k2 u
      · rw [z] at u
        exact absurd u (by decide)
      · rw [z] at u
        exact absurd u (by decide)
    obtain ⟨c', O', q1, q2, q3⟩ := bad 1 Q (by decide)
    rw [if_neg k1] at kM
    refine Or.inr (badM 1 (by decide) ?_ c' O' Q ?_ q2 q3)
    · rw [kM, q94_e, nume_1 D16 (by rw [D14]; exact k1), Option.bind_some, S1_f _ _ (by rw [fau_16]; decide)]
    · unfold p_X3_readNumber
      rw [if_neg (by rw [cH_1, C4]; exact k2), q1]
end Lx
