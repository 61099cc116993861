/-! the key of a sender's line -/
section Lk
variable {h X : Hp} {c O Q d T I Z A : Nat → Int32} {ch : Nat → Nat} {len : Nat}
def W5 (v1 a b w x : Int32) (r6 : Int32 × Hp) : Option Hp := Option.bind (if (r6.2 110 16) = 0 then (if ib v1 20 then (nv (hp r6.2 (110 + 4) (Int32.toNatClampNeg v1) a) fun h8 => if ib (v1 + 1) 20 then (nv (hp h8 (110 + 4) (Int32.toNatClampNeg (v1 + 1)) b) fun h10 => if ib (v1 + 2) 20 then (nv (hp h10 (110 + 4) (Int32.toNatClampNeg (v1 + 2)) (100 * w)) fun h12 => if ib (v1 + 3) 20 then (nv (hp h12 (110 + 4) (Int32.toNatClampNeg (v1 + 3)) x) fun h14 => if ib (v1 + 4) 20 then (nv (hp h14 (110 + 4) (Int32.toNatClampNeg (v1 + 4)) r6.1) fun h16 => nv (hp h16 110 6 ((h16 110 6) + 1)) fun h17 => some h17) else none) else none) else none) else none) else none) else (some r6.2)) fun r => q_X10_readLine_59 r 110
def S4 (v1 a b w : Int32) (r5 : Int32 × Hp) : Option Hp := Option.bind (p_X10_numeral r5.2 110 (nI 0) (nI 1)) (W5 v1 a b w r5.1)
def S3 (v1 a b : Int32) (r4 : Int32 × Hp) : Option Hp := Option.bind (p_X10_numeral r4.2 110 (nI 1) (nI 99)) (S4 v1 a b r4.1)
def S2 (v1 a : Int32) (r3 : Int32 × Hp) : Option Hp := Option.bind (p_X10_numeral r3.2 110 (nI 1) (nI 20)) (S3 v1 a r3.1)
def S1 (v1 : Int32) (r2 : Int32 × Hp) : Option Hp := Option.bind (p_X10_numeral r2.2 110 (nI 1) (nI 1500)) (S2 v1 r2.1)
theorem q94_e (g : Hp) : (Option.bind (q_X10_sender_94 g 110) fun r => q_X10_readLine_59 r 110) = Option.bind (p_X10_numeral g 110 (nI 0) (nI 9999)) (S1 (5 * (g 110 6))) := by
  unfold q_X10_sender_94
  rw [nv_eq, show p_X10_numeral g 110 0 9999 = p_X10_numeral g 110 (nI 0) (nI 9999) from rfl]
  cases p_X10_numeral g 110 (nI 0) (nI 9999) with
  | none => rfl
  | some r2 =>
    rw [Option.bind_some, Option.bind_some]
    unfold S1
    rw [show p_X10_numeral r2.2 110 1 1500 = p_X10_numeral r2.2 110 (nI 1) (nI 1500) from rfl]
    cases p_X10_numeral r2.2 110 (nI 1) (nI 1500) with
    | none => rfl
    | some r3 =>
      rw [Option.bind_some, Option.bind_some]
      unfold S2
      rw [show p_X10_numeral r3.2 110 1 20 = p_X10_numeral r3.2 110 (nI 1) (nI 20) from rfl]
      cases p_X10_numeral r3.2 110 (nI 1) (nI 20) with
      | none => rfl
      | some r4 =>
        rw [Option.bind_some, Option.bind_some]
        unfold S3
        rw [show p_X10_numeral r4.2 110 1 99 = p_X10_numeral r4.2 110 (nI 1) (nI 99) from rfl]
        cases p_X10_numeral r4.2 110 (nI 1) (nI 99) with
        | none => rfl
        | some r5 =>
          rw [Option.bind_some, Option.bind_some]
          unfold S4
          rw [show p_X10_numeral r5.2 110 0 1 = p_X10_numeral r5.2 110 (nI 0) (nI 1) from rfl]
          cases p_X10_numeral r5.2 110 (nI 0) (nI 1) with
          | none => rfl
          | some r6 =>
            rw [Option.bind_some, Option.bind_some]
            rfl
theorem W5_f (v1 a b w x v : Int32) (d16 : ¬ d 16 = 0) : W5 v1 a b w x (v, mH X d T I Z A) = some (mH X (upd d 10 (d 10 + 1)) T I Z A) := by
  unfold W5
  rw [if_neg (by dsimp +instances only; rw [mH_0]; exact d16), Option.bind_some, q59_f d16]
theorem S4_f (v1 a b w v : Int32) (d16 : ¬ d 16 = 0) : S4 v1 a b w (v, mH X d T I Z A) = some (mH X (upd d 10 (d 10 + 1)) T I Z A) := by
  unfold S4
  dsimp +instances only
  rw [numeral_1 d16, Option.bind_some, W5_f _ _ _ _ _ _ d16]
theorem S3_f (v1 a b v : Int32) (d16 : ¬ d 16 = 0) : S3 v1 a b (v, mH X d T I Z A) = some (mH X (upd d 10 (d 10 + 1)) T I Z A) := by
  unfold S3
  dsimp +instances only
  rw [numeral_1 d16, Option.bind_some, S4_f _ _ _ _ _ d16]
theorem S2_f (v1 a v : Int32) (d16 : ¬ d 16 = 0) : S2 v1 a (v, mH X d T I Z A) = some (mH X (upd d 10 (d 10 + 1)) T I Z A) := by
  unfold S2
  dsimp +instances only
  rw [numeral_1 d16, Option.bind_some, S3_f _ _ _ _ d16]
theorem S1_f (v1 v : Int32) (d16 : ¬ d 16 = 0) : S1 v1 (v, mH X d T I Z A) = some (mH X (upd d 10 (d 10 + 1)) T I Z A) := by
  unfold S1
  dsimp +instances only
  rw [numeral_1 d16, Option.bind_some, S2_f _ _ _ d16]
theorem q94_f (d16 : ¬ d 16 = 0) : (Option.bind (q_X10_sender_94 (mH X d T I Z A) 110) fun r => q_X10_readLine_59 r 110) = some (mH X (upd d 10 (d 10 + 1)) T I Z A) := by
  rw [q94_e, numeral_1 d16, Option.bind_some, S1_f _ _ d16]
/-- the reference looks whether the key was told -/
theorem dup_m {sk a : Nat} (hsk : sk ≤ 4) (d6 : d 6 = nI sk) (d15 : d 15 = nI a) (d16 : d 16 = 0) (ha : a < 2 ^ 31) (key : Nat → Nat) (hk : ∀ k, k < sk → Z (5 * k) = nI (key k) ∧ key k < 2 ^ 31) : ((∀ k, k < sk → key k ≠ a) → lp (b_X10_sender_60 110) FU (mH X d T I Z A, 0) = q_X10_sender_94 (mH X d T I Z A) 110) ∧ ((∃ k, k < sk ∧ key k = a) → lp (b_X10_sender_60 110) FU (mH X d T I Z A, 0) = q_X10_sender_94 (mH X (fau d 3) T I Z A) 110) := by
  have endq : ∀ (D : Nat → Int32) (K : Hp × Int32 → Option Hp), D 6 = nI sk → b_X10_sender_60 110 K (mH X D T I Z A, nI sk) = q_X10_sender_94 (mH X D T I Z A) 110 := fun D K e => by
    unfold b_X10_sender_60
    dsimp +instances only
    rw [if_pos (by rw [mH_0, e]; exact nI_le (Nat.le_refl _) (by omega))]
  have step : ∀ (D : Nat → Int32) (K : Hp × Int32 → Option Hp) (k : Nat), k < sk → D 6 = nI sk → D 15 = nI a → b_X10_sender_60 110 K (mH X D T I Z A, nI k) = if key k = a then (Option.bind (p_X10_wrong (mH X D T I Z A) 110 3) fun r19 => K (r19, nI (k + 1))) else K (mH X D T I Z A, nI (k + 1)) := fun D K k hks e6 e15 => by
    unfold b_X10_sender_60
    dsimp +instances only
    rw [if_neg (by rw [mH_0, e6]; exact nI_ge hks (by omega)), show (5 : Int32) * nI k = nI (5 * k) from nI_mul 5 k]
    simp only [if_pos (show ib (nI (5 * k)) 20 from ib_n (by omega) (by omega)), nI_clamp (show 5 * k < 2 ^ 31 by omega)]
    rw [mH_4, mH_0, (hk k hks).1, e15, nI_1]
    by_cases u : key k = a
    · rw [if_pos (by rw [u]), if_pos u]
    · rw [if_neg (fun z => u (nI_inj (hk k hks).2 ha z)), if_neg u]
  constructor
  · intro hn
    have := lp_fo (b := b_X10_sender_60 110) (fun k => (mH X d T I Z A, nI k)) sk _ (fun K k hks => by rw [step d K k hks d6 d15, if_neg (hn k hks)]) (fun K => endq d K d6) sk 0 FU (by omega) (FU_gt (by omega))
    rw [nI_0] at this
    exact this
  · rintro hy
    obtain ⟨k0, ⟨k1, k2⟩, k3⟩ := pk_least (fun k => k < sk ∧ key k = a) hy
    have f6 : fau d 3 6 = nI sk := by rw [fau_n _ _ (by omega) (by omega), d6]
    have f15 : fau d 3 15 = nI a := by rw [fau_n _ _ (by omega) (by omega), d15]
    have f16 : ¬ fau d 3 16 = 0 := by rw [fau_16]; decide
    have := lp_fo (b := b_X10_sender_60 110) (fun k => (mH X (if k ≤ k0 then d else fau d 3) T I Z A, nI k)) sk (q_X10_sender_94 (mH X (fau d 3) T I Z A) 110) (fun K k hks => by
      by_cases u : k ≤ k0
      · rw [if_pos u, step d K k hks d6 d15]
        by_cases e : k = k0
        · rw [if_pos (by rw [e]; exact k2), if_neg (by omega), show p_X10_wrong (mH X d T I Z A) 110 3 = some (mH X (fau d 3) T I Z A) from wrg_0 d16 3, Option.bind_some]
        · rw [if_neg (fun z => k3 k (by omega) ⟨hks, z⟩), if_pos (by omega)]
      · rw [if_neg u, if_neg (by omega), step (fau d 3) K k hks f6 f15, wrg_1 f16, Option.bind_some]
        split <;> rfl) (fun K => by rw [if_neg (by omega)]; exact endq (fau d 3) K f6) sk 0 FU (by omega) (FU_gt (by omega))
    rw [if_pos (Nat.zero_le _), nI_0] at this
    exact this
/-- the class looks whether the key was told -/
theorem dup_c {sk a : Nat} (hsk : sk < 4) (c14 : c 14 = nI (sk + 1)) (c6 : c 6 = nI a) (ha : a < 2 ^ 31) (key : Nat → Nat) (hk : ∀ k, k < sk → Q k = nI (key k) ∧ key k < 2 ^ 31) : ((∀ k, k < sk → key k ≠ a) → p_X3_isToldKey (cH h c O Q) (0 + 1) = some (0, cH h c O (upd Q sk (nI a)))) ∧ ((∃ k, k < sk ∧ key k = a) → p_X3_isToldKey (cH h c O Q) (0 + 1) = some (1, cH h c O Q)) := by
  have e0 : p_X3_isToldKey (cH h c O Q) (0 + 1) = lp (b_X3_isToldKey_13 (0 + 1) (nI sk)) FU (cH h c O Q, nI 0) := by
    unfold p_X3_isToldKey
    rw [cH_1, c14, if_neg (show ¬ (4 : Int32) < nI (sk + 1) from nI_nlt (a := 4) (by omega) (by omega)), nv_eq, nI_pred]
    rfl
  have step : ∀ (K : Hp × Int32 → Option (Int32 × Hp)) (k : Nat), k < sk → b_X3_isToldKey_13 (0 + 1) (nI sk) K (cH h c O Q, nI k) = if key k = a then some (1, cH h c O Q) else K (cH h c O Q, nI (k + 1)) := fun K k hks => by
    unfold b_X3_isToldKey_13
    dsimp +instances only
    rw [if_neg (nI_ge hks (by omega))]
    simp only [if_pos (show ib (nI k) 4 from ib_n (by omega) (by omega)), nI_clamp (show k < 2 ^ 31 by omega)]
    rw [cH_4, cH_1, (hk k hks).1, c6, nI_1]
    by_cases u : key k = a
    · rw [if_pos (by rw [u]), if_pos u]
    · rw [if_neg (fun z => u (nI_inj (hk k hks).2 ha z)), if_neg u]
  rw [e0]
  constructor
  · intro hn
    refine lp_fo (b := b_X3_isToldKey_13 (0 + 1) (nI sk)) (fun k => (cH h c O Q, nI k)) sk _ (fun K k hks => by rw [step K k hks, if_neg (hn k hks)]) (fun K => ?_) sk 0 FU (by omega) (FU_gt (by omega))
    unfold b_X3_isToldKey_13
    dsimp +instances only
    rw [if_pos (nI_le (Nat.le_refl _) (by omega)), if_neg (nI_pos (by omega))]
    simp only [if_pos (show ib (nI sk) 4 from ib_n (by omega) (by omega)), nI_clamp (show sk < 2 ^ 31 by omega)]
    rw [nv_eq, cH_1, c6, cH_w4]
  · intro hy
    obtain ⟨k0, ⟨k1, k2⟩, k3⟩ := pk_least (fun k => k < sk ∧ key k = a) hy
    exact lp_fo (b := b_X3_isToldKey_13 (0 + 1) (nI sk)) (fun k => (cH h c O Q, nI k)) k0 _ (fun K k hks => by rw [step K k (by omega), if_neg (fun z => k3 k hks ⟨by omega, z⟩)]) (fun K => by rw [step K k0 k1, if_pos k2]) k0 0 FU (by omega) (FU_gt (by omega))
end Lk
