/-! a world that begins -/
/-- the class's side of a world that begins: cells, and the reference's array -/
def WC (h : Hp) (w sk : Nat) : Prop := (h w 6 = nI sk ∧ h w 7 = 0 ∧ h w 8 = 0 ∧ h w 9 = 0 ∧ h w 10 = 0 ∧ h (w + 2) 13 = 0 ∧ h (w + 2) 14 = 0 ∧ h (w + 33) 1 = 0 ∧ h (w + 33) 2 = 0 ∧ h (w + 40) 3 = 0) ∧ (∀ j, j < 5 → h (w + 2 + 13) j = 0) ∧ (∀ b, b < 16 → h (w + 16 + 1 + b) 0 = -2 ∧ h (w + 16 + 1 + b) 1 = -2 ∧ h (w + 16 + 1 + b) 2 = -2 ∧ h (w + 16 + 1 + b) 3 = 0 ∧ h (w + 16 + 1 + b) 4 = 0 ∧ h (w + 16 + 1 + b) 5 = 0 ∧ h (w + 16 + 1 + b) 6 = 0 ∧ h (w + 16 + 1 + b) 7 = 0 ∧ h (w + 16 + 1 + b) 8 = 0 ∧ h (w + 16 + 1 + b) 9 = 0 ∧ h (w + 16 + 1 + b) 10 = -2 ∧ h (w + 16 + 1 + b) 11 = 65535 ∧ h (w + 16 + 1 + b) 12 = 0 ∧ h (w + 16 + 1 + b) 13 = 0)
def WM (S : Nat → Int32) (sk : Nat) : Prop := (∀ k, k < 4 ∨ (12 ≤ k ∧ k < 68) ∨ (276 ≤ k ∧ k < 3477) ∨ (3514 ≤ k ∧ k < 3715) → S k = 0) ∧ (∀ b c, b < 16 → c < 13 → S (68 + 13 * b + c) = if c = 0 then -2 else if c = 7 then -2 else if c = 8 then 65535 else 0) ∧ S 3477 = nI sk
theorem Rel0 {h : Hp} {w sk m y : Nat} {S : Nat → Int32} (HC : WC h w sk) (HM : WM S sk) (hsk : sk ≤ 4) (s10 : S 10 = nI m) (s11 : S 11 = nI y) (m1 : 1 ≤ m) (m4 : m ≤ 4) (y1 : 1 ≤ y) (y4 : y ≤ 4) (r5 : rg (S 5) 10 999) (r6 : rg (S 6) 50 3000) (r9 : rg (S 9) 0 1500) (c1 : h (w + 1) 1 = S 5) (c2 : h (w + 1) 2 = S 6) (c6 : h (w + 1) 6 = S 8) (c7 : h (w + 1) 7 = S 9) (c3 : h (w + 1) 3 = S 10) (c4 : h (w + 1) 4 = S 11) (l0 : (0 : Int32) ≤ h (w + 1) 0) (l1 : (0 : Int32) ≤ h w 12) (hs : ∀ k, k < sk → (∀ c, c < 5 → h (w + 35 + 1 + k) c = S (3478 + 9 * k + c)) ∧ h (w + 35 + 1 + k) 5 = 0 ∧ S (3478 + 9 * k + 5) = 0 ∧ h (w + 35 + 1 + k) 6 = 0 ∧ S (3478 + 9 * k + 6) = 0 ∧ h (w + 35 + 1 + k) 7 = -2 ∧ S (3478 + 9 * k + 7) = -2 ∧ h (w + 35 + 1 + k) 8 = 0 ∧ S (3478 + 9 * k + 8) = 0 ∧ h (w + 35 + 1 + k) 9 = 0) (hsi : kSI sk S) (hsm : True) : Rel true true (fun _ => 0) m y sk 0 0 0 200 [] [] [] h w S := by
  obtain ⟨⟨e6, e7, e8, e9, e10, e13, e14, l1', l2', w3⟩, tal, bk⟩ := HC
  obtain ⟨z, zb, z7⟩ := HM
  have zz : ∀ k, k < 4 ∨ (12 ≤ k ∧ k < 68) ∨ (276 ≤ k ∧ k < 3477) ∨ (3514 ≤ k ∧ k < 3715) → S k = nI 0 := fun k hk => by rw [z k hk, nI_0]
  have b0 : ∀ b, b < 16 → S (68 + 13 * b + 0) = -2 := fun b hb => by rw [zb b 0 hb (by omega)]; rfl
  have b1 : ∀ b, b < 16 → S (68 + 13 * b + 1) = 0 := fun b hb => by rw [zb b 1 hb (by omega)]; rfl
  have b2 : ∀ b, b < 16 → S (68 + 13 * b + 2) = 0 := fun b hb => by rw [zb b 2 hb (by omega)]; rfl
  have b3 : ∀ b, b < 16 → S (68 + 13 * b + 3) = 0 := fun b hb => by rw [zb b 3 hb (by omega)]; rfl
  have b4 : ∀ b, b < 16 → S (68 + 13 * b + 4) = 0 := fun b hb => by rw [zb b 4 hb (by omega)]; rfl
  have b5 : ∀ b, b < 16 → S (68 + 13 * b + 5) = 0 := fun b hb => by rw [zb b 5 hb (by omega)]; rfl
  have b6 : ∀ b, b < 16 → S (68 + 13 * b + 6) = 0 := fun b hb => by rw [zb b 6 hb (by omega)]; rfl
  have b7 : ∀ b, b < 16 → S (68 + 13 * b + 7) = -2 := fun b hb => by rw [zb b 7 hb (by omega)]; rfl
  have b8 : ∀ b, b < 16 → S (68 + 13 * b + 8) = 65535 := fun b hb => by rw [zb b 8 hb (by omega)]; rfl
  have b9 : ∀ b, b < 16 → S (68 + 13 * b + 9) = 0 := fun b hb => by rw [zb b 9 hb (by omega)]; rfl
  have b12 : ∀ b, b < 16 → S (68 + 13 * b + 12) = 0 := fun b hb => by rw [zb b 12 hb (by omega)]; rfl
  refine ⟨?_, ?_, ?_, ?_, ?_, ?_, ?_, hsi, ?_, ?_, ?_, ?_, ?_, ?_, ?_, ?_, ?_, ?_, ?_, ?_, ?_⟩
  · exact ⟨by rw [e7, z 0 (by omega)], by rw [e13, z 1 (by omega)], by rw [e8, z 2 (by omega)], c1, c2, c6, c7, c3, c4, by rw [e6, z7]⟩
  · intro b hb
    obtain ⟨q0, q1, q2, q3, q4, q5, q6, q7, q8, q9, q10, q11, q12, q13⟩ := bk b hb
    exact ⟨by rw [q0, b0 b hb], by rw [q5, b1 b hb], by rw [q6, b2 b hb], by rw [q7, b3 b hb], by rw [q8, b4 b hb], by rw [q12, b5 b hb], by rw [q9, b6 b hb], by rw [q10, b7 b hb], by rw [q11, b8 b hb], by rw [q4, b12 b hb]⟩
  · intro f hf
    omega
  · refine ⟨fun k hk c hc h5 => ?_, fun k hk => ?_⟩
    · obtain ⟨q0, q1, q2, q3, q4, q5, q6, q7, q8, q9⟩ := hs k hk
      rcases (show c < 5 ∨ c = 6 ∨ c = 7 ∨ c = 8 by omega) with u | rfl | rfl | rfl
      · exact q0 c u
      · rw [q3, q4]
      · rw [q5, q6]
      · rw [q7, q8]
    · obtain ⟨q0, q1, q2, q3, q4, q5, q6, q7, q8, q9⟩ := hs k hk
      rw [q1, q2]
      rfl
  · exact ⟨zz 0 (by omega), zz 1 (by omega), by omega, s10, m1, m4, s11, y1, y4, r5, r6, r9, z7, hsk⟩
  · intro b hb
    refine ⟨?_, ?_, ?_, ?_, ?_, ?_⟩
    · rw [b1 b hb]
      decide
    · rw [b1 b hb]
      decide
    · rw [b3 b hb]
      exact rg_0 _
    · rw [b4 b hb]
      exact rg_0 _
    · rw [b5 b hb]
      exact rg_0 _
    · rw [b8 b hb]
      exact ⟨65535, by omega, by omega, rfl⟩
  · refine ⟨fun f hf => absurd hf (Nat.not_lt_zero f), fun f h1 h2 => ⟨z _ (by omega), z _ (by omega)⟩⟩
  · refine ⟨zz 12 (by omega), zz 13 (by omega), AL.nil _ _, AL.nil _ _, List.nodup_nil, fun b hb => absurd hb (by simp), fun b hb => ?_⟩
    rw [b2 b hb]
    rfl
  · exact ⟨by rw [l1']; rfl, by rw [l2']; rfl, AL.nil _ _⟩
  · intro b hb
    obtain ⟨q0, q1, q2, q3, q4, q5, q6, q7, q8, q9, q10, q11, q12, q13⟩ := bk b hb
    exact ⟨Or.inr ⟨fun g _ h2 => absurd h2 (Nat.not_lt_zero g), q1⟩, Or.inr ⟨fun g h2 => absurd h2 (Nat.not_lt_zero g), q2⟩, by rw [q3]; rfl, by rw [b12 b hb]; rfl⟩
  · refine ⟨fun b f _ hf => absurd hf (Nat.not_lt_zero f), zz 2 (by omega), ?_⟩
    rw [e9, isum_cong (g' := fun _ => 0) (fun b hb => b12 b hb)]
    rfl
  · refine ⟨by rw [e14]; rfl, AL.nil _ _, zz 3514 (by omega), AL.nil _ _, List.nodup_nil, fun f => ⟨fun u => absurd u (by simp), fun u => absurd u.1 (Nat.not_lt_zero f)⟩, fun u => absurd u (by omega), List.Pairwise.nil⟩
  · exact ⟨zz 14 (by omega), AL.nil _ _, zz 15 (by omega), AL.nil _ _, zz 16 (by omega), AL.nil _ _, zz 17 (by omega), AL.nil _ _, Nat.zero_le _, by omega⟩
  · refine ⟨fun k hk => ⟨0, Nat.le_refl _, by rw [(hs k hk).2.2.2.2.2.2.2.2.2]; rfl, fun i f hi => absurd hi (by simp)⟩, fun f hf => absurd hf (Nat.not_lt_zero f)⟩
  · exact ⟨0, by omega, zz 3 (by omega), fun _ => ⟨by rw [w3]; rfl, fun i hi => absurd hi (Nat.not_lt_zero i)⟩, fun u => Bool.noConfusion u⟩
  · exact ⟨by rw [z 14 (by omega), tal 1 (by omega)]; rfl, by rw [z 15 (by omega), tal 2 (by omega)]; rfl, by rw [z 16 (by omega), tal 4 (by omega)]; rfl, by rw [z 17 (by omega), tal 3 (by omega)]; rfl⟩
  · exact ⟨by rw [e10]; exact rg_0 _, fun _ => by rw [e10, z 3476 (by omega)]⟩
  · intro _ b hb
    obtain ⟨q0, q1, q2, q3, q4, q5, q6, q7, q8, q9, q10, q11, q12, q13⟩ := bk b hb
    refine ⟨by rw [b9 b hb]; exact rg_0 _, ⟨0, by rw [q13]; rfl, Nat.le_refl _, fun f hf => absurd hf (Nat.not_lt_zero f)⟩, fun f hf => absurd hf (Nat.not_lt_zero f)⟩
  · exact ⟨[], [], rfl, Nat.zero_le _, rfl, rfl⟩
  · exact ⟨l0, l1⟩
theorem LSt0 (S : Nat → Int32) : LSt 0 [] [] S := fun b f _ hf => absurd hf (Nat.not_lt_zero f)
/-! the reference begins -/
section Bg1
variable {X : Hp}
theorem vu6_hp (X : Hp) (S : Nat → Int32) (k : Nat) (v : Int32) : hp (va_up X 116 S) (110 + 6) k v = va_up X 116 (upd S k v) := by
  unfold hp
  rw [show (110 + 6 : Nat) = 116 from rfl, va_up_self]
  funext j
  by_cases e : j = 116
  · subst e
    rw [va_up_self, va_up_self]
  · rw [va_up_ne _ _ e, va_up_ne _ _ e, va_up_ne _ _ e]
theorem vu_mt (X : Hp) (S : Nat → Int32) : va_up X 116 S = mt X S (S 4) (S 7) := by
  unfold mt
  congr 1
  funext j
  by_cases e7 : j = 7
  · subst e7
    rw [upd_s]
  · rw [upd_n _ _ e7]
    by_cases e4 : j = 4
    · subst e4
      rw [upd_s]
    · rw [upd_n _ _ e4]
theorem vu_mt2 (X : Hp) (S : Nat → Int32) {k : Nat} (v : Int32) (h4 : k ≠ 4) (h7 : k ≠ 7) : mt X (upd S k v) (S 4) (S 7) = va_up X 116 (upd S k v) := by
  rw [vu_mt X (upd S k v), upd_n _ _ (show 4 ≠ k from fun u => h4 u.symm), upd_n _ _ (show 7 ≠ k from fun u => h7 u.symm)]
theorem bg_put (X : Hp) (S : Nat → Int32) {b : Nat} (hb : b < 16) (K : Hp → Option Hp) : (Option.bind (p_X10_puts (va_up X 116 S) 110 (nI b) 0 (-2)) fun r5 => Option.bind (p_X10_puts r5 110 (nI b) 7 (-2)) fun r6 => Option.bind (p_X10_puts r6 110 (nI b) 8 65535) K) = K (va_up X 116 (upd (upd (upd S (68 + 13 * b + 0) (-2)) (68 + 13 * b + 7) (-2)) (68 + 13 * b + 8) 65535)) := by
  rw [vu_mt X S, m_puts_0 X S _ _ _ hb, Option.bind_some, vu_mt2 _ _ _ (by omega) (by omega), vu_mt X (upd S (68 + 13 * b + 0) (-2)), m_puts_7 X _ _ _ _ hb, Option.bind_some, vu_mt2 _ _ _ (by omega) (by omega), vu_mt X (upd (upd S (68 + 13 * b + 0) (-2)) (68 + 13 * b + 7) (-2)), m_puts_8 X _ _ _ _ hb, Option.bind_some, vu_mt2 _ _ _ (by omega) (by omega)]
theorem bg_80 (X : Hp) (dd : Nat) : ∀ (S : Nat → Int32) (i M : Nat), i + dd = 16 → ∃ S', lp (b_X10_begins_80 110) (M + dd) (va_up X 116 S, nI i) = lp (b_X10_begins_80 110) M (va_up X 116 S', nI 16) ∧ (∀ b c, i ≤ b → b < 16 → c < 13 → S' (68 + 13 * b + c) = if c = 0 then -2 else if c = 7 then -2 else if c = 8 then 65535 else S (68 + 13 * b + c)) ∧ ∀ k, k < 68 + 13 * i ∨ 276 ≤ k → S' k = S k := by
  induction dd with
  | zero =>
    intro S i M hi
    have : i = 16 := by omega
    subst this
    exact ⟨S, rfl, fun b c h1 h2 _ => by omega, fun _ _ => rfl⟩
  | succ dd ih =>
    intro S i M hi
    obtain ⟨S', e1, e2, e3⟩ := ih (upd (upd (upd S (68 + 13 * i + 0) (-2)) (68 + 13 * i + 7) (-2)) (68 + 13 * i + 8) 65535) (i + 1) M (by omega)
    refine ⟨S', ?_, fun b c h1 h2 h3 => ?_, fun k hk => ?_⟩
    · rw [← e1, ← Nat.add_assoc, lp_s]
      generalize lp (b_X10_begins_80 110) (M + dd) = K
      unfold b_X10_begins_80
      dsimp +instances only
      rw [if_neg (show ¬ (16 : Int32) ≤ nI i from nI_ge (b := 16) (by omega) (by omega)), bg_put X S (by omega), nI_1]
    · by_cases u : b = i
      · subst u
        rw [e3 _ (by omega)]
        by_cases c0 : c = 0
        · subst c0
          rw [if_pos rfl, upd_n _ _ (by omega), upd_n _ _ (by omega), upd_s]
        · rw [if_neg c0]
          by_cases c7 : c = 7
          · subst c7
            rw [if_pos rfl, upd_n _ _ (by omega), upd_s]
          · rw [if_neg c7]
            by_cases c8 : c = 8
            · subst c8
              rw [if_pos rfl, upd_s]
            · rw [if_neg c8, upd_n _ _ (by omega), upd_n _ _ (by omega), upd_n _ _ (by omega)]
      · rw [e2 b c (by omega) h2 h3, upd_n _ _ (by omega), upd_n _ _ (by omega), upd_n _ _ (by omega)]
    · rw [e3 k (by omega), upd_n _ _ (by omega), upd_n _ _ (by omega), upd_n _ _ (by omega)]
/-- one sender's five cells and one more -/
theorem bg_142 (X : Hp) {k : Nat} (hk : k < 4) (K : Hp × Int32 → Option Hp) (S : Nat → Int32) : ∃ S', lp (b_X10_begins_142 K 110 (nI k)) FU (va_up X 116 S, 0) = K (va_up X 116 S', nI (k + 1)) ∧ (∀ c, c < 5 → S' (3478 + 9 * k + c) = X 114 (5 * k + c)) ∧ S' (3478 + 9 * k + 7) = -2 ∧ ∀ j, j < 3478 + 9 * k ∨ 3478 + 9 * k + 9 ≤ j ∨ j = 3478 + 9 * k + 5 ∨ j = 3478 + 9 * k + 6 ∨ j = 3478 + 9 * k + 8 → S' j = S j := by
  obtain ⟨F, hF⟩ : ∃ F, FU = F + 1 + 1 + 1 + 1 + 1 + 1 := ⟨FU - 6, by have := FU_gt (k := 6) (by omega); omega⟩
  have rd : ∀ (S : Nat → Int32) (c : Nat), va_up X 116 S (110 + 4) c = X 114 c := fun S c => by rw [va_up_ne _ _ (by omega)]
  have st : ∀ (S : Nat → Int32) (c : Nat), c < 5 → ∀ M, lp (b_X10_begins_142 K 110 (nI k)) (M + 1) (va_up X 116 S, nI c) = lp (b_X10_begins_142 K 110 (nI k)) M (va_up X 116 (upd S (3478 + 9 * k + c) (X 114 (5 * k + c))), nI (c + 1)) := fun S c hc M => by
    have sd : p_X10_sends0 (va_up X 116 S) 110 (nI k) (nI c) (X 114 (5 * k + c)) = some (va_up X 116 (upd S (3478 + 9 * k + c) (X 114 (5 * k + c)))) := by
      rw [vu_mt X S, ← vu_mt2 X S _ (show 3478 + 9 * k + c ≠ 4 by omega) (by omega)]
      rcases (show c = 0 ∨ c = 1 ∨ c = 2 ∨ c = 3 ∨ c = 4 by omega) with rfl | rfl | rfl | rfl | rfl
      · exact m_sends0_0 X S _ _ _ hk
      · exact m_sends0_1 X S _ _ _ hk
      · exact m_sends0_2 X S _ _ _ hk
      · exact m_sends0_3 X S _ _ _ hk
      · exact m_sends0_4 X S _ _ _ hk
    rw [lp_s]
    generalize lp (b_X10_begins_142 K 110 (nI k)) M = K'
    unfold b_X10_begins_142
    dsimp +instances only
    rw [if_neg (show ¬ (5 : Int32) ≤ nI c from nI_ge (b := 5) hc (by omega)), show (5 : Int32) * nI k + nI c = nI (5 * k + c) from by rw [show (5 : Int32) = nI 5 from rfl, nI_mul, nI_add]]
    simp only [if_pos (show ib (nI (5 * k + c)) 20 from ib_n (by omega) (by omega)), nI_clamp (show 5 * k + c < 2 ^ 31 by omega)]
    rw [rd, sd, Option.bind_some, nI_1]
  refine ⟨upd (upd (upd (upd (upd (upd S (3478 + 9 * k + 0) (X 114 (5 * k + 0))) (3478 + 9 * k + 1) (X 114 (5 * k + 1))) (3478 + 9 * k + 2) (X 114 (5 * k + 2))) (3478 + 9 * k + 3) (X 114 (5 * k + 3))) (3478 + 9 * k + 4) (X 114 (5 * k + 4))) (3478 + 9 * k + 7) (-2), ?_, fun c hc => ?_, upd_s _ _ _, fun j hj => ?_⟩
  · rw [hF, ← nI_0, st S 0 (by omega), st _ 1 (by omega), st _ 2 (by omega), st _ 3 (by omega), st _ 4 (by omega), lp_s]
    generalize lp (b_X10_begins_142 K 110 (nI k)) F = K'
    unfold b_X10_begins_142
    dsimp +instances only
    rw [if_pos (show (5 : Int32) ≤ nI (4 + 1) by decide), vu_mt X (upd (upd (upd (upd (upd S (3478 + 9 * k + 0) (X 114 (5 * k + 0))) (3478 + 9 * k + 1) (X 114 (5 * k + 1))) (3478 + 9 * k + 2) (X 114 (5 * k + 2))) (3478 + 9 * k + 3) (X 114 (5 * k + 3))) (3478 + 9 * k + 4) (X 114 (5 * k + 4))), m_sends0_7 X _ _ _ _ hk, Option.bind_some, vu_mt2 _ _ _ (by omega) (by omega), nI_1]
  · rcases (show c = 0 ∨ c = 1 ∨ c = 2 ∨ c = 3 ∨ c = 4 by omega) with rfl | rfl | rfl | rfl | rfl <;> simp (disch := omega) only [upd_n, upd_s]
  · simp (disch := omega) only [upd_n]
theorem bg_132 (X : Hp) {sk : Nat} (hsk : sk ≤ 4) (h6 : X 110 6 = nI sk) (dd : Nat) : ∀ (S : Nat → Int32) (k M : Nat), k + dd = sk → dd < M → ∃ S', lp (b_X10_begins_132 110) M (va_up X 116 S, nI k) = some (va_up X 116 S') ∧ (∀ q, k ≤ q → q < sk → (∀ c, c < 5 → S' (3478 + 9 * q + c) = X 114 (5 * q + c)) ∧ S' (3478 + 9 * q + 7) = -2 ∧ S' (3478 + 9 * q + 5) = S (3478 + 9 * q + 5) ∧ S' (3478 + 9 * q + 6) = S (3478 + 9 * q + 6) ∧ S' (3478 + 9 * q + 8) = S (3478 + 9 * q + 8)) ∧ ∀ j, j < 3478 + 9 * k ∨ 3514 ≤ j → S' j = S j := by
  have r6 : ∀ S : Nat → Int32, va_up X 116 S 110 6 = nI sk := fun S => by rw [va_up_ne _ _ (by omega), h6]
  induction dd with
  | zero =>
    intro S k M hk hM
    obtain ⟨M', rfl⟩ : ∃ m', M = m' + 1 := ⟨M - 1, by omega⟩
    refine ⟨S, ?_, fun q h1 h2 => by omega, fun _ _ => rfl⟩
    rw [lp_s]
    unfold b_X10_begins_132
    dsimp +instances only
    rw [r6, if_pos (nI_le (by omega) (by omega))]
  | succ dd ih =>
    intro S k M hk hM
    obtain ⟨M', rfl⟩ : ∃ m', M = m' + 1 := ⟨M - 1, by omega⟩
    obtain ⟨S1, e1, e2, e3, e4⟩ := bg_142 X (k := k) (by omega) (lp (b_X10_begins_132 110) M') S
    obtain ⟨S', f1, f2, f3⟩ := ih S1 (k + 1) M' (by omega) (by omega)
    refine ⟨S', ?_, fun q h1 h2 => ?_, fun j hj => ?_⟩
    · rw [← f1, ← e1, lp_s]
      unfold b_X10_begins_132
      dsimp +instances only
      rw [r6, if_neg (nI_ge (by omega) (by omega))]
    · by_cases u : q = k
      · subst u
        refine ⟨fun c hc => by rw [f3 _ (by omega), e2 c hc], by rw [f3 _ (by omega), e3], by rw [f3 _ (by omega), e4 _ (by omega)], by rw [f3 _ (by omega), e4 _ (by omega)], by rw [f3 _ (by omega), e4 _ (by omega)]⟩
      · obtain ⟨g1, g2, g3, g4, g5⟩ := f2 q (by omega) h2
        exact ⟨g1, g2, by rw [g3, e4 _ (by omega)], by rw [g4, e4 _ (by omega)], by rw [g5, e4 _ (by omega)]⟩
    · rw [f3 j (by omega), e4 j (by omega)]
theorem begins_m (X : Hp) {sk : Nat} (hsk : sk ≤ 4) (h6 : X 110 6 = nI sk) : ∃ S', p_X10_begins X 110 = some (va_up X 116 S') ∧ WM S' sk ∧ (∀ i, i < 6 → S' (4 + i) = X 112 i) ∧ S' 10 = X 112 6 ∧ S' 11 = X 112 7 ∧ ∀ k, k < sk → (∀ c, c < 5 → S' (3478 + 9 * k + c) = X 114 (5 * k + c)) ∧ S' (3478 + 9 * k + 7) = -2 ∧ S' (3478 + 9 * k + 5) = 0 ∧ S' (3478 + 9 * k + 6) = 0 ∧ S' (3478 + 9 * k + 8) = 0 := by
  obtain ⟨S1, hS1⟩ : ∃ S1, S1 = fa_fill (fun _ => (0 : Int32)) (X 116) 3715 := ⟨_, rfl⟩
  have z1 : ∀ k, k < 3715 → S1 k = 0 := fun k hk => by rw [hS1, fa_fill_in hk]
  have r2 : ∀ (S : Nat → Int32) (j : Nat), va_up X 116 S (110 + 2) j = X 112 j := fun S j => by rw [va_up_ne _ _ (by omega)]
  obtain ⟨S2, hS2⟩ : ∃ S2 : Nat → Nat → Int32, S2 = fun i j => if 4 ≤ j ∧ j < 4 + i then X 112 (j - 4) else S1 j := ⟨_, rfl⟩
  have s2s : ∀ i, upd (S2 i) (4 + i) (X 112 i) = S2 (i + 1) := fun i => by
    refine upd_ext ?_ (fun j hj => ?_)
    · rw [hS2]
      show (if 4 ≤ 4 + i ∧ 4 + i < 4 + (i + 1) then X 112 (4 + i - 4) else S1 (4 + i)) = _
      rw [if_pos ⟨by omega, by omega⟩, show 4 + i - 4 = i by omega]
    · rw [hS2]
      show (if 4 ≤ j ∧ j < 4 + (i + 1) then X 112 (j - 4) else S1 j) = (if 4 ≤ j ∧ j < 4 + i then X 112 (j - 4) else S1 j)
      by_cases u : 4 ≤ j ∧ j < 4 + i
      · rw [if_pos u, if_pos ⟨u.1, by omega⟩]
      · rw [if_neg u, if_neg (fun v => u ⟨v.1, by omega⟩)]
  obtain ⟨S3, hS3⟩ : ∃ S3, S3 = upd (upd (S2 6) 10 (X 112 6)) 11 (X 112 7) := ⟨_, rfl⟩
  obtain ⟨F, hF⟩ : ∃ F, FU = F + 1 + 16 := ⟨FU - 17, by have := FU_gt (k := 17) (by omega); omega⟩
  obtain ⟨S4, f1, f2, f3⟩ := bg_80 X 16 S3 0 (F + 1) (by omega)
  obtain ⟨S5, g1, g2, g3⟩ := bg_132 X hsk h6 sk (upd S4 3477 (nI sk)) 0 FU (by omega) (FU_gt (by omega))
  have e24 : lp (b_X10_begins_24 110) FU (va_up X 116 S1, 0) = some (va_up X 116 S5) := by
    have := lp_fo (b := b_X10_begins_24 110) (fun i => (va_up X 116 (S2 i), nI i)) 6 (some (va_up X 116 S5)) (fun K i hi => by
      unfold b_X10_begins_24
      dsimp +instances only
      rw [if_neg (show ¬ (6 : Int32) ≤ nI i from nI_ge (b := 6) hi (by omega)), show (4 : Int32) + nI i = nI (4 + i) from nI_add 4 i]
      simp only [if_pos (show ib (nI i) 8 from ib_n (by omega) (by omega)), if_pos (show ib (nI (4 + i)) 3715 from ib_n (by omega) (by omega)), nI_clamp (show i < 2 ^ 31 by omega), nI_clamp (show 4 + i < 2 ^ 31 by omega)]
      rw [r2, nv_eq, vu6_hp, s2s, nI_1]) (fun K => by
      unfold b_X10_begins_24
      dsimp +instances only
      rw [if_pos (show (6 : Int32) ≤ nI 6 by decide), r2, nv_eq, vu6_hp, r2, nv_eq, vu6_hp, ← hS3, ← nI_0, hF, f1, lp_s]
      generalize lp (b_X10_begins_80 110) F = K'
      unfold b_X10_begins_80
      dsimp +instances only
      rw [if_pos (show (16 : Int32) ≤ nI 16 by decide), va_up_ne _ _ (by omega), h6, nv_eq, vu6_hp]
      rw [nI_0] at g1
      exact g1) 6 0 FU (by omega) (FU_gt (by omega))
    have e0 : S2 0 = S1 := by
      rw [hS2]
      funext j
      show (if 4 ≤ j ∧ j < 4 + 0 then X 112 (j - 4) else S1 j) = S1 j
      rw [if_neg (by omega)]
    rw [e0, nI_0] at this
    exact this
  have s3 : ∀ k, k < 3715 → (k < 4 ∨ 12 ≤ k) → S3 k = 0 := fun k hk h2 => by
    rw [hS3, upd_n _ _ (by omega), upd_n _ _ (by omega), hS2]
    show (if 4 ≤ k ∧ k < 4 + 6 then X 112 (k - 4) else S1 k) = 0
    rw [if_neg (by omega), z1 k hk]
  have s4 : ∀ k, k < 3715 → (k < 4 ∨ (12 ≤ k ∧ k < 68) ∨ 276 ≤ k) → S4 k = 0 := fun k hk h2 => by rw [f3 k (by omega), s3 k hk (by omega)]
  refine ⟨S5, ?_, ⟨fun k hk => ?_, fun b c hb hc => ?_, ?_⟩, fun i hi => ?_, ?_, ?_, fun k hk => ?_⟩
  · unfold p_X10_begins
    have := lp_fo (b := b_X10_begins_2 110) (fun i => (va_up X 116 (fa_fill (fun _ => (0 : Int32)) (X 116) i), nI i)) 3715 (some (va_up X 116 S5)) (fun K i hi => by
      unfold b_X10_begins_2
      dsimp +instances only
      rw [if_neg (show ¬ (3715 : Int32) ≤ nI i from nI_ge (b := 3715) hi (by omega))]
      simp only [if_pos (show ib (nI i) 3715 from ib_n hi (by omega)), nI_clamp (show i < 2 ^ 31 by omega)]
      rw [nv_eq, vu6_hp, fa_fill_succ (fun _ => (0 : Int32)) (X 116) i, nI_1]) (fun K => by
      unfold b_X10_begins_2
      dsimp +instances only
      rw [if_pos (show (3715 : Int32) ≤ nI 3715 by decide), ← hS1]
      exact e24) 3715 0 FU (by omega) (FU_gt (by omega))
    have e0 : va_up X 116 (fa_fill (fun _ => (0 : Int32)) (X 116) 0) = X := by
      rw [fa_fill_0]
      funext j
      by_cases e : j = 116
      · subst e
        rw [va_up_self]
      · rw [va_up_ne _ _ e]
    rw [e0, nI_0] at this
    exact this
  · rw [g3 k (by omega), upd_n _ _ (by omega), s4 k (by omega) (by omega)]
  · rw [g3 _ (by omega), upd_n _ _ (by omega), f2 b c (by omega) hb hc, s3 _ (by omega) (by omega)]
  · rw [g3 _ (by omega), upd_s]
  · rw [g3 _ (by omega), upd_n _ _ (by omega), f3 _ (by omega), hS3, upd_n _ _ (by omega), upd_n _ _ (by omega), hS2]
    show (if 4 ≤ 4 + i ∧ 4 + i < 4 + 6 then X 112 (4 + i - 4) else S1 (4 + i)) = _
    rw [if_pos ⟨by omega, by omega⟩, show 4 + i - 4 = i by omega]
  · rw [g3 _ (by omega), upd_n _ _ (by omega), f3 _ (by omega), hS3, upd_n _ _ (by omega), upd_s]
  · rw [g3 _ (by omega), upd_n _ _ (by omega), f3 _ (by omega), hS3, upd_s]
  · obtain ⟨k1, k2, k3, k4, k5⟩ := g2 k (by omega) hk
    exact ⟨k1, k2, by rw [k3, upd_n _ _ (by omega), s4 _ (by omega) (by omega)], by rw [k4, upd_n _ _ (by omega), s4 _ (by omega) (by omega)], by rw [k5, upd_n _ _ (by omega), s4 _ (by omega) (by omega)]⟩
end Bg1
