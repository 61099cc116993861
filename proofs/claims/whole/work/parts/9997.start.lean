/-! the start -/
theorem kdb : ∀ b : Fin 16, kd (0 + 10 + 16 + 1 + b.val) = 0 := by decide +kernel
theorem start_GR : ∃ h1 h2, p_X10_freshText hM 110 = some h1 ∧ p_X10_begins h1 110 = some h2 ∧ GR 0 (H0 h2) := by
  obtain ⟨T', I', f1, f2, f3⟩ := fresh_m (X := hM) (hM 110) (hM 112) (hM 113) (hM 114) (hM 115)
  rw [mH_eta hM] at f1
  obtain ⟨D, hD⟩ : ∃ D, D = upd (upd (upd (hM 110) 6 0) 8 0) 9 0 := ⟨_, rfl⟩
  rw [← hD] at f1
  have Dn : ∀ j, j ≠ 6 → j ≠ 8 → j ≠ 9 → D j = hM 110 j := fun j h1 h2 h3 => by rw [hD, upd_n _ _ h3, upd_n _ _ h2, upd_n _ _ h1]
  obtain ⟨S, m1, m2, m3, m4, m5, m6⟩ := begins_m (mH hM D T' I' (hM 114) (hM 115)) (sk := 0) (by omega) (by rw [mH_0, hD, upd_n _ _ (by omega), upd_n _ _ (by omega), upd_s]; rfl)
  have t112 : ∀ j, mH hM D T' I' (hM 114) (hM 115) 112 j = T' j := fun j => by rw [show (112 : Nat) = 110 + 2 from rfl, mH_2]
  refine ⟨_, _, f1, m1, ?_⟩
  obtain ⟨h2, hh2⟩ : ∃ h2, h2 = va_up (mH hM D T' I' (hM 114) (hM 115)) 116 S := ⟨_, rfl⟩
  rw [← hh2]
  have r116 : H0 h2 116 = S := by
    funext k
    show h2 116 k = S k
    rw [hh2, va_up_self]
  have r110 : ∀ j, H0 h2 110 j = D j := fun j => by
    show h2 110 j = D j
    rw [hh2, va_up_ne _ _ (by omega), mH_0]
  have q : ∀ o k, o < 110 → H0 h2 o k = HQ o k := fun o k ho => by rw [H0_q ho]
  have s4 : S 4 = 5 := (m3 0 (by omega)).trans ((t112 0).trans (f2 0 (by omega)))
  have s5 : S 5 = 100 := (m3 1 (by omega)).trans ((t112 1).trans (f2 1 (by omega)))
  have s6 : S 6 = 300 := (m3 2 (by omega)).trans ((t112 2).trans (f2 2 (by omega)))
  have s7 : S 7 = 40 := (m3 3 (by omega)).trans ((t112 3).trans (f2 3 (by omega)))
  have s8 : S 8 = 0 := (m3 4 (by omega)).trans ((t112 4).trans (f2 4 (by omega)))
  have s9 : S 9 = 0 := (m3 5 (by omega)).trans ((t112 5).trans (f2 5 (by omega)))
  have s10 : S 10 = 2 := m4.trans ((t112 6).trans (f2 6 (by omega)))
  have s11 : S 11 = 2 := m5.trans ((t112 7).trans (f2 7 (by omega)))
  have wc : WC (H0 h2) (0 + 10) 0 := by
    refine ⟨⟨?_, ?_, ?_, ?_, ?_, ?_, ?_, ?_, ?_, ?_⟩, fun j hj => ?_, fun b hb => ?_⟩
    · rw [q _ _ (by omega)]; decide +kernel
    · rw [q _ _ (by omega)]; decide +kernel
    · rw [q _ _ (by omega)]; decide +kernel
    · rw [q _ _ (by omega)]; decide +kernel
    · rw [q _ _ (by omega)]; decide +kernel
    · rw [q _ _ (by omega)]; decide +kernel
    · rw [q _ _ (by omega)]; decide +kernel
    · rw [q _ _ (by omega)]; decide +kernel
    · rw [q _ _ (by omega)]; decide +kernel
    · rw [q _ _ (by omega)]; decide +kernel
    · rw [q _ _ (by omega)]
      rcases (show j = 0 ∨ j = 1 ∨ j = 2 ∨ j = 3 ∨ j = 4 by omega) with rfl | rfl | rfl | rfl | rfl <;> decide +kernel
    · rw [H0_q (show 0 + 10 + 16 + 1 + b < 110 by omega), HQ_0 (kdb ⟨b, hb⟩)]
      exact ⟨rfl, rfl, rfl, rfl, rfl, rfl, rfl, rfl, rfl, rfl, rfl, rfl, rfl, rfl⟩
  refine ⟨2, 2, 0, 0, 0, [], [], [], ?_, ?_, ?_, ?_, ?_, ?_, ?_, ?_, 0, by omega, ?_, ?_, fun j hj => absurd hj (Nat.not_lt_zero j), ?_, ?_⟩
  · rw [r116]
    refine Rel0 wc m2 (by omega) s10 s11 (by omega) (by omega) (by omega) (by omega) ⟨100, by omega, by omega, s5⟩ ⟨300, by omega, by omega, s6⟩ ⟨0, by omega, by omega, s9⟩ ?_ ?_ ?_ ?_ ?_ ?_ ?_ ?_ (fun k hk => absurd hk (Nat.not_lt_zero k)) (fun k hk => absurd hk (Nat.not_lt_zero k)) trivial
    · rw [q _ _ (by omega), s5]; decide +kernel
    · rw [q _ _ (by omega), s6]; decide +kernel
    · rw [q _ _ (by omega), s8]; decide +kernel
    · rw [q _ _ (by omega), s9]; decide +kernel
    · rw [q _ _ (by omega), s10]; decide +kernel
    · rw [q _ _ (by omega), s11]; decide +kernel
    · rw [q _ _ (by omega)]; decide +kernel
    · rw [q _ _ (by omega)]; decide +kernel
  · exact LSt0 _
  · rw [r116, s4, q _ _ (by omega)]; decide +kernel
  · rw [r116, s7, q _ _ (by omega)]; decide +kernel
  · rw [r116, s4]
    exact ⟨5, by omega, by omega, rfl⟩
  · rw [r116, s7]
    exact ⟨40, by omega, by omega, rfl⟩
  · rw [r110, Dn _ (by omega) (by omega) (by omega)]
    rfl
  · rw [q _ _ (by omega)]; decide +kernel
  · rw [q _ _ (by omega)]; decide +kernel
  · rw [r110, Dn _ (by omega) (by omega) (by omega)]
    rfl
  · rw [q _ _ (by omega), r110, Dn _ (by omega) (by omega) (by omega)]
    decide +kernel
  · rw [q _ _ (by omega), r110, Dn _ (by omega) (by omega) (by omega)]
    decide +kernel
