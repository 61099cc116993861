/-! a sender hears what has ended -/
section Ha
variable {bg rl : Bool} {tb : Nat → Int32} {m y sn Bd n N tk : Nat} {nw ol L : List Nat} {h : Hp} {w : Nat} {S : Nat → Int32}
theorem endOne (R : Rel bg rl tb m y sn Bd n N 200 nw ol L h w S) {s f : Nat} (hf : L[s]? = some f) : p_X1_endedOne h (w + 2) (nI s) = some (nI f, h) := by
  have hsl := (List.getElem?_eq_some_iff.mp hf).1
  have hll : L.length ≤ 200 := Nat.le_trans (nd_len n L R.el.2.2.2.2.1 R.hL2) R.n200
  have c0 : ¬ nI s < 0 := nI_pos (by omega)
  have c1 : ¬ nI L.length ≤ nI s := nI_ge (by omega) (by omega)
  have c2 : ¬ (200 : Int32) ≤ nI s := nI_ge (b := 200) (by omega) (by omega)
  have e := R.el.2.1 s f hf
  rw [Nat.zero_add] at e
  unfold p_X1_endedOne
  rw [if_neg c0, R.el.1, if_neg c1, if_neg c2, if_pos (ib_n (by omega) (by omega)), nI_clamp (by omega), e]
/-- one turn of the reference: it passes over -/
theorem ha_pass (R : Rel bg rl tb m y sn Bd n N 200 nw ol L h w S) {k i f : Nat} (hk : k < sn) (hf : L[i]? = some f) (hp : S (276 + 12 * f + 10) = nI k → S (276 + 12 * f + 11) = 0 → S 0 < S (276 + 12 * f + 7) + S (3478 + 9 * k + 3)) (h0 : Hp) (t l : Int32) (K : Hp × Int32 → Option Hp) : b_X10_hearsAll_2 110 (nI k) K (mt h0 S t l, nI i) = K (mt h0 S t l, nI (i + 1)) := by
  have hs4 := R.sn4
  have hk4 : k < 4 := by omega
  have hil := (List.getElem?_eq_some_iff.mp hf).1
  have hnn := R.n200
  have hll : L.length ≤ 200 := Nat.le_trans (nd_len n L R.el.2.2.2.2.1 R.hL2) hnn
  have hfn := R.hL2 f (List.mem_of_getElem? hf)
  have hf2 : f < 200 := by omega
  have eE : S 3514 = nI L.length := by rw [R.el.2.2.1, lr_200 _ (Nat.le_refl _)]
  have eA : S (3515 + i) = nI f := by
    have := R.el.2.2.2.1
    rw [lr_200 _ (Nat.le_refl _)] at this
    exact this i f hf
  obtain ⟨z1, z2⟩ := ixL (x := 3515 + nI i) (nI_add 3515 i) (by omega)
  have r1 : mt h0 S t l (110 + 6) (3515 + i) = nI f := by rw [mt_r _ _ _ _ (by omega) (by omega), eA]
  unfold b_X10_hearsAll_2
  dsimp only
  rw [if_neg (by rw [mt_r _ _ _ _ (by omega) (by omega), eE]; exact nI_ge (by omega) (by omega)), if_pos z1, z2, r1, nv_eq, m_frameOf_10 h0 S t l hf2, Option.bind_some]
  dsimp only
  by_cases a : S (276 + 12 * f + 10) = nI k
  · rw [if_pos a, m_frameOf_11 h0 S t l hf2, Option.bind_some]
    dsimp only
    by_cases c : S (276 + 12 * f + 11) = 0
    · rw [if_pos c, m_frameOf_7 h0 S t l hf2, Option.bind_some]
      dsimp only
      rw [m_senderOf_3 h0 S t l hk4, Option.bind_some]
      dsimp only
      rw [if_pos (by rw [mt_r _ _ _ _ (by omega) (by omega)]; exact hp a c), nI_1]
    · rw [if_neg c, nI_1]
  · rw [if_neg a, nI_1]
theorem ha_end (R : Rel bg rl tb m y sn Bd n N 200 nw ol L h w S) {k : Nat} (h0 : Hp) (t l : Int32) (K : Hp × Int32 → Option Hp) : b_X10_hearsAll_2 110 (nI k) K (mt h0 S t l, nI L.length) = some (mt h0 S t l) := by
  have hll : L.length ≤ 200 := Nat.le_trans (nd_len n L R.el.2.2.2.2.1 R.hL2) R.n200
  have eE : S 3514 = nI L.length := by rw [R.el.2.2.1, lr_200 _ (Nat.le_refl _)]
  unfold b_X10_hearsAll_2
  dsimp only
  rw [if_pos (by rw [mt_r _ _ _ _ (by omega) (by omega), eE]; exact nI_le (Nat.le_refl _) (by omega))]
theorem hl_sim {k : Nat} (d : Nat) : ∀ {h : Hp} {S : Nat → Int32} {s : Nat}, Rel bg rl tb m y sn Bd n N 200 nw ol L h w S → k < sn → tb (4 + k) = 0 → h (w + 35 + 1 + k) 9 = nI s → s + d = L.length → ∃ h' S', (∀ m, d < m → lp (b_X8_letHear_7 w (nI k) (w + 35 + 1 + k)) m h = some h') ∧ (∀ hm t l m, d < m → lp (b_X10_hearsAll_2 110 (nI k)) m (mt hm S t l, nI s) = some (mt hm S' t l)) ∧ Rel bg rl tb m y sn Bd n N 200 nw ol L h' w S' ∧ (∀ q, q < 276 ∨ (2676 ≤ q ∧ q < 3478) ∨ 3514 ≤ q → S' q = S q) ∧ (∀ f' c, f' < 200 → c < 11 → S' (276 + 12 * f' + c) = S (276 + 12 * f' + c)) ∧ Fr w h h' ∧ (∀ j, h' w j = h w j) := by
  induction d with
  | zero =>
    intro h S s R hk tb0 hse hd
    have hll : L.length ≤ 200 := Nat.le_trans (nd_len n L R.el.2.2.2.2.1 R.hL2) R.n200
    have e : s = L.length := by omega
    subst e
    refine ⟨h, S, fun m hm => ?_, fun h0 t l m hm => ?_, R, fun _ _ => rfl, fun _ _ _ _ => rfl, Fr.refl w h, fun _ => rfl⟩
    · obtain ⟨m', rfl⟩ : ∃ m', m = m' + 1 := ⟨m - 1, by omega⟩
      rw [lp_s]
      unfold b_X8_letHear_7
      rw [if_pos (by rw [R.el.1, hse]; exact nI_le (Nat.le_refl _) (by omega))]
    · obtain ⟨m', rfl⟩ : ∃ m', m = m' + 1 := ⟨m - 1, by omega⟩
      rw [lp_s, ha_end R]
  | succ d ih =>
    intro h S s R hk tb0 hse hd
    have hs4 := R.sn4
    have hk4 : k < 4 := by omega
    have hnn := R.n200
    have hN := R.N5
    have hll : L.length ≤ 200 := Nat.le_trans (nd_len n L R.el.2.2.2.2.1 R.hL2) hnn
    obtain ⟨f, hf⟩ : ∃ f, L[s]? = some f := ⟨_, List.getElem?_eq_getElem (show s < L.length by omega)⟩
    have hfL := List.mem_of_getElem? hf
    have hfn := R.hL2 f hfL
    have hf2 : f < 200 := by omega
    have cib : ib (nI f) 200 := ib_n (by omega) (by omega)
    have ecl : (nI f).toNatClampNeg = f := nI_clamp (by omega)
    obtain ⟨ca, v, hca, hv, hcv, hvN⟩ := (R.fi.1 f hfn).2.2.2.2.2.2.2.1 (((R.el.2.2.2.2.2.1 f).mp hfL).2.2)
    obtain ⟨de, hd1, hd2, hde⟩ := (R.si k hk).2.2.2.1
    have e3 : h (w + 35 + 1 + k) 3 = nI de := (R.ksn.1 k hk 3 (by omega) (by omega)).trans hde
    have e10 : h (w + 2 + 10) f = nI v := (R.f10 hfn (by omega)).trans hv
    have pC : ∀ K : Hp → Option Hp, b_X8_letHear_7 w (nI k) (w + 35 + 1 + k) K h = if h (w + 2 + 10) f + h (w + 35 + 1 + k) 3 ≤ h w 7 then (nv (hp h (w + 35 + 1 + k) 9 (h (w + 35 + 1 + k) 9 + 1)) fun h4 => if ib (nI f) 200 then (if (h4 (w + 2 + 6) (nI f).toNatClampNeg) = nI k then (if ib (nI f) 200 then (if (h4 (w + 2 + 9) (nI f).toNatClampNeg) = 1 then (if ib (nI f) 200 then (if (h4 (w + 2 + 8) (nI f).toNatClampNeg) = 0 then (Option.bind (p_X5_hear h4 (w + 35 + 1 + k) 1 (h4 w 7)) fun r8 => K r8) else (Option.bind (p_X5_hear h4 (w + 35 + 1 + k) 0 (h4 w 7)) fun r9 => K r9)) else none) else (Option.bind (p_X5_hear h4 (w + 35 + 1 + k) 0 (h4 w 7)) fun r10 => K r10)) else none) else (K h4)) else none) else some h := fun K => by
      unfold b_X8_letHear_7
      rw [if_neg (by rw [R.el.1, hse]; exact nI_ge (by omega) (by omega)), hse, endOne R hf, Option.bind_some]
      dsimp only
      rw [has_y R hfn, Option.bind_some]
      dsimp only
      rw [if_neg one_nz, if_pos cib]
      by_cases q : h (w + 2 + 10) f + h (w + 35 + 1 + k) 3 ≤ h w 7
      · rw [if_pos q, if_pos (by rw [ecl]; exact q), hse]
      · rw [if_neg q, if_neg (by rw [ecl]; exact q)]
    by_cases hq : v + de ≤ N
    · have q1 : h (w + 2 + 10) f + h (w + 35 + 1 + k) 3 ≤ h w 7 := by
        rw [e10, e3, R.now, R.i0, nI_add]
        exact nI_le hq (by omega)
      have qm : ¬ S 0 < S (276 + 12 * f + 7) + S (3478 + 9 * k + 3) := by
        rw [hv, hde, R.i0, nI_add]
        exact nI_nlt hq (by omega)
      by_cases hown : S (276 + 12 * f + 10) = nI k
      · obtain ⟨g, hg⟩ : ∃ g : Int32, g = if S (276 + 12 * f + 6) = 1 ∧ S (276 + 12 * f + 5) = 0 then 1 else 0 := ⟨_, rfl⟩
        obtain ⟨h1, S1, aC, aM, R1, a9, af, afr, aF, aw⟩ := hear_sim R hk tb0 hse hf hown hg
        obtain ⟨h', S', iC, iM, iR, jf, jfr, jF, jw⟩ := ih R1 hk tb0 a9 (by omega)
        refine ⟨h', S', fun m hm => ?_, fun h0 t l m hm => ?_, iR, fun q hq => (jf q hq).trans (af q hq), fun f' c a b => (jfr f' c a b).trans (afr f' c a b), aF.trans jF, fun j => (jw j).trans (aw j)⟩
        · obtain ⟨m', rfl⟩ : ∃ m', m = m' + 1 := ⟨m - 1, by omega⟩
          have u6 : hp h (w + 35 + 1 + k) 9 (nI (s + 1)) (w + 2 + 6) (nI f).toNatClampNeg = nI k := by rw [ecl, hp_o' _ _ (by omega), R.f6 hfn, hown]
          have u9 : hp h (w + 35 + 1 + k) 9 (nI (s + 1)) (w + 2 + 9) (nI f).toNatClampNeg = S (276 + 12 * f + 6) := by rw [ecl, hp_o' _ _ (by omega), R.f9 hfn (by omega)]
          have u8 : hp h (w + 35 + 1 + k) 9 (nI (s + 1)) (w + 2 + 8) (nI f).toNatClampNeg = S (276 + 12 * f + 5) := by rw [ecl, hp_o' _ _ (by omega), R.f8 hfn]
          have u7 : hp h (w + 35 + 1 + k) 9 (nI (s + 1)) w 7 = S 0 := by rw [hp_o' _ _ (by omega), R.now]
          rw [lp_s, pC, if_pos q1, hse, nI_1, nv_eq, if_pos cib, if_pos u6, if_pos cib, u7]
          by_cases a : S (276 + 12 * f + 6) = 1
          · rw [if_pos (by rw [u9]; exact a), if_pos cib]
            by_cases c : S (276 + 12 * f + 5) = 0
            · rw [if_pos ⟨a, c⟩] at hg
              rw [hg] at aC
              rw [if_pos (by rw [u8]; exact c), aC, Option.bind_some]
              exact iC m' (by omega)
            · rw [if_neg (fun z => c z.2)] at hg
              rw [hg] at aC
              rw [if_neg (by rw [u8]; exact c), aC, Option.bind_some]
              exact iC m' (by omega)
          · rw [if_neg (fun z => a z.1)] at hg
            rw [hg] at aC
            rw [if_neg (by rw [u9]; exact a), aC, Option.bind_some]
            exact iC m' (by omega)
        · obtain ⟨m', rfl⟩ : ∃ m', m = m' + 1 := ⟨m - 1, by omega⟩
          have eE : S 3514 = nI L.length := by rw [R.el.2.2.1, lr_200 _ (Nat.le_refl _)]
          have eA : S (3515 + s) = nI f := by
            have := R.el.2.2.2.1
            rw [lr_200 _ (Nat.le_refl _)] at this
            exact this s f hf
          obtain ⟨s', x1, x2, x3⟩ := R.eh.1 k hk
          have hss : s' = s := nI_inj (by omega) (by omega) (x2.symm.trans hse)
          subst hss
          have hh0 : S (276 + 12 * f + 11) = 0 := by rw [x3 s' f hf hown, if_neg (by omega)]
          obtain ⟨z1, z2⟩ := ixL (x := 3515 + nI s') (nI_add 3515 s') (by omega)
          have r1 : mt h0 S t l (110 + 6) (3515 + s') = nI f := by rw [mt_r _ _ _ _ (by omega) (by omega), eA]
          rw [lp_s]
          unfold b_X10_hearsAll_2
          dsimp only
          rw [if_neg (by rw [mt_r _ _ _ _ (by omega) (by omega), eE]; exact nI_ge (by omega) (by omega)), if_pos z1, z2, r1, nv_eq, m_frameOf_10 h0 S t l hf2, Option.bind_some]
          dsimp only
          rw [if_pos hown, m_frameOf_11 h0 S t l hf2, Option.bind_some]
          dsimp only
          rw [if_pos hh0, m_frameOf_7 h0 S t l hf2, Option.bind_some]
          dsimp only
          rw [m_senderOf_3 h0 S t l hk4, Option.bind_some]
          dsimp only
          rw [if_neg (by rw [mt_r _ _ _ _ (by omega) (by omega)]; exact qm), aM, Option.bind_some, nI_1]
          exact iM h0 t l m' (by omega)
      · have R1 := R.seenN hk hse hf hown
        obtain ⟨h', S', iC, iM, iR, jf, jfr, jF, jw⟩ := ih R1 hk tb0 (hp_s _ _ _ _) (by omega)
        refine ⟨h', S', fun m hm => ?_, fun h0 t l m hm => ?_, iR, jf, jfr, (Fr.hp _ _ _ (by omega) (by omega) (by omega)).trans jF, fun j => by rw [jw j, hp_o' _ _ (by omega)]⟩
        · obtain ⟨m', rfl⟩ : ∃ m', m = m' + 1 := ⟨m - 1, by omega⟩
          have u6 : ¬ hp h (w + 35 + 1 + k) 9 (nI (s + 1)) (w + 2 + 6) (nI f).toNatClampNeg = nI k := by rw [ecl, hp_o' _ _ (by omega), R.f6 hfn]; exact hown
          rw [lp_s, pC, if_pos q1, hse, nI_1, nv_eq, if_pos cib, if_neg u6]
          exact iC m' (by omega)
        · obtain ⟨m', rfl⟩ : ∃ m', m = m' + 1 := ⟨m - 1, by omega⟩
          rw [lp_s, ha_pass R hk hf (fun a => absurd a hown)]
          exact iM h0 t l m' (by omega)
    · -- it is too early for this one, and so for all behind it
      have q1 : ¬ h (w + 2 + 10) f + h (w + 35 + 1 + k) 3 ≤ h w 7 := by
        rw [e10, e3, R.now, R.i0, nI_add]
        exact nI_ge (by omega) (by omega)
      refine ⟨h, S, fun m hm => ?_, fun h0 t l m hm => ?_, R, fun _ _ => rfl, fun _ _ _ _ => rfl, Fr.refl w h, fun _ => rfl⟩
      · obtain ⟨m', rfl⟩ : ∃ m', m = m' + 1 := ⟨m - 1, by omega⟩
        rw [lp_s, pC, if_neg q1]
      · have hlt : ∀ i g, s ≤ i → L[i]? = some g → S 0 < S (276 + 12 * g + 7) + S (3478 + 9 * k + 3) := fun i g hi hg => by
          have hgL := List.mem_of_getElem? hg
          obtain ⟨ca', v', _, hv', _, hvN'⟩ := (R.fi.1 g (R.hL2 g hgL)).2.2.2.2.2.2.2.1 (((R.el.2.2.2.2.2.1 g).mp hgL).2.2)
          have hvv : v ≤ v' := by
            by_cases e : i = s
            · subst e
              rw [hf] at hg
              have e1 := Option.some.inj hg
              subst e1
              have := nI_inj (by omega) (by omega) (hv.symm.trans hv')
              omega
            · have hp := List.pairwise_iff_getElem.mp R.el.2.2.2.2.2.2.2 s i (by omega) (List.getElem?_eq_some_iff.mp hg).1 (by omega)
              have g1 : L[s]'(by omega) = f := (List.getElem?_eq_some_iff.mp hf).2
              have g2 : L[i]'((List.getElem?_eq_some_iff.mp hg).1) = g := (List.getElem?_eq_some_iff.mp hg).2
              rw [g1, g2] at hp
              unfold wn at hp
              rw [hv, hv', nI_clamp (by omega), nI_clamp (by omega)] at hp
              exact hp
          rw [hv', hde, R.i0, nI_add]
          exact nI_lt (by omega) (by omega)
        have key := lp_for (b := b_X10_hearsAll_2 110 (nI k)) (fun i => (mt h0 S t l, nI (s + i))) (L.length - s) (mt h0 S t l) (fun K i hi => by
            have hg : L[s + i]? = some (L[s + i]'(by omega)) := List.getElem?_eq_getElem (by omega)
            have := ha_pass R hk hg (fun _ _ => hlt (s + i) _ (by omega) hg) h0 t l K
            rw [Nat.add_assoc] at this
            exact this) (fun K => by
            rw [show s + (L.length - s) = L.length by omega]
            exact ha_end R h0 t l K) (L.length - s) 0 m (by omega) (by omega)
        exact key
theorem letHear_sim (R : Rel bg rl tb m y sn Bd n N 200 nw ol L h w S) {k : Nat} (hk : k < sn) (tb0 : tb (4 + k) = 0) : ∃ h' S', p_X8_letHear h w (nI k) = some h' ∧ (∀ hm t l, p_X10_hearsAll (mt hm S t l) 110 (nI k) = some (mt hm S' t l)) ∧ Rel bg rl tb m y sn Bd n N 200 nw ol L h' w S' ∧ (∀ q, q < 276 ∨ (2676 ≤ q ∧ q < 3478) ∨ 3514 ≤ q → S' q = S q) ∧ (∀ f' c, f' < 200 → c < 11 → S' (276 + 12 * f' + c) = S (276 + 12 * f' + c)) ∧ Fr w h h' ∧ (∀ j, h' w j = h w j) := by
  have hs4 := R.sn4
  have hll : L.length ≤ 200 := Nat.le_trans (nd_len n L R.el.2.2.2.2.1 R.hL2) R.n200
  obtain ⟨s, hs, hse, hx⟩ := R.eh.1 k hk
  obtain ⟨h', S', iC, iM, rest⟩ := hl_sim (k := k) (L.length - s) R hk tb0 hse (by omega)
  refine ⟨h', S', ?_, fun h0 t l => ?_, rest⟩
  · unfold p_X8_letHear
    rw [if_pos (ib_n (by omega) (by omega)), nI_clamp (by omega)]
    exact iC FU (FU_gt (by omega))
  · have h1 := lp_skip (b := b_X10_hearsAll_2 110 (nI k)) (fun i => (mt h0 S t l, nI i)) s (fun K i hi => by
        have hg : L[i]? = some (L[i]'(by omega)) := List.getElem?_eq_getElem (by omega)
        refine ha_pass R hk hg (fun a c => ?_) h0 t l K
        rw [hx i _ hg a, if_pos hi] at c
        exact absurd c (by decide)) s 0 (FU - s) (by omega)
    rw [show FU - s + s = FU by unfold FU; omega, nI_0] at h1
    unfold p_X10_hearsAll
    rw [h1]
    exact iM h0 t l (FU - s) (by unfold FU; omega)
end Ha

