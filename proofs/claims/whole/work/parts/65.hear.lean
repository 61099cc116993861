/-! hearing -/
theorem lp_skip {β α : Type} {b : (β → Option α) → β → Option α} (e : Nat → β) (s : Nat) (h1 : ∀ (K : β → Option α) (i : Nat), i < s → b K (e i) = K (e (i + 1))) : ∀ (d i m : Nat), i + d = s → lp b (m + d) (e i) = lp b m (e s)
  | 0, i, m, hi => by rw [show i = s by omega]; rfl
  | d + 1, i, m, hi => by
    rw [show m + (d + 1) = (m + d) + 1 from rfl, lp_s, h1 _ i (by omega)]
    exact lp_skip e s h1 d (i + 1) m (by omega)
section He
variable {bg rl : Bool} {tb : Nat → Int32} {m y sn Bd n N tk : Nat} {nw ol L : List Nat} {h : Hp} {w : Nat} {S : Nat → Int32}
theorem hear_sim (R : Rel bg rl tb m y sn Bd n N 200 nw ol L h w S) {k s f : Nat} (hk : k < sn) (tb0 : tb (4 + k) = 0) (hse : h (w + 35 + 1 + k) 9 = nI s) (hfL : L[s]? = some f) (hown : S (276 + 12 * f + 10) = nI k) {g : Int32} (hg : g = if S (276 + 12 * f + 6) = 1 ∧ S (276 + 12 * f + 5) = 0 then 1 else 0) : ∃ h' S', p_X5_hear (hp h (w + 35 + 1 + k) 9 (nI (s + 1))) (w + 35 + 1 + k) g (S 0) = some h' ∧ (∀ hm t l, p_X10_hears (mt hm S t l) 110 (nI k) (nI f) = some (mt hm S' t l)) ∧ Rel bg rl tb m y sn Bd n N 200 nw ol L h' w S' ∧ h' (w + 35 + 1 + k) 9 = nI (s + 1) ∧ (∀ q, q < 276 ∨ (2676 ≤ q ∧ q < 3478) ∨ 3514 ≤ q → S' q = S q) ∧ (∀ f' c, f' < 200 → c < 11 → S' (276 + 12 * f' + c) = S (276 + 12 * f' + c)) ∧ Fr w h h' ∧ (∀ j, h' w j = h w j) := by
  have hs4 := R.sn4
  have hk4 : k < 4 := by omega
  have hnn := R.n200
  have hfn := R.hL2 f (List.mem_of_getElem? hfL)
  have hf2 : f < 200 := by omega
  have R1 := R.seenO hk hse hfL hown
  have s1 : ∀ q, q ≠ 276 + 12 * f + 11 → upd S (276 + 12 * f + 11) 1 q = S q := fun q hq => upd_n _ _ hq
  have hFr : ∀ h0 t l, p_X10_frames (mt h0 S t l) 110 (nI f) 11 1 = some (mt h0 (upd S (276 + 12 * f + 11) 1) t l) := fun h0 t l => m_frames_11 h0 S t l 1 hf2
  have F1 : Fr w h (hp h (w + 35 + 1 + k) 9 (nI (s + 1))) := Fr.hp _ _ _ (by omega) (by omega) (by omega)
  have w1 : ∀ j, hp h (w + 35 + 1 + k) 9 (nI (s + 1)) w j = h w j := fun j => hp_o' _ _ (by omega)
  have k9 : hp h (w + 35 + 1 + k) 9 (nI (s + 1)) (w + 35 + 1 + k) 9 = nI (s + 1) := hp_s _ _ _ _
  generalize hh1 : hp h (w + 35 + 1 + k) 9 (nI (s + 1)) = h1 at R1 F1 w1 k9
  generalize hS1 : upd S (276 + 12 * f + 11) 1 = S1 at R1 s1 hFr
  have c5 : S1 (3478 + 9 * k + 5) = h1 (w + 35 + 1 + k) 5 := by
    have := R1.ksn.2 k hk
    rw [tb0, Int32.add_zero] at this
    exact this
  have c8 : h1 (w + 35 + 1 + k) 8 = S1 (3478 + 9 * k + 8) := R1.ksn.1 k hk 8 (by omega) (by omega)
  have R2 := R1.s5 hk (h1 (w + 35 + 1 + k) 5 - 1)
  rw [tb0, Int32.add_zero] at R2
  have R3 := R2.s8 hk (S1 (3478 + 9 * k + 8) + 1)
  have s3 : ∀ q, q ≠ 3478 + 9 * k + 5 → q ≠ 3478 + 9 * k + 8 → upd (upd S1 (3478 + 9 * k + 5) (h1 (w + 35 + 1 + k) 5 - 1)) (3478 + 9 * k + 8) (S1 (3478 + 9 * k + 8) + 1) q = S1 q := fun q a c => by rw [upd_n _ _ c, upd_n _ _ a]
  have F3 : Fr w h1 (hp (hp h1 (w + 35 + 1 + k) 5 (h1 (w + 35 + 1 + k) 5 - 1)) (w + 35 + 1 + k) 8 (S1 (3478 + 9 * k + 8) + 1)) := (Fr.hp _ _ _ (by omega) (by omega) (by omega)).trans (Fr.hp _ _ _ (by omega) (by omega) (by omega))
  have w3 : ∀ j, hp (hp h1 (w + 35 + 1 + k) 5 (h1 (w + 35 + 1 + k) 5 - 1)) (w + 35 + 1 + k) 8 (S1 (3478 + 9 * k + 8) + 1) w j = h w j := fun j => by rw [hp_o' _ _ (by omega), hp_o' _ _ (by omega), w1]
  have k93 : hp (hp h1 (w + 35 + 1 + k) 5 (h1 (w + 35 + 1 + k) 5 - 1)) (w + 35 + 1 + k) 8 (S1 (3478 + 9 * k + 8) + 1) (w + 35 + 1 + k) 9 = nI (s + 1) := by rw [hp_k _ _ (by decide), hp_k _ _ (by decide), k9]
  have pre : ∀ K : Hp → Option Hp, nv (hp h1 (w + 35 + 1 + k) 5 (h1 (w + 35 + 1 + k) 5 - 1)) (fun h4 => nv (hp h4 (w + 35 + 1 + k) 8 (h4 (w + 35 + 1 + k) 8 + 1)) K) = K (hp (hp h1 (w + 35 + 1 + k) 5 (h1 (w + 35 + 1 + k) 5 - 1)) (w + 35 + 1 + k) 8 (S1 (3478 + 9 * k + 8) + 1)) := fun K => by
    rw [nv_eq, nv_eq, hp_k _ _ (show 8 ≠ 5 by decide), c8]
  have preM : ∀ h0 t l, p_X10_hears (mt h0 S t l) 110 (nI k) (nI f) = Option.bind (p_X10_senderOf (mt h0 (upd (upd S1 (3478 + 9 * k + 5) (h1 (w + 35 + 1 + k) 5 - 1)) (3478 + 9 * k + 8) (S1 (3478 + 9 * k + 8) + 1)) t l) 110 (nI k) 2) fun r13 => Option.bind (p_X10_frameOf r13.2 110 (nI f) 6) fun r14 => if r14.1 = 1 then (Option.bind (p_X10_frameOf r14.2 110 (nI f) 5) fun r15 => if r15.1 = 0 then (if ¬ r13.1 = 0 then (nv (r13.1 + (10000 / r13.1)) fun v17 => if v17 ≤ 2000 then (Option.bind (p_X10_sends0 r15.2 110 (nI k) 2 v17) fun r18 => some r18) else (Option.bind (p_X10_sends0 r15.2 110 (nI k) 2 2000) fun r19 => some r19)) else none) else (q_X10_hears_97 r15.2 110 (nI k) r13.1)) else (q_X10_hears_97 r14.2 110 (nI k) r13.1) := fun h0 t l => by
    have e5 : upd S1 (3478 + 9 * k + 8) (S1 (3478 + 9 * k + 8) + 1) (3478 + 9 * k + 5) = h1 (w + 35 + 1 + k) 5 := by rw [upd_n _ _ (by omega), c5]
    rw [upd_cm S1 (i := 3478 + 9 * k + 5) (j := 3478 + 9 * k + 8) (by omega)]
    unfold p_X10_hears
    rw [hFr, Option.bind_some, m_senderOf_8 h0 S1 t l hk4, Option.bind_some]
    dsimp only
    rw [m_sends0_8 h0 S1 t l _ hk4, Option.bind_some, m_senderOf_5 h0 _ t l hk4, Option.bind_some]
    dsimp only
    rw [e5, m_sends0_5 h0 _ t l _ hk4, Option.bind_some]
  generalize hh3 : hp (hp h1 (w + 35 + 1 + k) 5 (h1 (w + 35 + 1 + k) 5 - 1)) (w + 35 + 1 + k) 8 (S1 (3478 + 9 * k + 8) + 1) = h3 at R3 F3 w3 k93 pre
  generalize hS3 : upd (upd S1 (3478 + 9 * k + 5) (h1 (w + 35 + 1 + k) 5 - 1)) (3478 + 9 * k + 8) (S1 (3478 + 9 * k + 8) + 1) = S3 at R3 s3 preM
  have F13 := F1.trans F3
  have t3 : ∀ q, q < 276 ∨ (2676 ≤ q ∧ q < 3478) ∨ 3514 ≤ q → S3 q = S q := fun q hq => by rw [s3 q (by omega) (by omega), s1 q (by omega)]
  have t3f : ∀ f' c, f' < 200 → c < 11 → S3 (276 + 12 * f' + c) = S (276 + 12 * f' + c) := fun f' c hf' hc => by rw [s3 _ (by omega) (by omega), s1 _ (by omega)]
  obtain ⟨W, hW1, hW2, hWe⟩ := (R3.si k hk).2.2.1
  have c2 : h3 (w + 35 + 1 + k) 2 = nI W := (R3.ksn.1 k hk 2 (by omega) (by omega)).trans hWe
  have c7 : h3 (w + 35 + 1 + k) 7 = S3 (3478 + 9 * k + 7) := R3.ksn.1 k hk 7 (by omega) (by omega)
  have c3 : h3 (w + 35 + 1 + k) 3 = S3 (3478 + 9 * k + 3) := R3.ksn.1 k hk 3 (by omega) (by omega)
  have c6 : h3 (w + 35 + 1 + k) 6 = S3 (3478 + 9 * k + 6) := R3.ksn.1 k hk 6 (by omega) (by omega)
  have e6 : S3 (276 + 12 * f + 6) = S (276 + 12 * f + 6) := t3f f 6 hf2 (by omega)
  have e5 : S3 (276 + 12 * f + 5) = S (276 + 12 * f + 5) := t3f f 5 hf2 (by omega)
  by_cases hgood : S (276 + 12 * f + 6) = 1 ∧ S (276 + 12 * f + 5) = 0
  · rw [if_pos hgood] at hg
    have hdiv : (10000 : Int32) / nI W = nI (10000 / W) := pk_div (a := 10000) (by omega) (by omega) (by omega)
    have hdl : 10000 / W ≤ 100 := by
      have h1 : 10000 / W ≤ 10000 / 100 := Nat.div_le_div_left hW1 (by omega)
      exact Nat.le_trans h1 (by decide)
    obtain ⟨V, hV⟩ : ∃ V, V = (if W + 10000 / W ≤ 2000 then W + 10000 / W else 2000) := ⟨_, rfl⟩
    have hd0 : 0 ≤ 10000 / W := Nat.zero_le _
    have hVr : 100 ≤ V ∧ V ≤ 2000 := by
      rw [hV]
      generalize 10000 / W = D at hdl hd0
      split <;> omega
    have R4 := R3.s2 hk (nI V) ⟨V, hVr.1, hVr.2, rfl⟩
    refine ⟨_, _, ?_, fun h0 t l => ?_, R4, ?_, fun q hq => ?_, fun f' c hf' hc => ?_, F13.trans (Fr.hp _ _ _ (by omega) (by omega) (by omega)), fun j => ?_⟩
    · have hqd : p_X9_quotientDown h3 10000 (nI W) = some (nI (10000 / W), h3) := by
        unfold p_X9_quotientDown
        rw [if_neg (nI_nle (by omega) (by omega)), if_pos (nI_ne0 (by omega) (by omega)), hdiv]
      have hmin : (if 2000 < nI W + nI (10000 / W) then 2000 else nI W + nI (10000 / W)) = nI V := by
        rw [nI_add, hV]
        by_cases e : W + 10000 / W ≤ 2000
        · rw [if_neg (show ¬ (2000 : Int32) < nI (W + 10000 / W) from nI_nlt (a := 2000) e (by omega)), if_pos e]
        · rw [if_pos (show (2000 : Int32) < nI (W + 10000 / W) from nI_lt (a := 2000) (by omega) (by omega)), if_neg e]
          rfl
      unfold p_X5_hear
      rw [pre, hg, if_neg one_nz, c2, hqd, Option.bind_some]
      dsimp only
      rw [hmin, nv_eq]
    · rw [preM, m_senderOf_2 h0 S3 t l hk4, Option.bind_some]
      dsimp only
      rw [m_frameOf_6 h0 S3 t l hf2, Option.bind_some]
      dsimp only
      rw [if_pos (by rw [e6]; exact hgood.1), m_frameOf_5 h0 S3 t l hf2, Option.bind_some]
      dsimp only
      rw [if_pos (by rw [e5]; exact hgood.2), if_pos (by rw [hWe]; exact nI_ne0 (by omega) (by omega)), hWe, hdiv, nI_add, nv_eq]
      by_cases e : W + 10000 / W ≤ 2000
      · rw [if_pos (show nI (W + 10000 / W) ≤ (2000 : Int32) from nI_le (b := 2000) e (by omega)), m_sends0_2 h0 S3 t l _ hk4, Option.bind_some, hV, if_pos e]
      · rw [if_neg (show ¬ nI (W + 10000 / W) ≤ (2000 : Int32) from nI_ge (a := 2000) (by omega) (by omega)), m_sends0_2 h0 S3 t l _ hk4, Option.bind_some, hV, if_neg e]
        rfl
    · rw [hp_k _ _ (by decide), k93]
    · rw [upd_n _ _ (by omega), t3 q hq]
    · rw [upd_n _ _ (by omega), t3f f' c hf' hc]
    · rw [hp_o' _ _ (by omega), w3]
  · rw [if_neg hgood] at hg
    have hM97 : ∀ h0 t l, p_X10_hears (mt h0 S t l) 110 (nI k) (nI f) = q_X10_hears_97 (mt h0 S3 t l) 110 (nI k) (nI W) := fun h0 t l => by
      rw [preM, m_senderOf_2 h0 S3 t l hk4, Option.bind_some]
      dsimp only
      rw [m_frameOf_6 h0 S3 t l hf2, Option.bind_some]
      dsimp only
      by_cases a : S (276 + 12 * f + 6) = 1
      · rw [if_pos (by rw [e6]; exact a), m_frameOf_5 h0 S3 t l hf2, Option.bind_some]
        dsimp only
        rw [if_neg (by rw [e5]; exact fun z => hgood ⟨a, z⟩), hWe]
      · rw [if_neg (by rw [e6]; exact a), hWe]
    have n0 : S3 0 = S 0 := t3 0 (by omega)
    by_cases hcut : S3 (3478 + 9 * k + 7) = -2 ∨ S3 (3478 + 9 * k + 3) ≤ S 0 - S3 (3478 + 9 * k + 7)
    · -- the window is cut
      have hhalf1 : nI W >>> ((1 : Int32) &&& 31) = nI (W / 2) := half_i (by omega)
      have hhalf2 : nI W / (2 : Int32) = nI (W / 2) := pk_div (d := 2) (by omega) (by omega) (by omega)
      obtain ⟨V, hV⟩ : ∃ V, V = (if 100 ≤ W / 2 then W / 2 else 100) := ⟨_, rfl⟩
      have hVr : 100 ≤ V ∧ V ≤ 2000 := by
        rw [hV]
        split <;> omega
      have R4 := ((R3.s2 hk (nI V) ⟨V, hVr.1, hVr.2, rfl⟩).s7 hk (S 0)).s6 hk (S3 (3478 + 9 * k + 6) + 1)
      have e66 : upd (upd S3 (3478 + 9 * k + 2) (nI V)) (3478 + 9 * k + 7) (S 0) (3478 + 9 * k + 6) = S3 (3478 + 9 * k + 6) := by rw [upd_n _ _ (by omega), upd_n _ _ (by omega)]
      refine ⟨_, _, ?_, fun h0 t l => ?_, R4, ?_, fun q hq => ?_, fun f' c hf' hc => ?_, ((F13.trans (Fr.hp _ _ _ (by omega) (by omega) (by omega))).trans (Fr.hp _ _ _ (by omega) (by omega) (by omega))).trans (Fr.hp _ _ _ (by omega) (by omega) (by omega)), fun j => ?_⟩
      · have hmax : (if nI W >>> ((1 : Int32) &&& 31) < 100 then 100 else nI W >>> ((1 : Int32) &&& 31)) = nI V := by
          rw [hhalf1, hV]
          by_cases e : 100 ≤ W / 2
          · rw [if_neg (show ¬ nI (W / 2) < (100 : Int32) from nI_nlt (b := 100) e (by omega)), if_pos e]
          · rw [if_pos (show nI (W / 2) < (100 : Int32) from nI_lt (b := 100) (by omega) (by omega)), if_neg e]
            rfl
        have hq74 : q_X5_hear_74 h3 (w + 35 + 1 + k) (S 0) = some (hp (hp (hp h3 (w + 35 + 1 + k) 2 (nI V)) (w + 35 + 1 + k) 7 (S 0)) (w + 35 + 1 + k) 6 (S3 (3478 + 9 * k + 6) + 1)) := by
          unfold q_X5_hear_74
          rw [c2, hmax, nv_eq, nv_eq, hp_k _ _ (show 6 ≠ 7 by decide), hp_k _ _ (show 6 ≠ 2 by decide), c6, nv_eq]
        unfold p_X5_hear
        rw [pre, hg, if_pos rfl]
        by_cases a : S3 (3478 + 9 * k + 7) = -2
        · rw [if_pos (by rw [c7]; exact a)]
          exact hq74
        · rw [if_neg (by rw [c7]; exact a), if_neg (by rw [c7, c3]; exact fun z => (fa_of_lt z).2.1 (hcut.resolve_left a))]
          exact hq74
      · have hq133 : q_X10_hears_133 (mt h0 S3 t l) 110 (nI k) (nI W) = some (mt h0 (upd (upd (upd S3 (3478 + 9 * k + 2) (nI V)) (3478 + 9 * k + 7) (S 0)) (3478 + 9 * k + 6) (S3 (3478 + 9 * k + 6) + 1)) t l) := by
          have hq152 : q_X10_hears_152 (mt h0 S3 t l) 110 (nI k) 110 (nI k) 2 (nI V) = some (mt h0 (upd (upd (upd S3 (3478 + 9 * k + 2) (nI V)) (3478 + 9 * k + 7) (S 0)) (3478 + 9 * k + 6) (S3 (3478 + 9 * k + 6) + 1)) t l) := by
            have z6 : upd S3 (3478 + 9 * k + 2) (nI V) (3478 + 9 * k + 6) = S3 (3478 + 9 * k + 6) := upd_n _ _ (by omega)
            have z0 : mt h0 (upd (upd S3 (3478 + 9 * k + 2) (nI V)) (3478 + 9 * k + 6) (S3 (3478 + 9 * k + 6) + 1)) t l (110 + 6) 0 = S 0 := by rw [mt_r _ _ _ _ (by omega) (by omega), upd_n _ _ (by omega), upd_n _ _ (by omega), n0]
            unfold q_X10_hears_152
            rw [m_sends0_2 h0 S3 t l _ hk4, Option.bind_some, m_senderOf_6 h0 _ t l hk4, Option.bind_some]
            dsimp only
            rw [z6, m_sends0_6 h0 _ t l _ hk4, Option.bind_some, z0, m_sends0_7 h0 _ t l _ hk4, Option.bind_some, upd_cm _ (i := 3478 + 9 * k + 6) (j := 3478 + 9 * k + 7) (by omega)]
          rw [← hq152]
          unfold q_X10_hears_133
          by_cases e : 100 ≤ W / 2
          · rw [if_pos (by rw [hhalf2]; exact nI_le (a := 100) e (by omega)), hhalf2, hV, if_pos e]
          · rw [if_neg (by rw [hhalf2]; exact nI_ge (b := 100) (by omega) (by omega)), hV, if_neg e]
            rfl
        rw [hM97]
        unfold q_X10_hears_97
        rw [m_senderOf_7 h0 S3 t l hk4, Option.bind_some]
        dsimp only
        by_cases a : S3 (3478 + 9 * k + 7) = -2
        · rw [if_pos a]
          exact hq133
        · rw [if_neg a, m_senderOf_7 h0 S3 t l hk4, Option.bind_some]
          dsimp only
          rw [m_senderOf_3 h0 S3 t l hk4, Option.bind_some]
          dsimp only
          rw [if_pos (by rw [mt_r _ _ _ _ (by omega) (by omega), n0]; exact hcut.resolve_left a)]
          exact hq133
      · rw [hp_k _ _ (by decide), hp_k _ _ (by decide), hp_k _ _ (by decide), k93]
      · rw [upd_n _ _ (by omega), upd_n _ _ (by omega), upd_n _ _ (by omega), t3 q hq]
      · rw [upd_n _ _ (by omega), upd_n _ _ (by omega), upd_n _ _ (by omega), t3f f' c hf' hc]
      · rw [hp_o' _ _ (by omega), hp_o' _ _ (by omega), hp_o' _ _ (by omega), w3]
    · have a1 : ¬ S3 (3478 + 9 * k + 7) = -2 := fun z => hcut (Or.inl z)
      have a2 : ¬ S3 (3478 + 9 * k + 3) ≤ S 0 - S3 (3478 + 9 * k + 7) := fun z => hcut (Or.inr z)
      refine ⟨h3, S3, ?_, fun h0 t l => ?_, R3, k93, t3, t3f, F13, w3⟩
      · unfold p_X5_hear
        rw [pre, hg, if_pos rfl, if_neg (by rw [c7]; exact a1), if_pos (by rw [c7, c3]; exact fa_of_nle a2)]
      · rw [hM97]
        unfold q_X10_hears_97
        rw [m_senderOf_7 h0 S3 t l hk4, Option.bind_some]
        dsimp only
        rw [if_neg a1, m_senderOf_7 h0 S3 t l hk4, Option.bind_some]
        dsimp only
        rw [m_senderOf_3 h0 S3 t l hk4, Option.bind_some]
        dsimp only
        rw [if_neg (by rw [mt_r _ _ _ _ (by omega) (by omega), n0]; exact a2)]
end He

