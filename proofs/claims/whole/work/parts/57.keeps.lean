/-! what the keeper gives out; the lists turn -/
theorem cnt_le' (p : Nat → Bool) (n : Nat) : fa_cnt p n ≤ n := fa_cnt_le p n
theorem m2_ne {f : Nat} (hf : f < 2 ^ 31) : ¬ nI f = -1 := fun u => by
  have := nI_pos (n := f) hf
  rw [u] at this
  exact this (by decide)
section Ke
variable {bg rl : Bool} {tb : Nat → Int32} {m y sn Bd n N tk : Nat} {nw ol L : List Nat} {h : Hp} {w : Nat} {S : Nat → Int32}
theorem keep_sim (R : Rel bg rl tb m y sn Bd n N 200 nw ol L h w S) {b : Nat} (hb : b < 16) : ∃ h' S' L' r r', p_X8_keep h w (w + 16 + 1 + b) = some (r, h') ∧ (∀ hm t l, Tk (h (w + 1) 0) t (h' w 12) → p_X10_keeps (mt hm S t l) 110 (nI b) = some (r', mt hm S' t l)) ∧ ((∃ f, f < n ∧ r = nI f ∧ r' = nI f ∧ Rel bg rl tb m y sn Bd n N f nw ol L' h' w S' ∧ S' (276 + 12 * f + 6) = 1 ∧ fa_cnt (sd S') n + 1 ≤ fa_cnt (sd S) n) ∨ (r = -2 ∧ r' = -1 ∧ Rel bg rl tb m y sn Bd n N 200 nw ol L' h' w S' ∧ ∀ g, g < n → sb S' b g = false)) ∧ Kc w n h S h' S' := by
  have hn := R.n200
  rcases take_sim R hb with ⟨h1, S1, f, tC, tM, T⟩ | ⟨h1, S1, tC, tM, T⟩
  · have K1 := took_kc T
    obtain ⟨hf, R1, t6, t5, t11, trg, tF, tx10, tx12, tdf, tcn, t14, tmo⟩ := T
    have hf2 : f < 200 := by omega
    have hT : h1 (w + 1) 0 = h (w + 1) 0 := tF.2 0
    have pC : p_X8_keep h w (w + 16 + 1 + b) = if (h1 (w + 16 + 1 + b) 12) = 0 then (if (h1 w 11) = 0 then (some (nI f, h1)) else (Option.bind (p_X8_dropFirst h1 w (w + 16 + 1 + b) (nI f)) fun r2 => some (r2.1, r2.2))) else (if (h1 w 11) = 0 then (nv (hp h1 (w + 16 + 1 + b) 12 0) fun h3 => some (nI f, h3)) else (Option.bind (p_X8_dropMore h1 w (w + 16 + 1 + b) (nI f)) fun r4 => some (r4.1, r4.2))) := by
      unfold p_X8_keep
      rw [tC, Option.bind_some]
    have pM : ∀ h0 t l, Tk (h (w + 1) 0) t (h1 w 12) → p_X10_keeps (mt h0 S t l) 110 (nI b) = if S1 (68 + 13 * b + 5) = 1 then (Option.bind (p_X10_of (mt h0 S1 t l) 110 (nI b) 11) fun r3 => if r3.1 = 0 then (Option.bind (p_X10_puts r3.2 110 (nI b) 5 0) fun r4 => some (nI f, r4)) else (Option.bind (p_X10_dropsOn r3.2 110 (nI b) (nI f)) fun r5 => some (r5.1, r5.2))) else (Option.bind (p_X10_of (mt h0 S1 t l) 110 (nI b) 11) fun r6 => if r6.1 = 1 then (Option.bind (p_X10_dropsFirst r6.2 110 (nI b) (nI f)) fun r7 => some (r7.1, r7.2)) else (some (nI f, r6.2))) := fun h0 t l hTk => by
      unfold p_X10_keeps
      rw [tM h0 t l hTk, Option.bind_some]
      dsimp only
      rw [m_of_5 h0 S1 t l hb, Option.bind_some]
    rcases rg01 (R1.br b hb).2.2.2.2.1 with hd | hd
    · have e12 : h1 (w + 16 + 1 + b) 12 = 0 := by rw [R1.b12 hb, hd]
      have n5 : ¬ S1 (68 + 13 * b + 5) = 1 := by rw [hd]; decide
      rcases rg01 trg with hl | hl
      · refine ⟨h1, S1, L, nI f, nI f, ?_, fun h0 t l hTk => ?_, Or.inl ⟨f, hf, rfl, rfl, R1, t6, Nat.le_of_eq tcn⟩, K1⟩
        · rw [pC, if_pos e12, if_pos hl]
        · rw [pM h0 t l hTk, if_neg n5, m_of_11 h0 S1 t l hb, Option.bind_some]
          dsimp only
          rw [if_neg (by rw [← t11, hl]; decide)]
      · -- the first drop
        have nl : ¬ h1 w 11 = 0 := by rw [hl]; decide
        have cib : ib (nI f) 200 := ib_n (by omega) (by omega)
        have hmay : h1 (w + 2 + 3) (nI f).toNatClampNeg = S1 (276 + 12 * f + 2) := by rw [nI_clamp (by omega)]; exact R1.f3 hf
        rcases rg01 (R1.fi.1 f hf).2.2.1 with hmy | hmy
        · have hm0 : ¬ S1 (276 + 12 * f + 2) = 1 := by rw [hmy]; decide
          obtain ⟨h3, S3, dC, dM, R3, F3, x10, x11, x12, Sd3, cn3, x17, mo3⟩ := drop_sim R1 hf2 t5
          have K3 : Kc w n h1 S1 h3 S3 := ⟨F3, x10, by rw [x12]; exact Int32.le_refl _, fun b' hb' => Sd3 _ (by omega), Nat.le_of_eq cn3, mo3, x17⟩
          have F13 := (K1.trans K3).1
          rcases take_sim R3 hb with ⟨h4, S4, g, uC, uM, T⟩ | ⟨h4, S4, uC, uM, T⟩
          · have K4 := took_kc T
            obtain ⟨hg, R4, v6, v5, v11, vrg, vF, vx10, vx12, vdf, vcn, v14, vmo⟩ := T
            obtain ⟨h5, S5, fC, fM, R5, K5, F5⟩ := df_sim R4 hb (nI g) (nI g)
            have K35 := ((K1.trans K3).trans K4).trans K5
            have cc5 := K5.2.2.2.2.1
            refine ⟨h5, S5, L ++ [f], nI g, nI g, ?_, fun h0 t l hTk => ?_, Or.inl ⟨g, hg, rfl, rfl, R5, by rw [F5 _ (by omega), v6], by omega⟩, K35⟩
            · rw [pC, if_pos e12, if_neg nl]
              unfold p_X8_dropFirst
              rw [has_y R1 hf, Option.bind_some]
              dsimp only
              rw [if_neg one_nz, if_pos cib, if_neg (by rw [hmay]; exact hm0), dC, Option.bind_some, uC, Option.bind_some]
              dsimp only
              rw [fC, Option.bind_some]
            · have hTk1 : Tk (h (w + 1) 0) t (h1 w 12) := hTk.mono (Int32.le_trans ((K3.trans K4).trans K5).2.2.1 (Int32.le_refl _))
              have hTk4 : Tk (h3 (w + 1) 0) t (h4 w 12) := by
                rw [show h3 (w + 1) 0 = h (w + 1) 0 from F13.2 0]
                exact hTk.mono K5.2.2.1
              rw [pM h0 t l hTk1, if_neg n5, m_of_11 h0 S1 t l hb, Option.bind_some]
              dsimp only
              rw [if_pos (by rw [← t11, hl])]
              unfold p_X10_dropsFirst
              rw [m_frameOf_2 h0 S1 t l hf2, Option.bind_some]
              dsimp only
              rw [if_neg hm0, dM, Option.bind_some, uM h0 t l hTk4, Option.bind_some]
              dsimp only
              rw [fM, Option.bind_some]
          · have K4 := tnone_kc T
            obtain ⟨R4, vl, vl2, vF, vx10, vx12, vdf, vcn, v14, vmo, vno⟩ := T
            obtain ⟨h5, S5, fC, fM, R5, K5, F5⟩ := df_sim R4 hb (-2) (-1)
            have K35 := ((K1.trans K3).trans K4).trans K5
            refine ⟨h5, S5, L ++ [f], -2, -1, ?_, fun h0 t l hTk => ?_, Or.inr ⟨rfl, rfl, R5, fun g hg => by rw [sb_cong (S := S4) (F5 _ (by omega)) (F5 _ (by omega))]; exact vno g hg⟩, K35⟩
            · rw [pC, if_pos e12, if_neg nl]
              unfold p_X8_dropFirst
              rw [has_y R1 hf, Option.bind_some]
              dsimp only
              rw [if_neg one_nz, if_pos cib, if_neg (by rw [hmay]; exact hm0), dC, Option.bind_some, uC, Option.bind_some]
              dsimp only
              rw [fC, Option.bind_some]
            · have hTk1 : Tk (h (w + 1) 0) t (h1 w 12) := hTk.mono ((K3.trans K4).trans K5).2.2.1
              rw [pM h0 t l hTk1, if_neg n5, m_of_11 h0 S1 t l hb, Option.bind_some]
              dsimp only
              rw [if_pos (by rw [← t11, hl])]
              unfold p_X10_dropsFirst
              rw [m_frameOf_2 h0 S1 t l hf2, Option.bind_some]
              dsimp only
              rw [if_neg hm0, dM, Option.bind_some, uM h0 t l, Option.bind_some]
              dsimp only
              rw [fM, Option.bind_some]
        · obtain ⟨h3, S3, kC, kM, R3, F3, x10, x11, x12, Sd3, cn3, x17, m6, mo3⟩ := mark_sim R1 hf2 t5 t6
          have K3 : Kc w n h1 S1 h3 S3 := ⟨F3, x10, by rw [x12]; exact Int32.le_refl _, fun b' hb' => Sd3 _ (by omega), Nat.le_of_eq cn3, mo3, x17⟩
          obtain ⟨h5, S5, fC, fM, R5, K5, F5⟩ := df_sim R3 hb (nI f) (nI f)
          have cc5 := K5.2.2.2.2.1
          refine ⟨h5, S5, L, nI f, nI f, ?_, fun h0 t l hTk => ?_, Or.inl ⟨f, hf, rfl, rfl, R5, by rw [F5 _ (by omega), m6], by omega⟩, (K1.trans K3).trans K5⟩
          · rw [pC, if_pos e12, if_neg nl]
            unfold p_X8_dropFirst
            rw [has_y R1 hf, Option.bind_some]
            dsimp only
            rw [if_neg one_nz, if_pos cib, if_pos (by rw [hmay]; exact hmy), kC, Option.bind_some, fC, Option.bind_some]
          · have hTk1 : Tk (h (w + 1) 0) t (h1 w 12) := hTk.mono (K3.trans K5).2.2.1
            rw [pM h0 t l hTk1, if_neg n5, m_of_11 h0 S1 t l hb, Option.bind_some]
            dsimp only
            rw [if_pos (by rw [← t11, hl])]
            unfold p_X10_dropsFirst
            rw [m_frameOf_2 h0 S1 t l hf2, Option.bind_some]
            dsimp only
            rw [if_pos hmy, kM, Option.bind_some, fM, Option.bind_some]
    · have e12 : ¬ h1 (w + 16 + 1 + b) 12 = 0 := by rw [R1.b12 hb, hd]; decide
      rcases rg01 trg with hl | hl
      · have R2 := R1.u12 hb 0 (rg_0 1)
        have K2 := Kc.bk w n h1 S1 (b := b) (c := 5) (j := 12) 0 0 hb (by omega) (by omega) hn
        have cc2 := K2.2.2.2.2.1
        refine ⟨_, _, L, nI f, nI f, ?_, fun h0 t l hTk => ?_, Or.inl ⟨f, hf, rfl, rfl, R2, by rw [upd_n _ _ (by omega), t6], by omega⟩, K1.trans K2⟩
        · rw [pC, if_neg e12, if_pos hl, nv_eq]
        · rw [pM h0 t l (hTk.mono K2.2.2.1), if_pos hd, m_of_11 h0 S1 t l hb, Option.bind_some]
          dsimp only
          rw [if_pos (by rw [← t11, hl]), m_puts_5 h0 S1 t l _ hb, Option.bind_some]
      · have hc0 := cnt_le' (sd S) n
        obtain ⟨h', S', L', r, r', iC, iM, iO, iK⟩ := dm_sim 199 (turn := 0) R1 hb hf2 t6 t5 (by omega) (by omega)
        have cc := iK.2.2.2.2.1
        refine ⟨h', S', L', r, r', ?_, fun h0 t l hTk => ?_, ?_, K1.trans iK⟩
        · have := iC FU (FU_gt (by omega))
          rw [nI_0] at this
          rw [pC, if_neg e12, if_neg (by rw [hl]; decide)]
          unfold p_X8_dropMore
          rw [this, Option.bind_some]
        · have := iM h0 t l FU (FU_gt (by omega)) (by rw [hT]; exact hTk)
          rw [pM h0 t l (hTk.mono iK.2.2.1), if_pos hd, m_of_11 h0 S1 t l hb, Option.bind_some]
          dsimp only
          rw [if_neg (by rw [← t11, hl]; decide)]
          unfold p_X10_dropsOn
          rw [this, Option.bind_some]
        · rcases iO with ⟨g, a1, a2, a3, a4, a5⟩ | a
          · exact Or.inl ⟨g, a1, a2, a3, a4, a5, by omega⟩
          · exact Or.inr a
  · have K1 := tnone_kc T
    obtain ⟨R1, tl, tl2, tF, tx10, tx12, tdf, tcn, t14, tmo, tno⟩ := T
    rcases rg01 (R1.br b hb).2.2.2.2.1 with hd | hd
    · refine ⟨h1, S1, L, -2, -1, ?_, fun h0 t l hTk => ?_, Or.inr ⟨rfl, rfl, R1, tno⟩, K1⟩
      · unfold p_X8_keep
        rw [tC, Option.bind_some]
        dsimp only
        rw [if_pos (by rw [R1.b12 hb, hd]), if_pos tl]
      · unfold p_X10_keeps
        rw [tM h0 t l, Option.bind_some]
        dsimp only
        rw [m_of_5 h0 S1 t l hb, Option.bind_some]
        dsimp only
        rw [if_neg (by rw [hd]; decide), m_of_11 h0 S1 t l hb, Option.bind_some]
        dsimp only
        rw [if_neg (by rw [tl2]; decide)]
    · have R2 := R1.u12 hb 0 (rg_0 1)
      have K2 := Kc.bk w n h1 S1 (b := b) (c := 5) (j := 12) 0 0 hb (by omega) (by omega) hn
      refine ⟨_, _, L, -2, -1, ?_, fun h0 t l hTk => ?_, Or.inr ⟨rfl, rfl, R2, fun g hg => by rw [sb_cong (S := S1) (upd_n _ _ (by omega)) (upd_n _ _ (by omega))]; exact tno g hg⟩, K1.trans K2⟩
      · unfold p_X8_keep
        rw [tC, Option.bind_some]
        dsimp only
        rw [if_neg (by rw [R1.b12 hb, hd]; decide), if_pos tl, nv_eq]
      · unfold p_X10_keeps
        rw [tM h0 t l, Option.bind_some]
        dsimp only
        rw [m_of_5 h0 S1 t l hb, Option.bind_some]
        dsimp only
        rw [if_pos hd, m_of_11 h0 S1 t l hb, Option.bind_some]
        dsimp only
        rw [if_pos tl2, m_puts_5 h0 S1 t l _ hb, Option.bind_some]
/-! the lists -/
theorem Rel.bmy (R : Rel bg rl tb m y sn Bd n N tk nw ol L h w S) {b : Nat} (h1 : b ∈ nw ∨ b ∈ ol) : b < m * y ∧ b < 16 := by
  have h2 := R.li.2.2.2.2.2.1 b (List.mem_append.mpr h1)
  have h3 := R.my
  exact ⟨h2, by omega⟩
theorem hasB_y (R : Rel bg rl tb m y sn Bd n N tk nw ol L h w S) {b : Nat} (h1 : b < m * y) : p_X8_hasBucket h w (nI b) = some (1, h) := by
  have h3 := R.my
  have c0 : ¬ nI b < 0 := nI_pos (by omega)
  have c1 : ¬ h (w + 1) 3 * h (w + 1) 4 ≤ nI b := by
    rw [R.sets, R.ways, R.i10, R.i11, nI_mul]
    exact nI_ge h1 (by omega)
  have c2 : ¬ (16 : Int32) ≤ nI b := nI_ge (b := 16) (by omega) (by omega)
  unfold p_X8_hasBucket p_X8_bucketCount
  rw [if_neg c0, Option.bind_some]
  dsimp only
  rw [if_neg c1, if_neg c2]
theorem hasB_n (h : Hp) (w : Nat) : p_X8_hasBucket h w (-2) = some (0, h) := by
  unfold p_X8_hasBucket
  rw [if_pos (by decide)]

theorem pb_new {b : Nat} (R : Rel bg rl tb m y sn Bd n N tk (b :: nw) ol L h w S) : ∃ h', p_X8_putBack h w (w + 16 + 1 + b) = some h' ∧ Rel bg rl tb m y sn Bd n N tk nw (ol ++ [b]) L h' w (sEn (sLv S b 0 nw.length) b 1 ol.length) ∧ Fr w h h' ∧ (∀ j, h' w j = h w j) := by
  have hmy := R.my
  obtain ⟨hbm, hb⟩ := R.bmy (b := b) (by simp)
  have hlen := R.li.len hmy
  obtain ⟨c1, c2, c3⟩ := R.lc
  have hl : (nw ++ ol).length < 16 := by
    simp only [List.length_append, List.length_cons, List.length_nil] at hlen ⊢
    omega
  obtain ⟨h', e1, e2, e3, e4, e5⟩ := hto_c (hp h (w + 16 + 1 + b) 6 2) (o := w + 33) (x := b) (l := nw ++ ol) hl (by rw [hp_o' _ _ (by omega), c2]; rfl) (by rw [hp_n (by omega)]; exact c3) hb
  rw [hp_o' _ _ (by omega), c1] at e3
  have hLI1 := R.li.lv0 hmy
  have nb : b ∉ nw ∧ b ∉ ol := by
    have := R.li.2.2.2.2.1
    rw [List.cons_append, List.nodup_cons] at this
    exact ⟨fun z => this.1 (List.mem_append_left _ z), fun z => this.1 (List.mem_append_right _ z)⟩
  have hLI := kLI.en1 hmy hLI1 nb.1 nb.2 hbm
  have hle : nw.length < 16 ∧ ol.length < 16 := by
    simp only [List.length_cons] at hlen
    omega
  refine ⟨h', ?_, R.lists hb 2 ?_ ?_ ?_ ?_ hLI ⟨?_, ?_, ?_⟩, ?_, ?_⟩
  · unfold p_X8_putBack
    rw [nv_eq, e1, Option.bind_some]
  · intro o' j n1 n2 n3
    rw [e5 o' n1 n2]
    rcases n3 with n3 | n3
    · exact hp_o' _ _ n3
    · exact hp_k _ _ n3
  · rw [e5 _ (by omega) (by omega), hp_s]
  · intro k hk hk2
    rw [sEn_n _ (by omega) (by omega) hk hk2, sLv_n _ (by omega) (by omega) hk hk2]
  · unfold sEn
    rw [upd_s]
    rfl
  · rw [e3]
    exact frp _ (by simp only [List.length_cons, List.length_nil]; omega)
  · rw [e2]
    congr 1
    simp only [List.length_append, List.length_cons, List.length_nil]
    omega
  · have := e4
    rwa [List.append_assoc] at this
  · refine ⟨fun o' ho => ?_, fun j => ?_⟩
    · rw [e5 o' (by omega) (by omega)]
      exact hp_n (by omega)
    · rw [e5 _ (by omega) (by omega)]
      exact hp_o' _ _ (by omega)
  · intro j
    rw [e5 _ (by omega) (by omega)]
    exact hp_o' _ _ (by omega)
theorem pb_old {b : Nat} (R : Rel bg rl tb m y sn Bd n N tk ([]) (b :: ol) L h w S) : ∃ h', p_X8_putBack h w (w + 16 + 1 + b) = some h' ∧ Rel bg rl tb m y sn Bd n N tk ([]) (ol ++ [b]) L h' w (sEn (sLv S b 1 ol.length) b 1 ol.length) ∧ Fr w h h' ∧ (∀ j, h' w j = h w j) := by
  have hmy := R.my
  obtain ⟨hbm, hb⟩ := R.bmy (b := b) (by simp)
  have hlen := R.li.len hmy
  obtain ⟨c1, c2, c3⟩ := R.lc
  have hl : (ol).length < 16 := by
    simp only [List.length_append, List.length_cons, List.length_nil] at hlen ⊢
    omega
  obtain ⟨h', e1, e2, e3, e4, e5⟩ := hto_c (hp h (w + 16 + 1 + b) 6 2) (o := w + 33) (x := b) (l := ol) hl (by rw [hp_o' _ _ (by omega), c2]; rfl) (by rw [hp_n (by omega)]; exact c3) hb
  rw [hp_o' _ _ (by omega), c1] at e3
  have hLI1 := R.li.lv1 hmy
  have nb : b ∉ [] ∧ b ∉ ol := by
    have := R.li.2.2.2.2.1
    rw [List.nil_append, List.nodup_cons] at this
    exact ⟨by simp, this.1⟩
  have hLI := kLI.en1 hmy hLI1 nb.1 nb.2 hbm
  have hle : ol.length < 16 := by
    simp only [List.length_cons, List.length_nil] at hlen
    omega
  refine ⟨h', ?_, R.lists hb 2 ?_ ?_ ?_ ?_ hLI ⟨?_, ?_, ?_⟩, ?_, ?_⟩
  · unfold p_X8_putBack
    rw [nv_eq, e1, Option.bind_some]
  · intro o' j n1 n2 n3
    rw [e5 o' n1 n2]
    rcases n3 with n3 | n3
    · exact hp_o' _ _ n3
    · exact hp_k _ _ n3
  · rw [e5 _ (by omega) (by omega), hp_s]
  · intro k hk hk2
    rw [sEn_n _ (by omega) (by omega) hk hk2, sLv_n _ (by omega) (by omega) hk hk2]
  · unfold sEn
    rw [upd_s]
    rfl
  · rw [e3]
    exact frp _ (by simp only [List.length_cons, List.length_nil]; omega)
  · rw [e2]
    congr 1
    simp only [List.length_append, List.length_cons, List.length_nil]
    omega
  · have := e4
    exact this
  · refine ⟨fun o' ho => ?_, fun j => ?_⟩
    · rw [e5 o' (by omega) (by omega)]
      exact hp_n (by omega)
    · rw [e5 _ (by omega) (by omega)]
      exact hp_o' _ _ (by omega)
  · intro j
    rw [e5 _ (by omega) (by omega)]
    exact hp_o' _ _ (by omega)
end Ke
