/-! a frame comes: both sides -/
theorem m_opens (h0 : Hp) (S : Nat → Int32) (t l : Int32) {b k : Nat} (key : Int32) (hb : b < 16) (hk : k < 16) (h12 : S 12 = nI k) : p_X10_opens (mt h0 S t l) 110 (nI b) key = some (mt h0 (sEn (sOp S b key (S 6) (S (68 + 13 * b + 9) + 1)) b 0 k) t l) := by
  have e6 : (upd S (68 + 13 * b + 0) (key)) 6 = S 6 := upd_n _ _ (by omega)
  have e9 : (upd (upd (upd (upd (upd (upd (upd (upd S (68 + 13 * b + 0) (key)) (68 + 13 * b + 1) (S 6)) (68 + 13 * b + 3) (0)) (68 + 13 * b + 4) (0)) (68 + 13 * b + 5) (0)) (68 + 13 * b + 6) (0)) (68 + 13 * b + 7) (-2)) (68 + 13 * b + 8) (65535)) (68 + 13 * b + 9) = S (68 + 13 * b + 9) := by simp (disch := omega) only [upd_n]
  have hen : p_X10_enters (mt h0 (sOp S b key (S 6) (S (68 + 13 * b + 9) + 1)) t l) 110 (nI b) 1 = some (mt h0 (sEn (sOp S b key (S 6) (S (68 + 13 * b + 9) + 1)) b 0 k) t l) := m_enters h0 _ t l (l := 0) hb (by omega) hk (by rw [sOp_n _ _ _ _ (by omega)]; exact h12)
  unfold p_X10_opens
  rw [m_puts_0 h0 S t l key hb, Option.bind_some, m_quantum, Option.bind_some]
  dsimp only
  rw [e6, m_puts_1 h0 _ t l _ hb, Option.bind_some, m_puts_3 h0 _ t l _ hb, Option.bind_some, m_puts_4 h0 _ t l _ hb, Option.bind_some, m_puts_5 h0 _ t l _ hb, Option.bind_some, m_puts_6 h0 _ t l _ hb, Option.bind_some, m_puts_7 h0 _ t l _ hb, Option.bind_some, m_puts_8 h0 _ t l _ hb, Option.bind_some, m_of_9 h0 _ t l hb, Option.bind_some]
  dsimp only
  rw [e9, m_puts_9 h0 _ t l _ hb, Option.bind_some]
  unfold sOp at hen ⊢
  rw [hen, Option.bind_some]

section Ai
variable {bg rl : Bool} {tb : Nat → Int32} {m y sn Bd n N tk : Nat} {nw ol L : List Nat} {h : Hp} {w : Nat} {S : Nat → Int32}
theorem Rel.bgt (R : Rel false rl tb m y sn Bd n N tk nw ol L h w S) (H : kBG true n h w S) : Rel true rl tb m y sn Bd n N tk nw ol L h w S := by
  obtain ⟨a1, a2, a3, a4, a5, a6, a7, a8, a9, a10, a11, a12, a13, a14, a15, a16, a17, a18, _, a20, a21⟩ := R
  exact ⟨a1, a2, a3, a4, a5, a6, a7, a8, a9, a10, a11, a12, a13, a14, a15, a16, a17, a18, H, a20, a21⟩
theorem arrive_sim (R : Rel true rl tb m y sn Bd n N 200 nw ol L h w S) (hLS : LSt n nw ol S) {key x may : Nat} {ow : Int32} (hn1 : n < 200) (hk : key ≤ 9999) (hx1 : 1 ≤ x) (hx2 : x ≤ 1500) (hmay : may ≤ 1) (how : ow = -2 ∨ rg ow 0 3) : ∃ h' S' L' nw' ol', p_X8_arrive h w (nI key) (nI x) (nI may) ow = some (nI n, h') ∧ (∀ hm t l, hm 110 22 = ow → Lk (h (w + 1) 5) l (h' w 10) → p_X10_comesIn (mt hm S t l) 110 (nI key) (nI x) (nI may) = some (nI n, mt hm S' t l)) ∧ Rel true rl tb m y sn Bd (n + 1) N 200 nw' ol' L' h' w S' ∧ LSt (n + 1) nw' ol' S' ∧ Fr w h h' ∧ h' w 12 = h w 12 ∧ h w 10 ≤ h' w 10 ∧ S 2 + 1 ≤ h' w 10 ∧ (h' w 10 = h w 10 ∨ h' w 10 = S 2 + 1) ∧ ((S 2 + 1 ≤ h (w + 1) 5 ∧ S' 17 = S 17) ∨ (¬ S 2 + 1 ≤ h (w + 1) 5 ∧ S' 17 = S 17 + 1)) := by
  have hmy := R.my
  obtain ⟨b, hbm, plC, plM⟩ := place_sim R hk
  have hb : b < 16 := by omega
  have cib : ib (nI b) 16 := ib_n (by omega) (by omega)
  have ecl : (nI b).toNatClampNeg = b := nI_clamp (by omega)
  have c200 : ¬ (200 : Int32) ≤ h (w + 2) 13 := by
    rw [R.many, R.i1]
    exact nI_ge (b := 200) (by omega) (by omega)
  have tC : p_X8_arrive h w (nI key) (nI x) (nI may) ow = if h (w + 16 + 1 + b) 6 = 0 then (Option.bind (p_X0_begin h (w + 16 + 1 + b) (nI key) (h (w + 1) 2) (h (w + 2) 13)) fun r8 => nv (hp r8 (w + 16 + 1 + b) 6 1) fun h9 => Option.bind (p_X2_addNew h9 (w + 33) (nI b)) fun r10 => q_X8_arrive_83 r10 w (nI key) (nI x) (nI may) ow (nI b) (w + 16 + 1 + b)) else q_X8_arrive_83 h w (nI key) (nI x) (nI may) ow (nI b) (w + 16 + 1 + b) := by
    unfold p_X8_arrive
    rw [plC, Option.bind_some]
    dsimp only
    rw [if_neg c200, hasB_y R hbm, Option.bind_some]
    dsimp only
    rw [if_neg one_nz, if_pos cib, ecl]
  have tM : ∀ h0 t l, p_X10_comesIn (mt h0 S t l) 110 (nI key) (nI x) (nI may) = if S (68 + 13 * b + 2) = 0 then (Option.bind (p_X10_opens (mt h0 S t l) 110 (nI b) (nI key)) fun r23 => q_X10_comesIn_24 r23 110 (nI key) (nI x) (nI may) (nI b)) else q_X10_comesIn_24 (mt h0 S t l) 110 (nI key) (nI x) (nI may) (nI b) := fun h0 t l => by
    unfold p_X10_comesIn
    rw [plM, Option.bind_some]
    dsimp only
    rw [m_of_2 h0 S t l hb, Option.bind_some]
  have hlst := R.li.2.2.2.2.2.2 b hb
  by_cases hfree : S (68 + 13 * b + 2) = 0
  · -- it begins
    have nb : b ∉ nw ∧ b ∉ ol := by
      rw [hlst] at hfree
      by_cases e1 : b ∈ nw
      · rw [if_pos e1] at hfree
        exact absurd hfree (by decide)
      · rw [if_neg e1] at hfree
        by_cases e2 : b ∈ ol
        · rw [if_pos e2] at hfree
          exact absurd hfree (by decide)
        · exact ⟨e1, e2⟩
    obtain ⟨qu, hq1, hq2, hqe⟩ := R.i6
    have R1 := R.opn hb (nI key) (S 6) (nI n) (S (68 + 13 * b + 9) + 1) (by rw [hqe, nI_toInt (by omega)]; omega) (by rw [hqe, nI_toInt (by omega)]; omega)
    have hO := fun h0 t l => m_opens h0 S t l (k := nw.length) (nI key) hb (by
      have := (kLI.en0 hmy R.li nb.1 nb.2 hbm).len hmy
      rw [List.length_append] at this
      have h2 : nw.length + 1 + ol.length ≤ 16 := this
      omega) R.li.1
    have n1 : ∀ k, k < 68 + 13 * b ∨ 68 + 13 * b + 10 ≤ k ∨ k = 68 + 13 * b + 2 → sOp S b (nI key) (S 6) (S (68 + 13 * b + 9) + 1) k = S k := fun k hk2 => sOp_n _ _ _ _ hk2
    have n9 : sOp S b (nI key) (S 6) (S (68 + 13 * b + 9) + 1) (68 + 13 * b + 9) = S (68 + 13 * b + 9) + 1 := sOp_9 _ _ _ _ _
    have o13 : opH h (w + 16 + 1 + b) (nI key) (S 6) (nI n) (w + 16 + 1 + b) 13 = nI n := by
      unfold opH
      simp (disch := omega) only [hp_s, hp_k]
    have oo : ∀ o', o' ≠ w + 16 + 1 + b → opH h (w + 16 + 1 + b) (nI key) (S 6) (nI n) o' = h o' := fun o' ho => opH_o _ _ _ _ ho
    have oE : p_X0_begin h (w + 16 + 1 + b) (nI key) (h (w + 1) 2) (h (w + 2) 13) = some (opH h (w + 16 + 1 + b) (nI key) (S 6) (nI n)) := by
      rw [R.qua, R.many, R.i1]
      exact opH_eq _ _ _ _ _
    generalize hh1 : opH h (w + 16 + 1 + b) (nI key) (S 6) (nI n) = h1 at R1 o13 oo oE
    generalize hS1 : sOp S b (nI key) (S 6) (S (68 + 13 * b + 9) + 1) = S1 at R1 hO n1 n9
    have hLI1 := kLI.en0 hmy R1.li nb.1 nb.2 hbm
    have hlen1 := hLI1.len hmy
    rw [List.length_append] at hlen1
    have hlen2 : nw.length + 1 + ol.length ≤ 16 := hlen1
    obtain ⟨c1, c2, c3⟩ := R1.lc
    obtain ⟨h2, aC, a2, a1, aA, aF⟩ := an_c (hp h1 (w + 16 + 1 + b) 6 1) (o := w + 33) (x := b) (nw := nw) (ol := ol) (by rw [List.length_append]; omega) (by rw [hp_o' _ _ (by omega), c1]) (by rw [hp_o' _ _ (by omega), c2]) (by rw [hp_n (by omega)]; exact c3)
    have R2 : Rel false rl tb m y sn Bd n N 200 (nw ++ [b]) ol L h2 w (sEn S1 b 0 nw.length) := by
      refine R1.lists hb 1 ?_ ?_ ?_ ?_ hLI1 ⟨a1, a2, aA⟩
      · intro o' j n1 n2 n3
        rw [aF o' n1 n2]
        rcases n3 with n3 | n3
        · exact hp_o' _ _ n3
        · exact hp_k _ _ n3
      · rw [aF _ (by omega) (by omega), hp_s]
      · intro k hk1 hk2
        exact sEn_n _ (by omega) (by omega) hk1 hk2
      · unfold sEn
        rw [upd_s]
        rfl
    have e2n : ∀ k, 68 ≤ k → k ≠ 68 + 13 * b + 2 → sEn S1 b 0 nw.length k = S1 k := fun k a c => sEn_n _ (by omega) (by omega) (by omega) c
    have e22 : sEn S1 b 0 nw.length 2 = S 2 := by rw [sEn_n _ (by omega) (by omega) (by omega) (by omega), n1 _ (by omega)]
    have e217 : sEn S1 b 0 nw.length 17 = S 17 := by rw [sEn_n _ (by omega) (by omega) (by omega) (by omega), n1 _ (by omega)]
    have F2 : Fr w h h2 := by
      refine ⟨fun o' ho => ?_, fun j => ?_⟩
      · rw [aF o' (by omega) (by omega), hp_n (by omega), oo o' (by omega)]
      · rw [aF _ (by omega) (by omega), hp_o' _ _ (by omega), oo _ (by omega)]
    have w2 : ∀ j, h2 w j = h w j := fun j => by rw [aF _ (by omega) (by omega), hp_o' _ _ (by omega), oo _ (by omega)]
    have hLS2 : LSt n (nw ++ [b]) ol (sEn S1 b 0 nw.length) := fun b' f hb' hf u => by
      have hnn := R.n200
      rw [sb_cong (S := S) (by rw [e2n _ (by omega) (by omega), n1 _ (by omega)]) (by rw [e2n _ (by omega) (by omega), n1 _ (by omega)])] at u
      rcases hLS b' f hb' hf u with z | z
      · exact Or.inl (List.mem_append_left _ z)
      · exact Or.inr z
    obtain ⟨h', S', L', qC, qM, R3, hLS3, F3, z12, z10, z2, zor, z17, zf, zn4, zn8, zb9, zsc⟩   := arr2 (b := b) R2 hLS2 hn1 (Or.inl (by simp)) hk hx1 hx2 hmay how
    have hC5 : h2 (w + 1) 5 = h (w + 1) 5 := F2.2 5
    refine ⟨h', S', L', nw ++ [b], ol, ?_, fun h0 t l hw hL => ?_, R3.bgt ?_, hLS3, F2.trans F3, by rw [z12, w2], by rw [w2] at z10; exact z10, by rw [e22] at z2; exact z2, by rw [w2, e22] at zor; exact zor, by rw [e22, e217, hC5] at z17; exact z17⟩
    · rw [tC, if_pos (by rw [R.b6 hb]; exact hfree), oE, Option.bind_some, nv_eq, aC, Option.bind_some]
      exact qC
    · rw [tM, if_pos hfree, hO, Option.bind_some]
      exact qM h0 t l hw (by rw [hC5]; exact hL)
    · intro _ b' hb'
      have hnn := R.n200
      have hsc : h' (w + 16 + 1 + b') 13 = h1 (w + 16 + 1 + b') 13 := by
        rw [zsc b' hb', aF _ (by omega) (by omega)]
        exact hp_k _ _ (by decide)
      have h9 : S' (68 + 13 * b' + 9) = S1 (68 + 13 * b' + 9) := by rw [zb9 b' hb', e2n _ (by omega) (by omega)]
      have hfr : ∀ f c, f < n → c = 4 ∨ c = 8 → S' (276 + 12 * f + c) = S (276 + 12 * f + c) := fun f c hf hc => by rw [zf f c hf hc, e2n _ (by omega) (by omega), n1 _ (by omega)]
      have hn8 : S' (276 + 12 * n + 8) = S (68 + 13 * b + 9) + 1 := by rw [zn8, e2n _ (by omega) (by omega), n9]
      obtain ⟨⟨g, _, hg, eg⟩, ⟨s, d1, d2, d3⟩, d4⟩ := R.kbg rfl b' hb'
      by_cases e : b' = b
      · subst e
        have h9b : S' (68 + 13 * b' + 9) = nI (g + 1) := by rw [h9, n9, eg, nI_1]
        refine ⟨⟨g + 1, by omega, by omega, h9b⟩, ⟨n, by rw [hsc, o13], by omega, fun f hf hi => ?_⟩, fun f hf hi => ?_⟩
        · by_cases ef : f = n
          · subst ef
            rw [hn8, eg, nI_1, h9b]
            exact ⟨fun _ => Nat.le_refl _, fun _ => rfl⟩
          · have hf2 : f < n := by omega
            rw [hfr f 4 hf2 (by omega)] at hi
            obtain ⟨z, g', u1, u2, u3, u4⟩ := d4 f hf2 hi
            have g'g : g' = g := nI_inj (by omega) (by omega) (u2.symm.trans eg)
            rw [hfr f 8 hf2 (by omega), u1, h9b]
            constructor
            · intro u
              have := nI_inj (by omega) (by omega) u
              omega
            · intro u
              omega
        · by_cases ef : f = n
          · subst ef
            exact ⟨g + 1, g + 1, by rw [hn8, eg, nI_1], h9b, Nat.le_refl _, by omega⟩
          · have hf2 : f < n := by omega
            rw [hfr f 4 hf2 (by omega)] at hi
            obtain ⟨z, g', u1, u2, u3, u4⟩ := d4 f hf2 hi
            have g'g : g' = g := nI_inj (by omega) (by omega) (u2.symm.trans eg)
            exact ⟨z, g + 1, by rw [hfr f 8 hf2 (by omega), u1], h9b, by omega, by omega⟩
      · have h9b : S' (68 + 13 * b' + 9) = S (68 + 13 * b' + 9) := by rw [h9, n1 _ (by omega)]
        have h13b : h1 (w + 16 + 1 + b') 13 = h (w + 16 + 1 + b') 13 := by rw [oo _ (by omega)]
        refine ⟨⟨g, by omega, by omega, by rw [h9b, eg]⟩, ⟨s, by rw [hsc, h13b, d1], by omega, fun f hf hi => ?_⟩, fun f hf hi => ?_⟩
        · by_cases ef : f = n
          · subst ef
            rw [zn4] at hi
            exact absurd (nI_inj (by omega) (by omega) hi).symm e
          · have hf2 : f < n := by omega
            rw [hfr f 4 hf2 (by omega)] at hi
            rw [hfr f 8 hf2 (by omega), h9b]
            exact d3 f hf2 hi
        · by_cases ef : f = n
          · subst ef
            rw [zn4] at hi
            exact absurd (nI_inj (by omega) (by omega) hi).symm e
          · have hf2 : f < n := by omega
            rw [hfr f 4 hf2 (by omega)] at hi
            rw [hfr f 8 hf2 (by omega), h9b]
            obtain ⟨z, g', u1, u2, u3, u4⟩ := d4 f hf2 hi
            exact ⟨z, g', u1, u2, u3, by omega⟩
  · -- it stands in a list already
    have hbl : b ∈ nw ∨ b ∈ ol := by
      by_cases e1 : b ∈ nw
      · exact Or.inl e1
      · by_cases e2 : b ∈ ol
        · exact Or.inr e2
        · rw [hlst, if_neg e1, if_neg e2] at hfree
          exact absurd rfl hfree
    obtain ⟨h', S', L', qC, qM, R3, hLS3, F3, z12, z10, z2, zor, z17, zf, zn4, zn8, zb9, zsc⟩ := arr2 R hLS hn1 hbl hk hx1 hx2 hmay how
    refine ⟨h', S', L', nw, ol, ?_, fun h0 t l hw hL => ?_, R3.bgt ?_, hLS3, F3, z12, z10, z2, zor, z17⟩
    · rw [tC, if_neg (by rw [R.b6 hb]; exact hfree)]
      exact qC
    · rw [tM, if_neg hfree]
      exact qM h0 t l hw hL
    · intro _ b' hb'
      obtain ⟨⟨g, _, hg, eg⟩, ⟨s, d1, d2, d3⟩, d4⟩ := R.kbg rfl b' hb'
      refine ⟨⟨g, by omega, by omega, by rw [zb9 b' hb', eg]⟩, ⟨s, by rw [zsc b' hb', d1], by omega, fun f hf hi => ?_⟩, fun f hf hi => ?_⟩
      · by_cases ef : f = n
        · subst ef
          rw [zn4] at hi
          have e := nI_inj (by omega) (by omega) hi
          subst e
          rw [zn8, zb9 b hb']
          exact ⟨fun _ => d2, fun _ => rfl⟩
        · have hf2 : f < n := by omega
          rw [zf f 4 hf2 (by omega)] at hi
          rw [zf f 8 hf2 (by omega), zb9 b' hb']
          exact d3 f hf2 hi
      · by_cases ef : f = n
        · subst ef
          rw [zn4] at hi
          have e := nI_inj (by omega) (by omega) hi
          subst e
          exact ⟨g, g, by rw [zn8, eg], by rw [zb9 b hb', eg], Nat.le_refl _, by omega⟩
        · have hf2 : f < n := by omega
          rw [zf f 4 hf2 (by omega)] at hi
          rw [zf f 8 hf2 (by omega), zb9 b' hb']
          obtain ⟨z, g', u1, u2, u3, u4⟩ := d4 f hf2 hi
          exact ⟨z, g', u1, u2, u3, by omega⟩
end Ai

