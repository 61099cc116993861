/-! lists and watches -/
theorem hp_vu (h : Hp) (o k : Nat) (r : Nat → Int32) (v : Int32) : hp (va_up h o r) o k v = va_up h o (upd r k v) := by
  funext o' j
  unfold hp va_up
  by_cases e : o' = o
  · subst e
    simp
  · simp [e]
theorem vu_s (h : Hp) (o : Nat) (r : Nat → Int32) : va_up h o r o = r := va_up_self h o r
theorem vu_eta (h : Hp) (o : Nat) : va_up h o (h o) = h := by
  funext o'
  by_cases e : o' = o
  · subst e
    exact va_up_self ..
  · exact va_up_ne _ _ e
theorem vu_hp (h : Hp) {o o' : Nat} (k : Nat) (r : Nat → Int32) (v : Int32) (n : o' ≠ o) : hp (va_up h o r) o' k v = va_up (hp h o' k v) o r := by
  funext x j
  unfold hp va_up
  by_cases e : x = o
  · subst e
    simp [Ne.symm n]
  · by_cases e2 : x = o'
    · subst e2
      simp [n]
    · simp [e, e2]
theorem at_in (h : Hp) {o i x : Nat} {l : List Nat} (hl : l.length ≤ 16) (hs : h o 2 = nI l.length) (ha : AL (h (o + 1)) 0 l) (hi : l[i]? = some x) : p_X2_at h o (nI i) = some (nI x, h) := by
  have h1 := (List.getElem?_eq_some_iff.mp hi).1
  have h2 := ha i x hi
  rw [Nat.zero_add] at h2
  have c1 : ¬ nI i < 0 := nI_pos (by omega)
  have c2 : ¬ nI l.length ≤ nI i := nI_ge (by omega) (by omega)
  have c3 : ¬ (16 : Int32) ≤ nI i := nI_ge (b := 16) (by omega) (by omega)
  unfold p_X2_at
  rw [if_neg c1, hs, if_neg c2, if_neg c3, if_pos (ib_n (by omega) (by omega)), nI_clamp (by omega), h2]
theorem at_out (h : Hp) {o i : Nat} {l : List Nat} (hl : l.length ≤ 16) (hs : h o 2 = nI l.length) (hi : l.length ≤ i) (hi2 : i < 2 ^ 31) : p_X2_at h o (nI i) = some (-2, h) := by
  have c1 : ¬ nI i < 0 := nI_pos (by omega)
  unfold p_X2_at
  rw [if_neg c1, hs, if_pos (nI_le hi hi2)]
theorem frp (k : Nat) (hk : k < 1000) : (if nI k - 1 < 0 then (0 : Int32) else nI k - 1) = nI (k - 1) := by
  cases k with
  | zero => decide +kernel
  | succ k => rw [nI_pred, if_neg (nI_pos (by omega))]; rfl
theorem rh_c (h : Hp) {o : Nat} {l : List Nat} (hl : l.length < 16) (hs : h o 2 = nI (l.length + 1)) : p_X2_removeHead h o = some (hp (hp (va_up h (o + 1) (shf (h (o + 1)) 0 l.length)) o 2 (nI l.length)) o 1 (if h o 1 - 1 < 0 then 0 else h o 1 - 1)) := by
  have no : o ≠ o + 1 := by omega
  have key := lp_for (b := b_X2_removeHead_10 o) (fun j => (va_up h (o + 1) (shf (h (o + 1)) 0 j), nI (j + 1))) l.length (hp (hp (va_up h (o + 1) (shf (h (o + 1)) 0 l.length)) o 2 (nI l.length)) o 1 (if h o 1 - 1 < 0 then 0 else h o 1 - 1)) (fun K i hi => by
      have c1 : ¬ nI (l.length + 1) ≤ nI (i + 1) := nI_ge (by omega) (by omega)
      have c2 : ib (nI (i + 1)) 16 := ib_n (by omega) (by omega)
      have c3 : ib (nI i) 16 := ib_n (by omega) (by omega)
      have e1 : (nI (i + 1)).toNatClampNeg = i + 1 := nI_clamp (by omega)
      have e2 : (nI i).toNatClampNeg = i := nI_clamp (by omega)
      have e3 := shf_s (h (o + 1)) 0 i
      rw [Nat.zero_add] at e3
      simp only [b_X2_removeHead_10, vu_o _ _ no, hs, if_neg c1, if_pos c2, nI_pred, if_pos c3, e1, e2, vu_s, hp_vu, nv_eq, nI_1, e3]) (fun K => by
      have c1 : nI (l.length + 1) ≤ nI (l.length + 1) := nI_le (Nat.le_refl _) (by omega)
      simp only [b_X2_removeHead_10, vu_o _ _ no, hs, if_pos c1, nI_pred, nv_eq]
      rw [hp_k _ _ (by decide), vu_o _ _ no]) l.length 0 FU (by omega) (FU_gt (by omega))
  rw [shf_0, vu_eta, show nI (0 + 1) = 1 from rfl] at key
  unfold p_X2_removeHead
  rw [hs, if_pos (show (0 : Int32) < nI (l.length + 1) from nI_lt (a := 0) (by omega) (by omega))]
  exact key
theorem sh_AL {r : Nat → Int32} {x : Nat} {l : List Nat} (H : AL r 0 (x :: l)) : AL (shf r 0 l.length) 0 l := H.tail fun i hi => shf_i _ (by omega) (by omega)
/-- the class moves the head behind all -/
theorem hto_c (h : Hp) {o x : Nat} {l : List Nat} (hl : l.length < 16) (hs : h o 2 = nI (l.length + 1)) (ha : AL (h (o + 1)) 0 (x :: l)) (hx : x < 16) : ∃ h', p_X2_headToOld h o = some h' ∧ h' o 2 = nI (l.length + 1) ∧ h' o 1 = (if h o 1 - 1 < 0 then 0 else h o 1 - 1) ∧ AL (h' (o + 1)) 0 (l ++ [x]) ∧ ∀ o', o' ≠ o → o' ≠ o + 1 → h' o' = h o' := by
  have e0 : p_X2_at h o 0 = some (nI x, h) := at_in h (i := 0) (l := x :: l) hl hs ha rfl
  have no : o + 1 ≠ o := by omega
  have c1 : ¬ nI x < 0 := nI_pos (by omega)
  have c2 : ¬ (16 : Int32) ≤ nI l.length := nI_ge (b := 16) (by omega) (by omega)
  have c3 : ib (nI l.length) 16 := ib_n (by omega) (by omega)
  have e1 : (nI l.length).toNatClampNeg = l.length := nI_clamp (by omega)
  refine ⟨hp (hp (hp (hp (va_up h (o + 1) (shf (h (o + 1)) 0 l.length)) o 2 (nI l.length)) o 1 (if h o 1 - 1 < 0 then 0 else h o 1 - 1)) (o + 1) l.length (nI x)) o 2 (nI l.length + 1), ?_, ?_, ?_, ?_, ?_⟩
  · have r2 : hp (hp (va_up h (o + 1) (shf (h (o + 1)) 0 l.length)) o 2 (nI l.length)) o 1 (if h o 1 - 1 < 0 then 0 else h o 1 - 1) o 2 = nI l.length := by rw [hp_k _ _ (show 2 ≠ 1 by decide), hp_s]
    unfold p_X2_headToOld
    rw [e0, Option.bind_some, rh_c h hl hs, Option.bind_some]
    simp only [if_neg c1, r2, if_neg c2, if_pos c3, e1, nv_eq, hp_o' _ _ no.symm]
  · rw [hp_s, nI_1]
  · rw [hp_k _ _ (show 1 ≠ 2 by decide), hp_o' _ _ no.symm, hp_s]
  · rw [hp_n no, hp_o, hp_n no, hp_n no, vu_s]
    have := (sh_AL ha).snoc_u (x := x)
    rw [Nat.zero_add] at this
    exact this
  · intro o' h1 h2
    rw [hp_n h1, hp_n h2, hp_n h1, hp_n h1, vu_o _ _ h2]
/-- the class puts a new one behind the new ones -/
def ush (r : Nat → Int32) (i s : Nat) : Nat → Int32 := fun j => if i < j ∧ j ≤ s then r (j - 1) else r j
theorem ush_0 (r : Nat → Int32) (s : Nat) : ush r s s = r := funext fun j => if_neg (by omega)
theorem ush_s (r : Nat → Int32) {i s : Nat} (hi : i + 1 ≤ s) : upd (ush r (i + 1) s) (i + 1) (ush r (i + 1) s i) = ush r i s := by
  funext j
  unfold upd ush
  by_cases e : j = i + 1
  · subst e
    rw [if_pos rfl, if_neg (by omega), if_pos (by omega)]
    rfl
  · rw [if_neg e]
    by_cases e2 : i + 1 < j ∧ j ≤ s
    · rw [if_pos e2, if_pos (by omega)]
    · rw [if_neg e2, if_neg (by omega)]
theorem ush_AL {r : Nat → Int32} {nw ol : List Nat} {x : Nat} (H : AL r 0 (nw ++ ol)) : AL (upd (ush r nw.length (nw ++ ol).length) nw.length (nI x)) 0 (nw ++ [x] ++ ol) := by
  have hl : (nw ++ ol).length = nw.length + ol.length := List.length_append
  refine AL.join (AL.snoc (H.left.cong fun i hi => ?_) ?_) (fun i y hi => ?_)
  · rw [upd_n _ _ (by omega)]
    unfold ush
    rw [if_neg (by omega)]
  · rw [upd_e _ _ (by omega)]
  · have h1 := (List.getElem?_eq_some_iff.mp hi).1
    have h2 : (nw ++ [x]).length = nw.length + 1 := by rw [List.length_append]; rfl
    rw [h2, upd_n _ _ (by omega)]
    unfold ush
    rw [if_pos (by omega)]
    have := H.right i y hi
    rwa [show 0 + (nw.length + 1) + i - 1 = 0 + nw.length + i by omega]
theorem an_c (h : Hp) {o x : Nat} {nw ol : List Nat} (hl : (nw ++ ol).length < 16) (hf : h o 1 = nI nw.length) (hs : h o 2 = nI (nw ++ ol).length) (ha : AL (h (o + 1)) 0 (nw ++ ol)) : ∃ h', p_X2_addNew h o (nI x) = some h' ∧ h' o 2 = nI (nw ++ [x] ++ ol).length ∧ h' o 1 = nI (nw ++ [x]).length ∧ AL (h' (o + 1)) 0 (nw ++ [x] ++ ol) ∧ ∀ o', o' ≠ o → o' ≠ o + 1 → h' o' = h o' := by
  have no : o ≠ o + 1 := by omega
  have hle : nw.length ≤ (nw ++ ol).length := by rw [List.length_append]; omega
  have l1 : (nw ++ [x] ++ ol).length = (nw ++ ol).length + 1 := by simp only [List.length_append, List.length_cons, List.length_nil]; omega
  have l2 : (nw ++ [x]).length = nw.length + 1 := by rw [List.length_append]; rfl
  generalize hS : (nw ++ ol).length = s at hl hs hle l1
  have e1 : (nI nw.length).toNatClampNeg = nw.length := nI_clamp (by omega)
  have c3 : ib (nI nw.length) 16 := ib_n (by omega) (by omega)
  have key := lp_for (b := b_X2_addNew_15 o (nI x)) (fun k => (va_up h (o + 1) (ush (h (o + 1)) (s - k) s), nI (s - k))) (s - nw.length) (hp (hp (va_up h (o + 1) (upd (ush (h (o + 1)) nw.length s) nw.length (nI x))) o 1 (nI nw.length + 1)) o 2 (nI s + 1)) (fun K k hk => by
      obtain ⟨i, hi⟩ : ∃ i, s - k = i + 1 := ⟨s - k - 1, by omega⟩
      have hi2 : s - (k + 1) = i := by omega
      have c1 : ¬ nI (i + 1) ≤ nI nw.length := nI_ge (by omega) (by omega)
      have c2 : ib (nI (i + 1)) 16 := ib_n (by omega) (by omega)
      have c3 : ib (nI i) 16 := ib_n (by omega) (by omega)
      have e1 : (nI (i + 1)).toNatClampNeg = i + 1 := nI_clamp (by omega)
      have e2 : (nI i).toNatClampNeg = i := nI_clamp (by omega)
      simp only [b_X2_addNew_15, hi, hi2, vu_o _ _ no, hf, if_neg c1, if_pos c2, nI_pred, if_pos c3, e1, e2, vu_s, hp_vu, nv_eq, pk_m1, ush_s (h (o + 1)) (show i + 1 ≤ s by omega)]) (fun K => by
      have hi : s - (s - nw.length) = nw.length := by omega
      have c1 : nI nw.length ≤ nI nw.length := nI_le (Nat.le_refl _) (by omega)
      simp only [b_X2_addNew_15, hi, vu_o _ _ no, hf, if_pos c1, if_pos c3, e1, hp_vu, nv_eq]
      rw [hp_k _ _ (show 2 ≠ 1 by decide), vu_o _ _ no, hs]) (s - nw.length) 0 FU (by omega) (FU_gt (by omega))
  rw [Nat.sub_zero, ush_0, vu_eta] at key
  refine ⟨hp (hp (va_up h (o + 1) (upd (ush (h (o + 1)) nw.length s) nw.length (nI x))) o 1 (nI nw.length + 1)) o 2 (nI s + 1), ?_, ?_, ?_, ?_, ?_⟩
  · unfold p_X2_addNew
    rw [hs, if_pos (show nI s < (16 : Int32) from nI_lt (b := 16) (by omega) (by omega)), nv_eq]
    exact key
  · rw [hp_s, nI_1, l1]
  · rw [hp_k _ _ (show 1 ≠ 2 by decide), hp_s, nI_1, l2]
  · rw [hp_n no.symm, hp_n no.symm, vu_s, ← hS]
    exact ush_AL ha
  · intro o' h1 h2
    rw [hp_n h1, hp_n h1, vu_o _ _ h2]
/-! the reference's lists -/
theorem sEn_n (S : Nat → Int32) {b l n k : Nat} (hl : l < 2) (hn : n < 16) (e : k < 12 ∨ (14 ≤ k ∧ k < 18) ∨ 50 ≤ k) (e2 : k ≠ 68 + 13 * b + 2) : sEn S b l n k = S k := by
  unfold sEn
  rw [upd_n _ _ e2, upd_n _ _ (by omega), upd_n _ _ (by omega)]
theorem sLv_n (S : Nat → Int32) {b l n k : Nat} (hl : l < 2) (hn : n < 16) (e : k < 12 ∨ (14 ≤ k ∧ k < 18) ∨ 50 ≤ k) (e2 : k ≠ 68 + 13 * b + 2) : sLv S b l n k = S k := by
  unfold sLv
  rw [upd_n _ _ e2, shf_n _ (by omega), upd_n _ _ (by omega)]
theorem kLI.len {m y : Nat} {nw ol : List Nat} {S : Nat → Int32} (H : kLI m y nw ol S) (hm : m * y ≤ 16) : nw.length + ol.length ≤ 16 := by
  have := nd_len _ _ H.2.2.2.2.1 H.2.2.2.2.2.1
  rw [List.length_append] at this
  omega
theorem kLI.lv0 {m y b : Nat} {nw ol : List Nat} {S : Nat → Int32} (hm : m * y ≤ 16) (H : kLI m y (b :: nw) ol S) : kLI m y nw ol (sLv S b 0 nw.length) := by
  have hlen := H.len hm
  obtain ⟨e1, e2, e3, e4, e5, e6, e7⟩ := H
  rw [List.length_cons] at e1 hlen
  have hd := e5
  rw [List.cons_append, List.nodup_cons] at hd
  have hb := e6 b (by simp)
  have nb : b ∉ nw ∧ b ∉ ol := ⟨fun z => hd.1 (List.mem_append_left _ z), fun z => hd.1 (List.mem_append_right _ z)⟩
  refine ⟨?_, ?_, e3.tail fun i hi => ?_, e4.cong fun i hi => ?_, hd.2, fun x hx => e6 x (List.mem_cons_of_mem _ hx), fun x hx => ?_⟩
  · unfold sLv
    rw [upd_n _ _ (by omega), shf_n _ (by omega)]
    exact upd_s _ _ _
  · unfold sLv
    rw [upd_n _ _ (by omega), shf_n _ (by omega), upd_n _ _ (by omega), e2]
  · unfold sLv
    rw [upd_n _ _ (by omega), shf_i _ (by omega) (by omega), upd_n _ _ (by omega)]
  · unfold sLv
    rw [upd_n _ _ (by omega), shf_n _ (by omega), upd_n _ _ (by omega)]
  · unfold sLv
    by_cases e : x = b
    · subst e
      rw [upd_s, if_neg nb.1, if_neg nb.2]
    · rw [upd_n _ _ (by omega), shf_n _ (by omega), upd_n _ _ (by omega), e7 x hx]
      simp [e]
theorem kLI.lv1 {m y b : Nat} {nw ol : List Nat} {S : Nat → Int32} (hm : m * y ≤ 16) (H : kLI m y nw (b :: ol) S) : kLI m y nw ol (sLv S b 1 ol.length) := by
  have hlen := H.len hm
  obtain ⟨e1, e2, e3, e4, e5, e6, e7⟩ := H
  rw [List.length_cons] at e2 hlen
  have hd := List.nodup_append.mp e5
  have hd2 := List.nodup_cons.mp hd.2.1
  have hb := e6 b (by simp)
  have nb : b ∉ nw := fun z => hd.2.2 b z b (by simp) rfl
  refine ⟨?_, ?_, e3.cong fun i hi => ?_, e4.tail fun i hi => ?_, List.nodup_append.mpr ⟨hd.1, hd2.2, fun x hx z hz => hd.2.2 x hx z (List.mem_cons_of_mem _ hz)⟩, fun x hx => e6 x ((List.mem_append.mp hx).elim (fun z => List.mem_append_left _ z) (fun z => List.mem_append_right _ (List.mem_cons_of_mem _ z))), fun x hx => ?_⟩
  · unfold sLv
    rw [upd_n _ _ (by omega), shf_n _ (by omega), upd_n _ _ (by omega), e1]
  · unfold sLv
    rw [upd_n _ _ (by omega), shf_n _ (by omega)]
    exact upd_s _ _ _
  · unfold sLv
    rw [upd_n _ _ (by omega), shf_n _ (by omega), upd_n _ _ (by omega)]
  · unfold sLv
    rw [upd_n _ _ (by omega), shf_i _ (by omega) (by omega), upd_n _ _ (by omega)]
  · unfold sLv
    by_cases e : x = b
    · subst e
      rw [upd_s, if_neg nb, if_neg hd2.1]
    · rw [upd_n _ _ (by omega), shf_n _ (by omega), upd_n _ _ (by omega), e7 x hx]
      simp [e]
theorem kLI.en1 {m y b : Nat} {nw ol : List Nat} {S : Nat → Int32} (hm : m * y ≤ 16) (H : kLI m y nw ol S) (n1 : b ∉ nw) (n2 : b ∉ ol) (hb : b < m * y) : kLI m y nw (ol ++ [b]) (sEn S b 1 ol.length) := by
  obtain ⟨e1, e2, e3, e4, e5, e6, e7⟩ := H
  have nd : (nw ++ (ol ++ [b])).Nodup := by
    rw [← List.append_assoc]
    exact List.nodup_append.mpr ⟨e5, by simp, fun x hx z hz => by
      rw [List.mem_singleton] at hz
      subst hz
      exact fun q => (List.mem_append.mp hx).elim (fun u => n1 (q ▸ u)) (fun u => n2 (q ▸ u))⟩
  have hlt : ∀ x ∈ nw ++ (ol ++ [b]), x < m * y := fun x hx => by
    rw [← List.append_assoc] at hx
    rcases List.mem_append.mp hx with h1 | h1
    · exact e6 x h1
    · rw [List.mem_singleton.mp h1]
      exact hb
  have hlen := nd_len _ _ nd hlt
  simp only [List.length_append, List.length_cons, List.length_nil] at hlen
  refine ⟨?_, ?_, e3.cong fun i hi => ?_, AL.snoc (e4.cong fun i hi => ?_) ?_, nd, hlt, fun x hx => ?_⟩
  · unfold sEn
    rw [upd_n _ _ (by omega), upd_n _ _ (by omega), upd_n _ _ (by omega), e1]
  · unfold sEn
    rw [upd_n _ _ (by omega)]
    rw [upd_e _ _ (by omega), List.length_append]
    rfl
  · unfold sEn
    rw [upd_n _ _ (by omega), upd_n _ _ (by omega), upd_n _ _ (by omega)]
  · unfold sEn
    rw [upd_n _ _ (by omega), upd_n _ _ (by omega), upd_n _ _ (by omega)]
  · unfold sEn
    rw [upd_n _ _ (by omega), upd_n _ _ (by omega), upd_e _ _ (by omega)]
  · unfold sEn
    by_cases e : x = b
    · subst e
      rw [upd_s, if_neg n1, if_pos (by simp)]
      rfl
    · rw [upd_n _ _ (by omega), upd_n _ _ (by omega), upd_n _ _ (by omega), e7 x hx]
      simp [e]
theorem kLI.en0 {m y b : Nat} {nw ol : List Nat} {S : Nat → Int32} (hm : m * y ≤ 16) (H : kLI m y nw ol S) (n1 : b ∉ nw) (n2 : b ∉ ol) (hb : b < m * y) : kLI m y (nw ++ [b]) ol (sEn S b 0 nw.length) := by
  obtain ⟨e1, e2, e3, e4, e5, e6, e7⟩ := H
  have hd := List.nodup_append.mp e5
  have nd : (nw ++ [b] ++ ol).Nodup := by
    refine List.nodup_append.mpr ⟨List.nodup_append.mpr ⟨hd.1, by simp, fun x hx z hz => ?_⟩, hd.2.1, fun x hx z hz => ?_⟩
    · rw [List.mem_singleton] at hz
      subst hz
      exact fun q => n1 (q ▸ hx)
    · rcases List.mem_append.mp hx with h1 | h1
      · exact hd.2.2 x h1 z hz
      · rw [List.mem_singleton] at h1
        subst h1
        exact fun q => n2 (q ▸ hz)
  have hlt : ∀ x ∈ nw ++ [b] ++ ol, x < m * y := fun x hx => by
    rcases List.mem_append.mp hx with h1 | h1
    · rcases List.mem_append.mp h1 with h2 | h2
      · exact e6 x (List.mem_append_left _ h2)
      · rw [List.mem_singleton.mp h2]
        exact hb
    · exact e6 x (List.mem_append_right _ h1)
  have hlen := nd_len _ _ nd hlt
  simp only [List.length_append, List.length_cons, List.length_nil] at hlen
  refine ⟨?_, ?_, AL.snoc (e3.cong fun i hi => ?_) ?_, e4.cong fun i hi => ?_, nd, hlt, fun x hx => ?_⟩
  · unfold sEn
    rw [upd_n _ _ (by omega)]
    rw [upd_e _ _ (by omega), List.length_append]
    rfl
  · unfold sEn
    rw [upd_n _ _ (by omega), upd_n _ _ (by omega), upd_n _ _ (by omega), e2]
  · unfold sEn
    rw [upd_n _ _ (by omega), upd_n _ _ (by omega), upd_n _ _ (by omega)]
  · unfold sEn
    rw [upd_n _ _ (by omega), upd_n _ _ (by omega), upd_e _ _ (by omega)]
  · unfold sEn
    rw [upd_n _ _ (by omega), upd_n _ _ (by omega), upd_n _ _ (by omega)]
  · unfold sEn
    by_cases e : x = b
    · subst e
      rw [upd_s, if_pos (by simp)]
      rfl
    · rw [upd_n _ _ (by omega), upd_n _ _ (by omega), upd_n _ _ (by omega), e7 x hx]
      simp [e]

section Li
variable {bg rl : Bool} {tb : Nat → Int32} {m y sn Bd n N tk : Nat} {nw ol L : List Nat} {h : Hp} {w : Nat} {S : Nat → Int32}
theorem Rel.lists (R : Rel bg rl tb m y sn Bd n N tk nw ol L h w S) {b : Nat} (hb : b < 16) {h' : Hp} {S' : Nat → Int32} {nw' ol' : List Nat} (v : Int32) (fr : ∀ o' j, o' ≠ w + 33 → o' ≠ w + 33 + 1 → (o' ≠ w + 16 + 1 + b ∨ j ≠ 6) → h' o' j = h o' j) (hv : h' (w + 16 + 1 + b) 6 = v) (fs : ∀ k, (k < 12 ∨ (14 ≤ k ∧ k < 18) ∨ 50 ≤ k) → k ≠ 68 + 13 * b + 2 → S' k = S k) (sv : S' (68 + 13 * b + 2) = v) (hLI : kLI m y nw' ol' S') (hLC : kLC nw' ol' h' w) : Rel bg rl tb m y sn Bd n N tk nw' ol' L h' w S' := by
  have hn200 := R.n200
  have hmy := R.my
  refine ⟨?_, ?_, ?_, ?_, ?_, ?_, ?_, ?_, ?_, ?_, ?_, ?_, ?_, ?_, ?_, ?_, ?_, ?_, ?_, ?_, ?_⟩
  · exact R.sc.cong (fun j _ _ => (by first | rfl | (simp (disch := omega) only [fr, fs]; done))) (by first | rfl | (simp (disch := omega) only [fr, fs]; done)) (fun j _ _ _ => (by first | rfl | (simp (disch := omega) only [fr, fs]; done))) (fun k _ _ _ _ => (by first | rfl | (simp (disch := omega) only [fr, fs]; done)))
  · intro b' hb'
    obtain ⟨e1, e2, e3, e4, e5, e6, e7, e8, e9, e10⟩ := R.bk b' hb'
    by_cases e : b' = b
    · subst e
      refine ⟨?_, ?_, ?_, ?_, ?_, ?_, ?_, ?_, ?_, ?_⟩ <;> first | exact hv.trans sv.symm | simp (disch := omega) only [fr, fs, e1, e2, e3, e4, e5, e6, e7, e8, e9, e10]
    · refine ⟨?_, ?_, ?_, ?_, ?_, ?_, ?_, ?_, ?_, ?_⟩ <;> simp (disch := omega) only [fr, fs, e1, e2, e3, e4, e5, e6, e7, e8, e9, e10]
  · exact R.fr.cong (fun j f _ _ _ => (by first | rfl | (simp (disch := omega) only [fr, fs]; done))) (fun f c _ _ => (by first | rfl | (simp (disch := omega) only [fr, fs]; done)))
  · exact R.ksn.cong (fun k j _ _ => (by first | rfl | (simp (disch := omega) only [fr, fs]; done))) (fun k _ _ => (by first | rfl | (simp (disch := omega) only [fr, fs]; done))) R.sn4
  · exact R.is.cong (fun k _ _ _ _ _ _ => (by first | rfl | (simp (disch := omega) only [fr, fs]; done)))
  · exact R.br.cong (fun b' c _ _ => (by first | rfl | (simp (disch := omega) only [fr, fs]; done)))
  · exact R.fi.cong (fun f c _ _ => (by first | rfl | (simp (disch := omega) only [fr, fs]; done))) R.n200
  · exact R.si.cong (fun k c _ _ => (by first | rfl | (simp (disch := omega) only [fr, fs]; done))) R.sn4
  · exact hLI
  · exact hLC
  · exact R.cb.cong (fun b' j _ _ => (by first | rfl | (simp (disch := omega) only [fr, fs]; done))) (fun f c _ _ => (by first | rfl | (simp (disch := omega) only [fr, fs]; done))) (fun b' _ => (by first | rfl | (simp (disch := omega) only [fr, fs]; done)))
  · exact R.cf.cong (fun f _ => (by first | rfl | (simp (disch := omega) only [fr, fs]; done))) (by first | rfl | (simp (disch := omega) only [fr, fs]; done)) (fun f c _ _ => (by first | rfl | (simp (disch := omega) only [fr, fs]; done))) (by first | rfl | (simp (disch := omega) only [fr, fs]; done)) (fun b' _ => (by first | rfl | (simp (disch := omega) only [fr, fs]; done)))
  · exact R.el.cong R.n200 (by first | rfl | (simp (disch := omega) only [fr, fs]; done)) (fun i _ => (by first | rfl | (simp (disch := omega) only [fr, fs]; done))) (fun k _ _ => (by first | rfl | (simp (disch := omega) only [fr, fs]; done))) (fun f c _ _ => (by first | rfl | (simp (disch := omega) only [fr, fs]; done)))
  · exact R.ep.cong R.hL R.hl (fun k _ => (by first | rfl | (simp (disch := omega) only [fr, fs]; done))) (fun f c _ _ => (by first | rfl | (simp (disch := omega) only [fr, fs]; done)))
  · exact R.eh.cong R.hL2 R.sn4 (fun k _ => (by first | rfl | (simp (disch := omega) only [fr, fs]; done))) (fun f c _ _ => (by first | rfl | (simp (disch := omega) only [fr, fs]; done)))
  · exact R.wi.cong (fun j i _ _ => (by first | rfl | (simp (disch := omega) only [fr, fs]; done))) (fun k _ => (by first | rfl | (simp (disch := omega) only [fr, fs]; done)))
  · exact R.ta.cong (fun j _ => (by first | rfl | (simp (disch := omega) only [fr, fs]; done))) (fun k _ _ => (by first | rfl | (simp (disch := omega) only [fr, fs]; done)))
  · exact R.pk.cong (by first | rfl | (simp (disch := omega) only [fr, fs]; done)) (by first | rfl | (simp (disch := omega) only [fr, fs]; done))
  · exact R.kbg.cong (fun b' _ => (by first | rfl | (simp (disch := omega) only [fr, fs]; done))) (fun f c _ _ => (by first | rfl | (simp (disch := omega) only [fr, fs]; done))) (fun b' _ => (by first | rfl | (simp (disch := omega) only [fr, fs]; done)))
  · exact R.px.cong R.hL2 (fun f _ _ => (by first | rfl | (simp (disch := omega) only [fr, fs]; done)))
  · exact R.lt.cong (by first | rfl | (simp (disch := omega) only [fr, fs]; done)) (by first | rfl | (simp (disch := omega) only [fr, fs]; done))
end Li
/-! watches -/
def addm (c : Nat → Int32) (p : Nat → Bool) (i : Nat) : Nat → Int32 := fun j => if j < i ∧ p j = true then c j + 1 else c j
theorem addm_0 (c : Nat → Int32) (p : Nat → Bool) : addm c p 0 = c := funext fun j => if_neg (by omega)
theorem addm_i (c : Nat → Int32) (p : Nat → Bool) (i : Nat) : addm c p i i = c i := if_neg (by omega)
theorem addm_y (c : Nat → Int32) {p : Nat → Bool} {i : Nat} (h : p i = true) : upd (addm c p i) i (c i + 1) = addm c p (i + 1) := by
  funext j
  unfold upd addm
  by_cases e : j = i
  · subst e
    rw [if_pos rfl, if_pos ⟨by omega, h⟩]
  · rw [if_neg e]
    by_cases e2 : j < i ∧ p j = true
    · rw [if_pos e2, if_pos ⟨by omega, e2.2⟩]
    · rw [if_neg e2, if_neg (fun z => e2 ⟨by omega, z.2⟩)]
theorem addm_no (c : Nat → Int32) {p : Nat → Bool} {i : Nat} (h : ¬ p i = true) : addm c p i = addm c p (i + 1) := by
  funext j
  unfold addm
  by_cases e : j = i
  · subst e
    rw [if_neg (by omega), if_neg (fun z => h z.2)]
  · by_cases e2 : j < i ∧ p j = true
    · rw [if_pos e2, if_pos ⟨by omega, e2.2⟩]
    · rw [if_neg e2, if_neg (fun z => e2 ⟨by omega, z.2⟩)]
theorem one_nz : ¬ (1 : Int32) = 0 := by decide
theorem note_0 (h : Hp) {o k : Nat} (hs : h o 3 = nI k) (hk : k ≤ 6) (v : Int32) : p_X7_note h o 0 v = some (va_up h (o + 3) (addm (h (o + 3)) (fun i => decide (¬ v < h (o + 2) i ∧ h (o + 1) i = 0)) k)) := by
  have n0 : o ≠ o + 3 := by omega
  have n1 : o + 1 ≠ o + 3 := by omega
  have n2 : o + 2 ≠ o + 3 := by omega
  have key := lp_for (b := b_X7_note_2 o 0 v) (fun i => (va_up h (o + 3) (addm (h (o + 3)) (fun i => decide (¬ v < h (o + 2) i ∧ h (o + 1) i = 0)) i), nI i)) k (va_up h (o + 3) (addm (h (o + 3)) (fun i => decide (¬ v < h (o + 2) i ∧ h (o + 1) i = 0)) k)) (fun K i hi => by
      have c1 : ¬ nI k ≤ nI i := nI_ge (by omega) (by omega)
      have c2 : ib (nI i) 6 := ib_n (by omega) (by omega)
      have e1 : (nI i).toNatClampNeg = i := nI_clamp (by omega)
      have d0 := (show ¬ (0 : Int32) = 3 by decide)
      have d1 := (show ¬ (0 : Int32) = 2 by decide)
      by_cases hv : v < h (o + 2) i
      · by_cases hg : h (o + 1) i = 0
        · simp only [b_X7_note_2, q_X7_note_82, q_X7_note_19, vu_o _ _ n0, vu_o _ _ n1, vu_o _ _ n2, hs, if_neg c1, if_pos c2, e1, nv_eq, nI_1, if_neg d0, if_neg d1, if_pos hv, if_pos hg, if_neg one_nz, if_true]
          rw [addm_no (h (o + 3)) (p := (fun i => decide (¬ v < h (o + 2) i ∧ h (o + 1) i = 0))) (by simp [hv, hg])]
        · simp only [b_X7_note_2, q_X7_note_82, q_X7_note_19, vu_o _ _ n0, vu_o _ _ n1, vu_o _ _ n2, hs, if_neg c1, if_pos c2, e1, nv_eq, nI_1, if_neg d0, if_neg d1, if_pos hv, if_neg hg, if_neg one_nz, if_true]
          rw [addm_no (h (o + 3)) (p := (fun i => decide (¬ v < h (o + 2) i ∧ h (o + 1) i = 0))) (by simp [hv, hg])]
      · by_cases hg : h (o + 1) i = 0
        · simp only [b_X7_note_2, q_X7_note_82, q_X7_note_19, vu_o _ _ n0, vu_o _ _ n1, vu_o _ _ n2, hs, if_neg c1, if_pos c2, e1, nv_eq, nI_1, if_neg d0, if_neg d1, if_neg hv, if_pos hg, if_neg one_nz, if_true]
          rw [vu_s, addm_i, hp_vu, addm_y (h (o + 3)) (p := (fun i => decide (¬ v < h (o + 2) i ∧ h (o + 1) i = 0))) (by simp [hv, hg])]
        · simp only [b_X7_note_2, q_X7_note_82, q_X7_note_19, vu_o _ _ n0, vu_o _ _ n1, vu_o _ _ n2, hs, if_neg c1, if_pos c2, e1, nv_eq, nI_1, if_neg d0, if_neg d1, if_neg hv, if_neg hg, if_neg one_nz, if_true]
          rw [addm_no (h (o + 3)) (p := (fun i => decide (¬ v < h (o + 2) i ∧ h (o + 1) i = 0))) (by simp [hv, hg])]) (fun K => by
      have c1 : nI k ≤ nI k := nI_le (Nat.le_refl _) (by omega)
      simp only [b_X7_note_2, vu_o _ _ n0, hs, if_pos c1]) k 0 FU (by omega) (FU_gt (by omega))
  rw [addm_0, vu_eta, nI_0] at key
  unfold p_X7_note
  exact key
theorem note_1 (h : Hp) {o k : Nat} (hs : h o 3 = nI k) (hk : k ≤ 6) (v : Int32) : p_X7_note h o 1 v = some (va_up h (o + 3) (addm (h (o + 3)) (fun i => decide (v = h (o + 2) i ∧ h (o + 1) i = 1)) k)) := by
  have n0 : o ≠ o + 3 := by omega
  have n1 : o + 1 ≠ o + 3 := by omega
  have n2 : o + 2 ≠ o + 3 := by omega
  have key := lp_for (b := b_X7_note_2 o 1 v) (fun i => (va_up h (o + 3) (addm (h (o + 3)) (fun i => decide (v = h (o + 2) i ∧ h (o + 1) i = 1)) i), nI i)) k (va_up h (o + 3) (addm (h (o + 3)) (fun i => decide (v = h (o + 2) i ∧ h (o + 1) i = 1)) k)) (fun K i hi => by
      have c1 : ¬ nI k ≤ nI i := nI_ge (by omega) (by omega)
      have c2 : ib (nI i) 6 := ib_n (by omega) (by omega)
      have e1 : (nI i).toNatClampNeg = i := nI_clamp (by omega)
      have d0 := (show ¬ (1 : Int32) = 0 by decide)
      have d1 := (show ¬ (1 : Int32) = 3 by decide)
      have d2 := (show ¬ (1 : Int32) = 2 by decide)
      by_cases hv : v = h (o + 2) i
      · by_cases hg : h (o + 1) i = 1
        · simp only [b_X7_note_2, q_X7_note_82, q_X7_note_19, vu_o _ _ n0, vu_o _ _ n1, vu_o _ _ n2, hs, if_neg c1, if_pos c2, e1, nv_eq, nI_1, if_neg d0, if_neg d1, if_neg d2, if_pos hv, if_pos hg, if_neg one_nz, if_true]
          rw [vu_s, addm_i, hp_vu, addm_y (h (o + 3)) (p := (fun i => decide (v = h (o + 2) i ∧ h (o + 1) i = 1))) (by simp [hv, hg])]
        · simp only [b_X7_note_2, q_X7_note_82, q_X7_note_19, vu_o _ _ n0, vu_o _ _ n1, vu_o _ _ n2, hs, if_neg c1, if_pos c2, e1, nv_eq, nI_1, if_neg d0, if_neg d1, if_neg d2, if_pos hv, if_neg hg, if_neg one_nz, if_true]
          rw [addm_no (h (o + 3)) (p := (fun i => decide (v = h (o + 2) i ∧ h (o + 1) i = 1))) (by simp [hv, hg])]
      · by_cases hg : h (o + 1) i = 1
        · simp only [b_X7_note_2, q_X7_note_82, q_X7_note_19, vu_o _ _ n0, vu_o _ _ n1, vu_o _ _ n2, hs, if_neg c1, if_pos c2, e1, nv_eq, nI_1, if_neg d0, if_neg d1, if_neg d2, if_neg hv, if_pos hg, if_neg one_nz, if_true]
          rw [addm_no (h (o + 3)) (p := (fun i => decide (v = h (o + 2) i ∧ h (o + 1) i = 1))) (by simp [hv, hg])]
        · simp only [b_X7_note_2, q_X7_note_82, q_X7_note_19, vu_o _ _ n0, vu_o _ _ n1, vu_o _ _ n2, hs, if_neg c1, if_pos c2, e1, nv_eq, nI_1, if_neg d0, if_neg d1, if_neg d2, if_neg hv, if_neg hg, if_neg one_nz, if_true]
          rw [addm_no (h (o + 3)) (p := (fun i => decide (v = h (o + 2) i ∧ h (o + 1) i = 1))) (by simp [hv, hg])]) (fun K => by
      have c1 : nI k ≤ nI k := nI_le (Nat.le_refl _) (by omega)
      simp only [b_X7_note_2, vu_o _ _ n0, hs, if_pos c1]) k 0 FU (by omega) (FU_gt (by omega))
  rw [addm_0, vu_eta, nI_0] at key
  unfold p_X7_note
  exact key
theorem note_2 (h : Hp) {o k : Nat} (hs : h o 3 = nI k) (hk : k ≤ 6) (v : Int32) : p_X7_note h o 2 v = some (va_up h (o + 3) (addm (h (o + 3)) (fun i => decide (¬ -(h (o + 2) i) ≤ v ∧ h (o + 1) i = 2)) k)) := by
  have n0 : o ≠ o + 3 := by omega
  have n1 : o + 1 ≠ o + 3 := by omega
  have n2 : o + 2 ≠ o + 3 := by omega
  have key := lp_for (b := b_X7_note_2 o 2 v) (fun i => (va_up h (o + 3) (addm (h (o + 3)) (fun i => decide (¬ -(h (o + 2) i) ≤ v ∧ h (o + 1) i = 2)) i), nI i)) k (va_up h (o + 3) (addm (h (o + 3)) (fun i => decide (¬ -(h (o + 2) i) ≤ v ∧ h (o + 1) i = 2)) k)) (fun K i hi => by
      have c1 : ¬ nI k ≤ nI i := nI_ge (by omega) (by omega)
      have c2 : ib (nI i) 6 := ib_n (by omega) (by omega)
      have e1 : (nI i).toNatClampNeg = i := nI_clamp (by omega)
      have d0 := (show ¬ (2 : Int32) = 0 by decide)
      have d1 := (show ¬ (2 : Int32) = 3 by decide)
      by_cases hv : -(h (o + 2) i) ≤ v
      · by_cases hg : h (o + 1) i = 2
        · simp only [b_X7_note_2, q_X7_note_82, q_X7_note_19, vu_o _ _ n0, vu_o _ _ n1, vu_o _ _ n2, hs, if_neg c1, if_pos c2, e1, nv_eq, nI_1, if_neg d0, if_neg d1, if_pos hv, if_pos hg, if_neg one_nz, if_true]
          rw [addm_no (h (o + 3)) (p := (fun i => decide (¬ -(h (o + 2) i) ≤ v ∧ h (o + 1) i = 2))) (by simp [hv, hg])]
        · simp only [b_X7_note_2, q_X7_note_82, q_X7_note_19, vu_o _ _ n0, vu_o _ _ n1, vu_o _ _ n2, hs, if_neg c1, if_pos c2, e1, nv_eq, nI_1, if_neg d0, if_neg d1, if_pos hv, if_neg hg, if_neg one_nz, if_true]
          rw [addm_no (h (o + 3)) (p := (fun i => decide (¬ -(h (o + 2) i) ≤ v ∧ h (o + 1) i = 2))) (by simp [hv, hg])]
      · by_cases hg : h (o + 1) i = 2
        · simp only [b_X7_note_2, q_X7_note_82, q_X7_note_19, vu_o _ _ n0, vu_o _ _ n1, vu_o _ _ n2, hs, if_neg c1, if_pos c2, e1, nv_eq, nI_1, if_neg d0, if_neg d1, if_neg hv, if_pos hg, if_neg one_nz, if_true]
          rw [vu_s, addm_i, hp_vu, addm_y (h (o + 3)) (p := (fun i => decide (¬ -(h (o + 2) i) ≤ v ∧ h (o + 1) i = 2))) (by simp [hv, hg])]
        · simp only [b_X7_note_2, q_X7_note_82, q_X7_note_19, vu_o _ _ n0, vu_o _ _ n1, vu_o _ _ n2, hs, if_neg c1, if_pos c2, e1, nv_eq, nI_1, if_neg d0, if_neg d1, if_neg hv, if_neg hg, if_neg one_nz, if_true]
          rw [addm_no (h (o + 3)) (p := (fun i => decide (¬ -(h (o + 2) i) ≤ v ∧ h (o + 1) i = 2))) (by simp [hv, hg])]) (fun K => by
      have c1 : nI k ≤ nI k := nI_le (Nat.le_refl _) (by omega)
      simp only [b_X7_note_2, vu_o _ _ n0, hs, if_pos c1]) k 0 FU (by omega) (FU_gt (by omega))
  rw [addm_0, vu_eta, nI_0] at key
  unfold p_X7_note
  exact key
theorem note_3 (h : Hp) {o k : Nat} (hs : h o 3 = nI k) (hk : k ≤ 6) (v : Int32) : p_X7_note h o 3 v = some (va_up h (o + 3) (addm (h (o + 3)) (fun i => decide (¬ v < h (o + 2) i ∧ h (o + 1) i = 3)) k)) := by
  have n0 : o ≠ o + 3 := by omega
  have n1 : o + 1 ≠ o + 3 := by omega
  have n2 : o + 2 ≠ o + 3 := by omega
  have key := lp_for (b := b_X7_note_2 o 3 v) (fun i => (va_up h (o + 3) (addm (h (o + 3)) (fun i => decide (¬ v < h (o + 2) i ∧ h (o + 1) i = 3)) i), nI i)) k (va_up h (o + 3) (addm (h (o + 3)) (fun i => decide (¬ v < h (o + 2) i ∧ h (o + 1) i = 3)) k)) (fun K i hi => by
      have c1 : ¬ nI k ≤ nI i := nI_ge (by omega) (by omega)
      have c2 : ib (nI i) 6 := ib_n (by omega) (by omega)
      have e1 : (nI i).toNatClampNeg = i := nI_clamp (by omega)
      have d0 := (show ¬ (3 : Int32) = 0 by decide)
      have d1 := (show ¬ (3 : Int32) = 2 by decide)
      by_cases hv : v < h (o + 2) i
      · by_cases hg : h (o + 1) i = 3
        · simp only [b_X7_note_2, q_X7_note_82, q_X7_note_19, vu_o _ _ n0, vu_o _ _ n1, vu_o _ _ n2, hs, if_neg c1, if_pos c2, e1, nv_eq, nI_1, if_neg d0, if_neg d1, if_pos hv, if_pos hg, if_neg one_nz, if_true]
          rw [addm_no (h (o + 3)) (p := (fun i => decide (¬ v < h (o + 2) i ∧ h (o + 1) i = 3))) (by simp [hv, hg])]
        · simp only [b_X7_note_2, q_X7_note_82, q_X7_note_19, vu_o _ _ n0, vu_o _ _ n1, vu_o _ _ n2, hs, if_neg c1, if_pos c2, e1, nv_eq, nI_1, if_neg d0, if_neg d1, if_pos hv, if_neg hg, if_neg one_nz, if_true]
          rw [addm_no (h (o + 3)) (p := (fun i => decide (¬ v < h (o + 2) i ∧ h (o + 1) i = 3))) (by simp [hv, hg])]
      · by_cases hg : h (o + 1) i = 3
        · simp only [b_X7_note_2, q_X7_note_82, q_X7_note_19, vu_o _ _ n0, vu_o _ _ n1, vu_o _ _ n2, hs, if_neg c1, if_pos c2, e1, nv_eq, nI_1, if_neg d0, if_neg d1, if_neg hv, if_pos hg, if_neg one_nz, if_true]
          rw [vu_s, addm_i, hp_vu, addm_y (h (o + 3)) (p := (fun i => decide (¬ v < h (o + 2) i ∧ h (o + 1) i = 3))) (by simp [hv, hg])]
        · simp only [b_X7_note_2, q_X7_note_82, q_X7_note_19, vu_o _ _ n0, vu_o _ _ n1, vu_o _ _ n2, hs, if_neg c1, if_pos c2, e1, nv_eq, nI_1, if_neg d0, if_neg d1, if_neg hv, if_neg hg, if_neg one_nz, if_true]
          rw [addm_no (h (o + 3)) (p := (fun i => decide (¬ v < h (o + 2) i ∧ h (o + 1) i = 3))) (by simp [hv, hg])]) (fun K => by
      have c1 : nI k ≤ nI k := nI_le (Nat.le_refl _) (by omega)
      simp only [b_X7_note_2, vu_o _ _ n0, hs, if_pos c1]) k 0 FU (by omega) (FU_gt (by omega))
  rw [addm_0, vu_eta, nI_0] at key
  unfold p_X7_note
  exact key
theorem note_4 (h : Hp) {o k : Nat} (hs : h o 3 = nI k) (hk : k ≤ 6) (v : Int32) : p_X7_note h o 4 v = some (va_up h (o + 3) (addm (h (o + 3)) (fun i => decide (v = h (o + 2) i ∧ h (o + 1) i = 4)) k)) := by
  have n0 : o ≠ o + 3 := by omega
  have n1 : o + 1 ≠ o + 3 := by omega
  have n2 : o + 2 ≠ o + 3 := by omega
  have key := lp_for (b := b_X7_note_2 o 4 v) (fun i => (va_up h (o + 3) (addm (h (o + 3)) (fun i => decide (v = h (o + 2) i ∧ h (o + 1) i = 4)) i), nI i)) k (va_up h (o + 3) (addm (h (o + 3)) (fun i => decide (v = h (o + 2) i ∧ h (o + 1) i = 4)) k)) (fun K i hi => by
      have c1 : ¬ nI k ≤ nI i := nI_ge (by omega) (by omega)
      have c2 : ib (nI i) 6 := ib_n (by omega) (by omega)
      have e1 : (nI i).toNatClampNeg = i := nI_clamp (by omega)
      have d0 := (show ¬ (4 : Int32) = 0 by decide)
      have d1 := (show ¬ (4 : Int32) = 3 by decide)
      have d2 := (show ¬ (4 : Int32) = 2 by decide)
      by_cases hv : v = h (o + 2) i
      · by_cases hg : h (o + 1) i = 4
        · simp only [b_X7_note_2, q_X7_note_82, q_X7_note_19, vu_o _ _ n0, vu_o _ _ n1, vu_o _ _ n2, hs, if_neg c1, if_pos c2, e1, nv_eq, nI_1, if_neg d0, if_neg d1, if_neg d2, if_pos hv, if_pos hg, if_neg one_nz, if_true]
          rw [vu_s, addm_i, hp_vu, addm_y (h (o + 3)) (p := (fun i => decide (v = h (o + 2) i ∧ h (o + 1) i = 4))) (by simp [hv, hg])]
        · simp only [b_X7_note_2, q_X7_note_82, q_X7_note_19, vu_o _ _ n0, vu_o _ _ n1, vu_o _ _ n2, hs, if_neg c1, if_pos c2, e1, nv_eq, nI_1, if_neg d0, if_neg d1, if_neg d2, if_pos hv, if_neg hg, if_neg one_nz, if_true]
          rw [addm_no (h (o + 3)) (p := (fun i => decide (v = h (o + 2) i ∧ h (o + 1) i = 4))) (by simp [hv, hg])]
      · by_cases hg : h (o + 1) i = 4
        · simp only [b_X7_note_2, q_X7_note_82, q_X7_note_19, vu_o _ _ n0, vu_o _ _ n1, vu_o _ _ n2, hs, if_neg c1, if_pos c2, e1, nv_eq, nI_1, if_neg d0, if_neg d1, if_neg d2, if_neg hv, if_pos hg, if_neg one_nz, if_true]
          rw [addm_no (h (o + 3)) (p := (fun i => decide (v = h (o + 2) i ∧ h (o + 1) i = 4))) (by simp [hv, hg])]
        · simp only [b_X7_note_2, q_X7_note_82, q_X7_note_19, vu_o _ _ n0, vu_o _ _ n1, vu_o _ _ n2, hs, if_neg c1, if_pos c2, e1, nv_eq, nI_1, if_neg d0, if_neg d1, if_neg d2, if_neg hv, if_neg hg, if_neg one_nz, if_true]
          rw [addm_no (h (o + 3)) (p := (fun i => decide (v = h (o + 2) i ∧ h (o + 1) i = 4))) (by simp [hv, hg])]) (fun K => by
      have c1 : nI k ≤ nI k := nI_le (Nat.le_refl _) (by omega)
      simp only [b_X7_note_2, vu_o _ _ n0, hs, if_pos c1]) k 0 FU (by omega) (FU_gt (by omega))
  rw [addm_0, vu_eta, nI_0] at key
  unfold p_X7_note
  exact key
theorem note_5 (h : Hp) {o k : Nat} (hs : h o 3 = nI k) (hk : k ≤ 6) (v : Int32) : p_X7_note h o 5 v = some (va_up h (o + 3) (addm (h (o + 3)) (fun i => decide (v = h (o + 2) i ∧ h (o + 1) i = 5)) k)) := by
  have n0 : o ≠ o + 3 := by omega
  have n1 : o + 1 ≠ o + 3 := by omega
  have n2 : o + 2 ≠ o + 3 := by omega
  have key := lp_for (b := b_X7_note_2 o 5 v) (fun i => (va_up h (o + 3) (addm (h (o + 3)) (fun i => decide (v = h (o + 2) i ∧ h (o + 1) i = 5)) i), nI i)) k (va_up h (o + 3) (addm (h (o + 3)) (fun i => decide (v = h (o + 2) i ∧ h (o + 1) i = 5)) k)) (fun K i hi => by
      have c1 : ¬ nI k ≤ nI i := nI_ge (by omega) (by omega)
      have c2 : ib (nI i) 6 := ib_n (by omega) (by omega)
      have e1 : (nI i).toNatClampNeg = i := nI_clamp (by omega)
      have d0 := (show ¬ (5 : Int32) = 0 by decide)
      have d1 := (show ¬ (5 : Int32) = 3 by decide)
      have d2 := (show ¬ (5 : Int32) = 2 by decide)
      by_cases hv : v = h (o + 2) i
      · by_cases hg : h (o + 1) i = 5
        · simp only [b_X7_note_2, q_X7_note_82, q_X7_note_19, vu_o _ _ n0, vu_o _ _ n1, vu_o _ _ n2, hs, if_neg c1, if_pos c2, e1, nv_eq, nI_1, if_neg d0, if_neg d1, if_neg d2, if_pos hv, if_pos hg, if_neg one_nz, if_true]
          rw [vu_s, addm_i, hp_vu, addm_y (h (o + 3)) (p := (fun i => decide (v = h (o + 2) i ∧ h (o + 1) i = 5))) (by simp [hv, hg])]
        · simp only [b_X7_note_2, q_X7_note_82, q_X7_note_19, vu_o _ _ n0, vu_o _ _ n1, vu_o _ _ n2, hs, if_neg c1, if_pos c2, e1, nv_eq, nI_1, if_neg d0, if_neg d1, if_neg d2, if_pos hv, if_neg hg, if_neg one_nz, if_true]
          rw [addm_no (h (o + 3)) (p := (fun i => decide (v = h (o + 2) i ∧ h (o + 1) i = 5))) (by simp [hv, hg])]
      · by_cases hg : h (o + 1) i = 5
        · simp only [b_X7_note_2, q_X7_note_82, q_X7_note_19, vu_o _ _ n0, vu_o _ _ n1, vu_o _ _ n2, hs, if_neg c1, if_pos c2, e1, nv_eq, nI_1, if_neg d0, if_neg d1, if_neg d2, if_neg hv, if_pos hg, if_neg one_nz, if_true]
          rw [addm_no (h (o + 3)) (p := (fun i => decide (v = h (o + 2) i ∧ h (o + 1) i = 5))) (by simp [hv, hg])]
        · simp only [b_X7_note_2, q_X7_note_82, q_X7_note_19, vu_o _ _ n0, vu_o _ _ n1, vu_o _ _ n2, hs, if_neg c1, if_pos c2, e1, nv_eq, nI_1, if_neg d0, if_neg d1, if_neg d2, if_neg hv, if_neg hg, if_neg one_nz, if_true]
          rw [addm_no (h (o + 3)) (p := (fun i => decide (v = h (o + 2) i ∧ h (o + 1) i = 5))) (by simp [hv, hg])]) (fun K => by
      have c1 : nI k ≤ nI k := nI_le (Nat.le_refl _) (by omega)
      simp only [b_X7_note_2, vu_o _ _ n0, hs, if_pos c1]) k 0 FU (by omega) (FU_gt (by omega))
  rw [addm_0, vu_eta, nI_0] at key
  unfold p_X7_note
  exact key
