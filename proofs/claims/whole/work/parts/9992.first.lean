/-! the class performs settings and senders -/
section Pf
variable {P2 : List (List Nat)} {tot : Nat}
theorem seg {Pa : List (List Nat)} {l : List Nat} {rest : List Nat} {j : Nat} (hj : j < l.length) : (Pa.flatten ++ (l ++ rest))[Pa.flatten.length + j]? = l[j]? := by
  rw [List.getElem?_append_right (by omega), show Pa.flatten.length + j - Pa.flatten.length = j by omega, List.getElem?_append_left hj]
theorem WC_up {h h' : Hp} {sk sk' : Nat} (H : WC h (0 + 10) sk) (h6 : h' (0 + 10) 6 = nI sk') (hj : ∀ j, j ≠ 6 → h' (0 + 10) j = h (0 + 10) j) (ho : ∀ o, o = 12 ∨ o = 25 ∨ (27 ≤ o ∧ o < 44) ∨ o = 50 → h' o = h o) : WC h' (0 + 10) sk' := by
  obtain ⟨⟨e6, e7, e8, e9, e10, e13, e14, l1, l2, w3⟩, tal, bk⟩ := H
  refine ⟨⟨h6, by rw [hj _ (by omega), e7], by rw [hj _ (by omega), e8], by rw [hj _ (by omega), e9], by rw [hj _ (by omega), e10], by rw [ho _ (by omega), e13], by rw [ho _ (by omega), e14], by rw [ho _ (by omega), l1], by rw [ho _ (by omega), l2], by rw [ho _ (by omega), w3]⟩, fun j hj => by rw [ho _ (by omega), tal j hj], fun b hb => ?_⟩
  rw [ho _ (by omega)]
  exact bk b hb
theorem pf1 {O : Nat → Int32} {Lx : List Nat} (hLx : Lx.length ≤ 900) (hA : AL O 0 Lx) (Pb : List (List Nat)) : ∀ (Pa : List (List Nat)) (rest : List Nat) (g : Hp) (M : Nat), Lx = Pa.flatten ++ (Pb.flatten ++ rest) → (∀ l ∈ Pb, okS l ∨ okN l) → (hdl 8 (Pa ++ Pb)).length ≤ 4 → (Pa ++ Pb).length ≤ tot → tot < 2 ^ 30 → g (0 + 1) 9 = nI tot → g (0 + 1) 8 = nI Lx.length → g (0 + 1 + 2) = O → FW g Pa → ∃ g', lp (b_X9_perform_4 0) (M + Pb.length) (g, nI Pa.flatten.length, nI Pa.length) = lp (b_X9_perform_4 0) M (g', nI (Pa ++ Pb).flatten.length, nI (Pa ++ Pb).length) ∧ FW g' (Pa ++ Pb) ∧ (∀ o, o < 10 ∨ 54 ≤ o → g' o = g o) ∧ g' (0 + 10) 12 = g (0 + 10) 12 := by
  induction Pb with
  | nil =>
    intro Pa rest g M _ _ _ _ _ _ _ _ HF
    rw [List.append_nil]
    exact ⟨g, rfl, HF, fun _ _ => rfl, rfl⟩
  | cons l Pb ih =>
    intro Pa rest g M eL hok h4 htot ht g9 g8 gO HF
    rw [List.flatten_cons, List.append_assoc] at eL
    have e2 : Pa ++ l :: Pb = (Pa ++ [l]) ++ Pb := by rw [List.append_assoc]; rfl
    have eL2 : Lx = (Pa ++ [l]).flatten ++ (Pb.flatten ++ rest) := by rw [eL, flat_s, List.append_assoc]
    rw [e2] at h4 htot ⊢
    have hlt : Pa.length < tot := by
      rw [List.length_append, List.length_append] at htot
      have : [l].length = 1 := rfl
      omega
    have hfl : Pa.flatten.length + l.length ≤ 900 := by
      have := congrArg List.length eL
      rw [List.length_append, List.length_append] at this
      omega
    have oa : ∀ (g1 : Hp), g1 (0 + 1) 8 = nI Lx.length → g1 (0 + 1 + 2) = O → ∀ j x, l[j]? = some x → p_X3_orderAt g1 (0 + 1) (nI (Pa.flatten.length + j)) = some (nI x, g1) := fun g1 h1 h2 j x hx => by
      refine ord_at h1 h2 hA hLx ?_
      rw [eL, seg (List.getElem?_eq_some_iff.mp hx).1]
      exact hx
    -- one line, then the others
    have fin : ∀ g1 : Hp, (∀ K : Hp × Int32 × Int32 → Option Hp, b_X9_perform_4 0 K (g, nI Pa.flatten.length, nI Pa.length) = K (g1, nI (Pa.flatten.length + l.length), nI (Pa.length + 1))) → FW g1 (Pa ++ [l]) → (∀ o, o < 10 ∨ 54 ≤ o → g1 o = g o) → g1 (0 + 10) 12 = g (0 + 10) 12 → ∃ g', lp (b_X9_perform_4 0) (M + (l :: Pb).length) (g, nI Pa.flatten.length, nI Pa.length) = lp (b_X9_perform_4 0) M (g', nI (Pa ++ [l] ++ Pb).flatten.length, nI (Pa ++ [l] ++ Pb).length) ∧ FW g' (Pa ++ [l] ++ Pb) ∧ (∀ o, o < 10 ∨ 54 ≤ o → g' o = g o) ∧ g' (0 + 10) 12 = g (0 + 10) 12 := fun g1 hs HF1 hfr h12 => by
      obtain ⟨g', k1, k2, k3, k4⟩ := ih (Pa ++ [l]) rest g1 M eL2 (fun l' hl' => hok l' (List.mem_cons_of_mem _ hl')) h4 htot ht (by rw [hfr _ (by omega), g9]) (by rw [hfr _ (by omega), g8]) (by rw [hfr _ (by omega), gO]) HF1
      refine ⟨g', ?_, k2, fun o ho => by rw [k3 o ho, hfr o ho], by rw [k4, h12]⟩
      rw [← k1, List.length_cons, ← Nat.add_assoc, lp_s, hs, flat_s, List.length_append, List.length_append]
      rfl
    have go : ∀ (i v : Nat), l[0]? = some i → l[1]? = some v → ∀ K : Hp × Int32 × Int32 → Option Hp, i < 13 → b_X9_perform_4 0 K (g, nI Pa.flatten.length, nI Pa.length) = if i < 8 then K (hp g (0 + 10 + 1) i (nI v), nI (Pa.flatten.length + (1 + cntw i)), nI (Pa.length + 1)) else q_X9_perform_60 K g 0 (nI Pa.flatten.length) (nI Pa.length) (nI i) (nI v) := fun i v h0 h1 K hi => by
      have o0 := oa g g8 gO 0 i h0
      have o1 := oa g g8 gO 1 v h1
      rw [show Pa.flatten.length + 0 = Pa.flatten.length from rfl] at o0
      unfold b_X9_perform_4
      dsimp +instances only
      rw [if_neg (by rw [g9]; exact nI_ge hlt (by omega)), o0, Option.bind_some]
      dsimp +instances only
      rw [nI_1, o1, Option.bind_some]
      dsimp +instances only
      rw [if_neg (nI_pos (by omega))]
      by_cases u : i < 8
      · rw [if_pos u, if_neg (show ¬ (8 : Int32) ≤ nI i from nI_ge (b := 8) u (by omega))]
        simp only [if_pos (show ib (nI i) 8 from ib_n u (by omega)), nI_clamp (show i < 2 ^ 31 by omega)]
        rw [nv_eq, (cnt_ok hi _).1, Option.bind_some]
        dsimp +instances only
        rw [nv_eq, show (1 : Int32) + nI (cntw i) = nI (1 + cntw i) from nI_add 1 _, nI_add, nI_1]
      · rw [if_neg u, if_pos (show (8 : Int32) ≤ nI i from nI_le (a := 8) (by omega) (by omega))]
    rcases hok l List.mem_cons_self with ⟨i, v, lo, hi, i8, _, _, _, _, _, el⟩ | ⟨a, b, w, x, m, _, _, _, _, _, _, _, _, el⟩
    · subst el
      have c1w : cntw i = 1 := by
        rcases (show i = 0 ∨ i = 1 ∨ i = 2 ∨ i = 3 ∨ i = 4 ∨ i = 5 ∨ i = 6 ∨ i = 7 by omega) with rfl | rfl | rfl | rfl | rfl | rfl | rfl | rfl <;> rfl
      refine fin (hp g (0 + 10 + 1) i (nI v)) (fun K => ?_) ?_ (fun o ho => hp_n (by omega)) (hp_o' _ _ (by omega))
      · rw [go i v rfl rfl K (by omega), if_pos i8, c1w]
        rfl
      · have nh : ¬ ([i, v] : List Nat).head? = some 8 := fun u => by
          have : i = 8 := Option.some.inj u
          omega
        have h8e : hdl 8 (Pa ++ [[i, v]]) = hdl 8 Pa := by rw [hdl_s, if_neg nh, List.append_nil]
        obtain ⟨f1, f2, f3⟩ := HF
        refine ⟨?_, fun j hj => ?_, fun k l' hk => ?_⟩
        · rw [h8e]
          exact WC_up f1 (by rw [hp_o' _ _ (by omega)]; exact f1.1.1) (fun j _ => hp_o' _ _ (by omega)) (fun o ho => hp_n (by omega))
        · rw [vset_s]
          by_cases e : i = j
          · subst e
            rw [hp_s, if_pos (show ([i, v] : List Nat).head? = some i from rfl)]
            rfl
          · rw [hp_k _ _ (fun u => e u.symm), f2 j hj, if_neg (show ¬ ([i, v] : List Nat).head? = some j from fun u => e (Option.some.inj u))]
        · rw [h8e] at hk
          have hkl := (List.getElem?_eq_some_iff.mp hk).1
          have h4' : (hdl 8 Pa).length ≤ 4 := by
            have : (hdl 8 (Pa ++ [[i, v]] ++ Pb)).length = (hdl 8 (Pa ++ [[i, v]])).length + (hdl 8 Pb).length := by
              unfold hdl
              rw [List.filter_append, List.length_append]
            rw [this, h8e] at h4
            omega
          rw [hp_n (by omega)]
          exact f3 k l' hk
    · subst el
      obtain ⟨f1, f2, f3⟩ := HF
      obtain ⟨sk, hsk⟩ : ∃ sk, sk = (hdl 8 Pa).length := ⟨_, rfl⟩
      have h8e : hdl 8 (Pa ++ [[8, a, b, w, x, m]]) = hdl 8 Pa ++ [[8, a, b, w, x, m]] := by rw [hdl_s, if_pos (show ([8, a, b, w, x, m] : List Nat).head? = some 8 from rfl)]
      have h8l : (hdl 8 (Pa ++ [[8, a, b, w, x, m]])).length = sk + 1 := by rw [h8e, List.length_append, ← hsk]; rfl
      have sk4 : sk < 4 := by
        have : (hdl 8 (Pa ++ [[8, a, b, w, x, m]] ++ Pb)).length = (hdl 8 (Pa ++ [[8, a, b, w, x, m]])).length + (hdl 8 Pb).length := by
          unfold hdl
          rw [List.filter_append, List.length_append]
        rw [this, h8l] at h4
        omega
      have g6 : g (0 + 10) 6 = nI sk := by rw [hsk]; exact f1.1.1
      obtain ⟨G, hG⟩ : ∃ G, G = hp (hp (hp (hp (hp (hp (hp (hp (hp (hp g (0 + 10 + 35 + 1 + sk) 0 (nI a)) (0 + 10 + 35 + 1 + sk) 1 (nI b)) (0 + 10 + 35 + 1 + sk) 2 (nI (100 * w))) (0 + 10 + 35 + 1 + sk) 3 (nI x)) (0 + 10 + 35 + 1 + sk) 4 (nI m)) (0 + 10 + 35 + 1 + sk) 5 0) (0 + 10 + 35 + 1 + sk) 6 0) (0 + 10 + 35 + 1 + sk) 7 (-2)) (0 + 10 + 35 + 1 + sk) 8 0) (0 + 10 + 35 + 1 + sk) 9 0 := ⟨_, rfl⟩
      have Gn : ∀ o, o ≠ 0 + 10 + 35 + 1 + sk → G o = g o := fun o ho => by
        rw [hG]
        simp (disch := exact ho) only [hp_n]
      refine fin (hp G (0 + 10) 6 (nI (sk + 1))) (fun K => ?_) ?_ (fun o ho => by rw [hp_n (by omega), Gn o (by omega)]) (by rw [hp_k _ _ (by omega), Gn _ (by omega)])
      · rw [go 8 a rfl rfl K (by omega), if_neg (by omega)]
        unfold q_X9_perform_60
        rw [if_pos (show nI 8 = 8 from rfl)]
        have asd : p_X8_addSender g (0 + 10) (0 + 1) (nI (Pa.flatten.length + 1)) = some (hp G (0 + 10) 6 (nI (sk + 1))) := by
          have pre : ∀ (g1 : Hp), (∀ o, o ≠ 0 + 10 + 35 + 1 + sk → g1 o = g o) → ∀ j y, ([8, a, b, w, x, m] : List Nat)[j]? = some y → p_X3_orderAt g1 (0 + 1) (nI (Pa.flatten.length + j)) = some (nI y, g1) := fun g1 hg1 j y hy => oa g1 (by rw [hg1 _ (by omega), g8]) (by rw [hg1 _ (by omega), gO]) j y hy
          have nn : ∀ (g1 : Hp) (j : Nat) (v : Int32), (∀ o, o ≠ 0 + 10 + 35 + 1 + sk → g1 o = g o) → ∀ o, o ≠ 0 + 10 + 35 + 1 + sk → hp g1 (0 + 10 + 35 + 1 + sk) j v o = g o := fun g1 j v hg1 o ho => by rw [hp_n ho, hg1 o ho]
          have n0 : ∀ o, o ≠ 0 + 10 + 35 + 1 + sk → g o = g o := fun _ _ => rfl
          unfold p_X8_addSender
          rw [g6, if_neg (show ¬ (4 : Int32) ≤ nI sk from nI_ge (b := 4) sk4 (by omega)), if_pos (ib_n sk4 (by omega)), nI_clamp (by omega)]
          unfold p_X5_begin
          rw [pre g n0 1 a rfl, Option.bind_some]
          dsimp +instances only
          rw [nv_eq, show nI (Pa.flatten.length + 1) + 1 = nI (Pa.flatten.length + 2) from nI_1 _, pre _ (nn _ _ _ n0) 2 b rfl, Option.bind_some]
          dsimp +instances only
          rw [nv_eq, show nI (Pa.flatten.length + 1) + 2 = nI (Pa.flatten.length + 3) from nI_add _ 2, pre _ (nn _ _ _ (nn _ _ _ n0)) 3 w rfl, Option.bind_some]
          dsimp +instances only
          rw [nv_eq, show nI (Pa.flatten.length + 1) + 3 = nI (Pa.flatten.length + 4) from nI_add _ 3, pre _ (nn _ _ _ (nn _ _ _ (nn _ _ _ n0))) 4 x rfl, Option.bind_some]
          dsimp +instances only
          rw [nv_eq, show nI (Pa.flatten.length + 1) + 4 = nI (Pa.flatten.length + 5) from nI_add _ 4, pre _ (nn _ _ _ (nn _ _ _ (nn _ _ _ (nn _ _ _ n0)))) 5 m rfl, Option.bind_some]
          dsimp +instances only
          rw [nv_eq, nv_eq, nv_eq, nv_eq, nv_eq, nv_eq, Option.bind_some, show (100 : Int32) * nI w = nI (100 * w) from nI_mul 100 w, ← hG, nv_eq, Gn _ (by omega), g6, nI_1]
        rw [nI_1, asd, Option.bind_some, (cnt_ok (show 8 < 13 by omega) _).1, Option.bind_some]
        dsimp +instances only
        rw [nv_eq, show (1 : Int32) + nI (cntw 8) = nI (1 + cntw 8) from nI_add 1 _, nI_add, nI_1]
        rfl
      · refine ⟨?_, fun j hj => ?_, fun k l' hk => ?_⟩
        · rw [h8l]
          exact WC_up f1 (hp_s _ _ _ _) (fun j hj => by rw [hp_k _ _ hj, Gn _ (by omega)]) (fun o ho => by rw [hp_n (by omega), Gn _ (by omega)])
        · rw [vset_s, if_neg (show ¬ ([8, a, b, w, x, m] : List Nat).head? = some j from fun u => by have : 8 = j := Option.some.inj u; omega), hp_n (by omega), Gn _ (by omega), f2 j hj]
        · rw [h8e] at hk
          by_cases u : k < sk
          · rw [List.getElem?_append_left (by omega)] at hk
            rw [hp_n (by omega), Gn _ (by omega)]
            exact f3 k l' hk
          · rw [List.getElem?_append_right (by omega)] at hk
            have hk0 : k = sk := by
              have := (List.getElem?_eq_some_iff.mp hk).1
              rw [List.length_singleton] at this
              omega
            subst hk0
            rw [← hsk, Nat.sub_self] at hk
            have hl : l' = [8, a, b, w, x, m] := (Option.some.inj hk).symm
            subst hl
            rw [hp_n (by omega), hG]
            refine ⟨?_, ?_, ?_, ?_, ?_, ?_, ?_, ?_, ?_, ?_⟩ <;> simp (disch := omega) only [hp_k, hp_s] <;> rfl
end Pf
