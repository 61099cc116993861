theorem w_116 : Cond.classLink RL 8 RX9 ∈ lw_tbl := wi 116 (by decide +kernel)
theorem w_118 : Cond.methodLink RL 17 yX9_init ∈ lw_tbl := wi 118 (by decide +kernel)
theorem w_119 : Cond.instanceMethod yX9_init ∈ lw_tbl := wi 119 (by decide +kernel)
theorem w_120 : Cond.code yX9_init cX9_init 1 none ∈ lw_tbl := wi 120 (by decide +kernel)
theorem w_1292 : Cond.classLink RL 18 RX10 ∈ lw_tbl := wi 1292 (by decide +kernel)
theorem w_1294 : Cond.methodLink RL 20 yX10_init ∈ lw_tbl := wi 1294 (by decide +kernel)
theorem w_1295 : Cond.instanceMethod yX10_init ∈ lw_tbl := wi 1295 (by decide +kernel)
theorem w_1296 : Cond.code yX10_init cX10_init 1 none ∈ lw_tbl := wi 1296 (by decide +kernel)
theorem dL_law_0 : decode code 0 = .ok (.new 8, 3) := by decide +kernel
theorem dL_law_3 : decode code 3 = .ok (.dup, 1) := by decide +kernel
theorem dL_law_4 : decode code 4 = .ok (.invokespecial 17, 3) := by decide +kernel
theorem dL_law_7 : decode code 7 = .ok (.astore_n 1, 1) := by decide +kernel
theorem dL_law_8 : decode code 8 = .ok (.new 18, 3) := by decide +kernel
theorem dL_law_11 : decode code 11 = .ok (.dup, 1) := by decide +kernel
theorem dL_law_12 : decode code 12 = .ok (.invokespecial 20, 3) := by decide +kernel
theorem dL_law_15 : decode code 15 = .ok (.astore_n 2, 1) := by decide +kernel
theorem dL_law_16 : decode code 16 = .ok (.iconst 1, 1) := by decide +kernel
theorem dL_law_17 : decode code 17 = .ok (.newarray .long, 2) := by decide +kernel
theorem dL_law_19 : decode code 19 = .ok (.astore_n 3, 1) := by decide +kernel
theorem dL_law_20 : decode code 20 = .ok (.iconst 0, 1) := by decide +kernel
theorem dL_law_21 : decode code 21 = .ok (.istore 4, 2) := by decide +kernel
set_option maxRecDepth 20000 in
set_option maxHeartbeats 4000000 in
theorem start_law {p : Program} {e : Env} {s : State} {m : MethodId} {below : List Frame} {meth : Method} {c : Code} (l : Launch) (hflags : l.flags = flags0) {b L : Nat} {xs : Nat → Int32} (C0 : lw_At p s m meth c b L xs) {h1 h2 : Hp} (hF : p_X10_freshText hM 110 = some h1) (hB : p_X10_begins h1 110 = some h2) (hpure : lp (b_law xs L) 600 (H0 h2, 0) = some ()) : W p l e room_1 s m #[Value.ref b] below meth c s.heap [] 0 0 (lw_Z below #[Value.ref b] s) (entryFrame m ([Value.ref b] : List Value).toArray 7) := by
  have hst : l.stackTraces = false := by
    unfold Launch.stackTraces
    rw [hflags]
    decide +kernel
  obtain ⟨hx, hb, hr, hml, hown, hts, hX, hbl, hlocks, hgv⟩ := C0
  obtain ⟨gs, hgs⟩ := st_of hgv hts
  obtain ⟨D, gc, hDk⟩ := known_of hts
  obtain ⟨hge, hgx, hao⟩ := ge_of hts
  have hexx := ex_of hgv hts
  obtain ⟨G, e1, e2, e3⟩ : ∃ G : GT, G.1 = D ∧ G.2.2.1 = gs ∧ G.2.2.2 = gc := ⟨(D, (fun _ => 0), gs, gc), rfl, rfl, rfl⟩
  have cx : CC p s m #[Value.ref b] meth c code 7 RL G (fun q => s.heap.size ≤ q) := ⟨hx, hb, hml, hown, hge, hDk G e1 e3, fun _ h => h, hgs G e2, Or.inr rfl, hao⟩
  have K : PC p l e room_1 s m #[Value.ref b] below meth c 7 G (fun q => s.heap.size ≤ q) 0 0 (lw_Z below #[Value.ref b] s) 0 [some (.ref b), none, none, none, none, none, none] [] [] := by
    refine n_new (pc := 0) (ci := 8) (fs := [.null, .null, .null]) (ty0 := tyX9) cx rfl inX9 tyX9_ok df_X9 w_116 w_117 w_94 ⟨Nat.le_of_ble_eq_true rfl, Nat.le_of_ble_eq_true rfl⟩ dL_law_0 (fun a => ?_)
    refine n_lit (ws := [(a, raw_X9)]) rfl ?_
    refine n_dup (pc := 3) cx dL_law_3 rfl ?_
    refine n_call (pc := 4) (wr := []) cx (c_X9_init l G a) [0] [] rfl rfl rfl rfl rfl (by decide) (Or.inl w_118) w_119 w_94 w_120 (by decide +kernel) rfl (by decide +kernel) ⟨Nat.le_of_ble_eq_true rfl, Nat.le_of_ble_eq_true rfl⟩ ⟨Nat.le_of_ble_eq_true rfl, Nat.le_of_ble_eq_true rfl⟩ (Nat.le_of_ble_eq_true rfl) dL_law_4 (fun u => ?_)
    refine n_lit (ws := wN_X9 G a u) rfl ?_
    refine n_astore1 (pc := 7) cx dL_law_7 (by decide) rfl ?_
    refine n_new (pc := 8) (ci := 9) (fs := [.int 0, .null, .int 0, .null, .null, .null, .int 0, .null, .int 0, .int 0, .int 0, .int 0, .int 0, .int 0, .int 0, .int 0, .int 0, .int 0, .int 0, .int 0, .null, .null, .int 0]) (ty0 := tyX10) cx rfl inX10 tyX10_ok df_X10 w_1292 w_1293 w_104 ⟨Nat.le_of_ble_eq_true rfl, Nat.le_of_ble_eq_true rfl⟩ dL_law_8 (fun am => ?_)
    refine n_lit (ws := wN_X9 G a u ++ [(am, raw_X10)]) rfl ?_
    refine n_dup (pc := 11) cx dL_law_11 rfl ?_
    refine n_call (pc := 12) (wr := wN_X9 G a u) cx (c_X10_init l G am h1 h2 hF hB) [94] [0, 1, 2, 3, 4, 5, 6, 7, 8, 9, 10, 11, 12, 13, 14, 15, 16, 17, 18, 19, 20, 21, 22, 23, 24, 25, 26, 27, 28, 29, 30, 31, 32, 33, 34, 35, 36, 37, 38, 39, 40, 41, 42, 43, 44, 45, 46, 47, 48, 49, 50, 51, 52, 53, 54, 55, 56, 57, 58, 59, 60, 61, 62, 63, 64, 65, 66, 67, 68, 69, 70, 71, 72, 73, 74, 75, 76, 77, 78, 79, 80, 81, 82, 83, 84, 85, 86, 87, 88, 89, 90, 91, 92, 93] rfl rfl rfl rfl (by decide +kernel) (by decide +kernel) (Or.inl w_1294) w_1295 w_104 w_1296 (by decide +kernel) rfl (by decide +kernel) ⟨Nat.le_of_ble_eq_true rfl, Nat.le_of_ble_eq_true rfl⟩ ⟨Nat.le_of_ble_eq_true rfl, Nat.le_of_ble_eq_true rfl⟩ (Nat.le_of_ble_eq_true rfl) dL_law_12 (fun um => ?_)
    refine n_astore2 (pc := 15) cx dL_law_15 (by decide) rfl ?_
    refine n_iconst (pc := 16) cx dL_law_16 kc_iconst_1 ?_
    refine n_newl (pc := 17) (N := 1) cx (by decide) (by decide) (Nat.le_of_ble_eq_true rfl) ⟨Nat.le_of_ble_eq_true rfl, Nat.le_of_ble_eq_true rfl⟩ dL_law_17 (fun ao => ?_)
    refine n_lit (ws := W3 G a u am um ao h2) rfl ?_
    refine n_astore3 (pc := 19) cx dL_law_19 (by decide) rfl ?_
    refine n_iconst (pc := 20) cx dL_law_20 kc_iconst_0 ?_
    refine n_istore4 (pc := 21) cx dL_law_21 (by decide) rfl ?_
    intro H locs ls hl hP hD hS
    have hD2 := fin_D hD
    have hgd : ∀ q ∈ obk, s.heap.size ≤ gad (GG G a u am um ao) q.1 := by
      intro q hq
      obtain ⟨k, hk⟩ := List.getElem?_of_mem hq
      exact hD2.2 k _ (wd_at (c := q.2) hk)
    have hAG : ∀ q, AG (GG G a u am um ao) s.heap.size q → s.heap.size ≤ q := by
      rintro q (⟨z, hz, rfl⟩ | hz)
      · exact hgd z hz
      · exact hz
    have cx2 : CX2 p s m #[Value.ref b] c code 7 RL (GG G a u am um ao) := ⟨⟨hx, hb, hml, hown, hge, hDk (GG G a u am um ao) e1 e3, (hgs (GG G a u am um ao) e2).narrow hAG⟩, hgx, hexx.narrow hAG⟩
    exact s_law (n := 600) (q := (H0 h2, 0)) cx2 hst ⟨hX, hbl, fun z => n_lt b hbl (hAG b z)⟩ hgd hr hlocks _ _ (Nat.le_of_ble_eq_true rfl) (Nat.le_of_ble_eq_true rfl) () hpure H locs ls hl ⟨fin_P hP, wd_D _ hD2, hS.1, fun q h3 h4 => hS.2.1 q h3 (fun z => absurd h3 (Nat.not_lt.mpr z)), fun z hz => Or.inr (hS.2.2 z hz)⟩
  have hl := lv_entry [Value.ref b] (n := 7) (Nat.le_of_ble_eq_true rfl)
  rw [lg_entry_eq]
  exact K s.heap [] _ (lv_init (av := [.ref b]) rfl rfl hl) (fun k q h => by simp at h) ⟨fun i j p q h => by simp at h, fun k q h => by simp at h⟩ va_S.rf
