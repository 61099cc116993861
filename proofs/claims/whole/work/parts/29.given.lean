theorem w_117 : Cond.instantiable RX9 3 ∈ lw_tbl := wi 117 (by decide +kernel)
theorem w_1293 : Cond.instantiable RX10 23 ∈ lw_tbl := wi 1293 (by decide +kernel)
/-! what the start gives -/
theorem n_lt {s : State} : ∀ a : Nat, a < s.heap.size → ¬ s.heap.size ≤ a := fun _ h => Nat.not_le.mpr h
def fl1 : List Cond := flatC (Jvm.Cond.and given_1 narrow_1)
def tmT (j : Nat) : Term := .static "QueueKeeper" (tbn j) "[I"
def tmS (i : Nat) : Term := .string (stO i).1 (stO i).2.1
theorem fl_T : ∀ j, j < 6 → Cond.arrayOf (tmT j) .int ∈ fl1 ∧ Cond.eq (.length (tmT j)) (.int (Int32.ofNat (tbl j).length)) ∈ fl1 ∧ ∀ i, i < (tbl j).length → Cond.eq (.elem (tmT j) (.int (Int32.ofNat i))) (.int (tbv j i)) ∈ fl1 := by decide +kernel
theorem fl_N : ∀ j, j < 6 → (tbl j).length < 2 ^ 31 := by decide +kernel
theorem fl_SN : ∀ i, i < 17 → stL.getD i 0 < 2 ^ 31 := by decide +kernel
theorem fl_S : ∀ i, i < 17 → Cond.exactly (tmS i) "java/lang/String" ∈ fl1 ∧ Cond.eq (.field (tmS i) "java/lang/String" "coder" "B") (.int 0) ∈ fl1 ∧ Cond.arrayOf (.field (tmS i) "java/lang/String" "value" "[B") .byte ∈ fl1 ∧ Cond.eq (.length (.field (tmS i) "java/lang/String" "value" "[B")) (.int (Int32.ofNat (stL.getD i 0))) ∈ fl1 := by decide +kernel
def cdE (i j : Nat) : Cond := Cond.eq (.elem (.field (tmS i) "java/lang/String" "value" "[B") (.int (Int32.ofNat j))) (.int ((stB.getD i []).getD j 0))
theorem fl_in {L : List Cond} (ix : List Nat) (h : L = ix.filterMap (fun i => fl1[i]?)) : ∀ w ∈ L, w ∈ fl1 := by
  intro w hw
  rw [h] at hw
  obtain ⟨i, -, hi⟩ := List.mem_filterMap.mp hw
  exact List.mem_of_getElem? hi
theorem fl_E0 : ∀ j, j < stL.getD 0 0 → cdE 0 j ∈ fl1 := fun j hj => fl_in (L := (List.range (stL.getD 0 0)).map (cdE 0)) [151, 152, 153, 154, 155, 156] (by decide +kernel) _ (List.mem_map.mpr ⟨j, List.mem_range.mpr hj, rfl⟩)
theorem fl_E1 : ∀ j, j < stL.getD 1 0 → cdE 1 j ∈ fl1 := fun j hj => fl_in (L := (List.range (stL.getD 1 0)).map (cdE 1)) [161, 162, 163, 164, 165, 166, 167, 168] (by decide +kernel) _ (List.mem_map.mpr ⟨j, List.mem_range.mpr hj, rfl⟩)
theorem fl_E2 : ∀ j, j < stL.getD 2 0 → cdE 2 j ∈ fl1 := fun j hj => fl_in (L := (List.range (stL.getD 2 0)).map (cdE 2)) [174, 175, 176, 177, 178, 179, 180] (by decide +kernel) _ (List.mem_map.mpr ⟨j, List.mem_range.mpr hj, rfl⟩)
theorem fl_E3 : ∀ j, j < stL.getD 3 0 → cdE 3 j ∈ fl1 := fun j hj => fl_in (L := (List.range (stL.getD 3 0)).map (cdE 3)) [187, 188, 189, 190] (by decide +kernel) _ (List.mem_map.mpr ⟨j, List.mem_range.mpr hj, rfl⟩)
theorem fl_E4 : ∀ j, j < stL.getD 4 0 → cdE 4 j ∈ fl1 := fun j hj => fl_in (L := (List.range (stL.getD 4 0)).map (cdE 4)) [198, 199, 200, 201] (by decide +kernel) _ (List.mem_map.mpr ⟨j, List.mem_range.mpr hj, rfl⟩)
theorem fl_E5 : ∀ j, j < stL.getD 5 0 → cdE 5 j ∈ fl1 := fun j hj => fl_in (L := (List.range (stL.getD 5 0)).map (cdE 5)) [210, 211, 212, 213, 214] (by decide +kernel) _ (List.mem_map.mpr ⟨j, List.mem_range.mpr hj, rfl⟩)
theorem fl_E6 : ∀ j, j < stL.getD 6 0 → cdE 6 j ∈ fl1 := fun j hj => fl_in (L := (List.range (stL.getD 6 0)).map (cdE 6)) [224, 225, 226, 227, 228] (by decide +kernel) _ (List.mem_map.mpr ⟨j, List.mem_range.mpr hj, rfl⟩)
theorem fl_E7 : ∀ j, j < stL.getD 7 0 → cdE 7 j ∈ fl1 := fun j hj => fl_in (L := (List.range (stL.getD 7 0)).map (cdE 7)) [239, 240, 241, 242] (by decide +kernel) _ (List.mem_map.mpr ⟨j, List.mem_range.mpr hj, rfl⟩)
theorem fl_E8 : ∀ j, j < stL.getD 8 0 → cdE 8 j ∈ fl1 := fun j hj => fl_in (L := (List.range (stL.getD 8 0)).map (cdE 8)) [254, 255, 256, 257, 258, 259] (by decide +kernel) _ (List.mem_map.mpr ⟨j, List.mem_range.mpr hj, rfl⟩)
theorem fl_E9 : ∀ j, j < stL.getD 9 0 → cdE 9 j ∈ fl1 := fun j hj => fl_in (L := (List.range (stL.getD 9 0)).map (cdE 9)) [272, 273, 274, 275] (by decide +kernel) _ (List.mem_map.mpr ⟨j, List.mem_range.mpr hj, rfl⟩)
theorem fl_E10 : ∀ j, j < stL.getD 10 0 → cdE 10 j ∈ fl1 := fun j hj => fl_in (L := (List.range (stL.getD 10 0)).map (cdE 10)) [289, 290, 291, 292] (by decide +kernel) _ (List.mem_map.mpr ⟨j, List.mem_range.mpr hj, rfl⟩)
theorem fl_E11 : ∀ j, j < stL.getD 11 0 → cdE 11 j ∈ fl1 := fun j hj => fl_in (L := (List.range (stL.getD 11 0)).map (cdE 11)) [307, 308] (by decide +kernel) _ (List.mem_map.mpr ⟨j, List.mem_range.mpr hj, rfl⟩)
theorem fl_E12 : ∀ j, j < stL.getD 12 0 → cdE 12 j ∈ fl1 := fun j hj => fl_in (L := (List.range (stL.getD 12 0)).map (cdE 12)) [324, 325, 326] (by decide +kernel) _ (List.mem_map.mpr ⟨j, List.mem_range.mpr hj, rfl⟩)
theorem fl_E13 : ∀ j, j < stL.getD 13 0 → cdE 13 j ∈ fl1 := fun j hj => fl_in (L := (List.range (stL.getD 13 0)).map (cdE 13)) [] (by decide +kernel) _ (List.mem_map.mpr ⟨j, List.mem_range.mpr hj, rfl⟩)
theorem fl_E14 : ∀ j, j < stL.getD 14 0 → cdE 14 j ∈ fl1 := fun j hj => fl_in (L := (List.range (stL.getD 14 0)).map (cdE 14)) [423, 424, 425, 426, 427, 428, 429, 430, 431, 432, 433, 434, 435, 436, 437, 438, 439, 440, 441, 442, 443, 444, 445, 446, 447, 448, 449, 450, 451, 452, 453, 454, 455, 456, 457, 458, 459, 460, 461, 462, 463, 464, 465, 466, 467, 468, 469, 470, 471, 472, 473, 474, 475, 476, 477, 478, 479, 480, 481, 482, 483, 484, 485, 486, 487, 488, 489, 490, 491, 492, 493, 494, 495, 496, 497] (by decide +kernel) _ (List.mem_map.mpr ⟨j, List.mem_range.mpr hj, rfl⟩)
theorem fl_E15 : ∀ j, j < stL.getD 15 0 → cdE 15 j ∈ fl1 := fun j hj => fl_in (L := (List.range (stL.getD 15 0)).map (cdE 15)) [360, 361, 362, 363, 364, 365, 366, 367, 368, 369, 370, 371, 372, 373] (by decide +kernel) _ (List.mem_map.mpr ⟨j, List.mem_range.mpr hj, rfl⟩)
theorem fl_E16 : ∀ j, j < stL.getD 16 0 → cdE 16 j ∈ fl1 := fun j hj => fl_in (L := (List.range (stL.getD 16 0)).map (cdE 16)) [392, 393, 394, 395, 396, 397, 398, 399, 400, 401, 402, 403] (by decide +kernel) _ (List.mem_map.mpr ⟨j, List.mem_range.mpr hj, rfl⟩)
theorem fl_E : ∀ i, i < 17 → ∀ j, j < stL.getD i 0 → cdE i j ∈ fl1 := by
  intro i hi
  match i, hi with
  | 0, _ => exact fl_E0
  | 1, _ => exact fl_E1
  | 2, _ => exact fl_E2
  | 3, _ => exact fl_E3
  | 4, _ => exact fl_E4
  | 5, _ => exact fl_E5
  | 6, _ => exact fl_E6
  | 7, _ => exact fl_E7
  | 8, _ => exact fl_E8
  | 9, _ => exact fl_E9
  | 10, _ => exact fl_E10
  | 11, _ => exact fl_E11
  | 12, _ => exact fl_E12
  | 13, _ => exact fl_E13
  | 14, _ => exact fl_E14
  | 15, _ => exact fl_E15
  | 16, _ => exact fl_E16
  | i + 17, hi => omega
def prD : List (Nat × Nat) := [(0, 1), (0, 2), (1, 2), (0, 3), (1, 3), (2, 3), (0, 4), (1, 4), (2, 4), (3, 4), (0, 5), (1, 5), (2, 5), (3, 5), (4, 5), (0, 6), (1, 6), (2, 6), (3, 6), (4, 6), (5, 6), (0, 7), (1, 7), (2, 7), (3, 7), (4, 7), (5, 7), (6, 7), (0, 8), (1, 8), (2, 8), (3, 8), (4, 8), (5, 8), (6, 8), (7, 8), (0, 9), (1, 9), (2, 9), (3, 9), (4, 9), (5, 9), (6, 9), (7, 9), (8, 9), (0, 10), (1, 10), (2, 10), (3, 10), (4, 10), (5, 10), (6, 10), (7, 10), (8, 10), (9, 10), (0, 11), (1, 11), (2, 11), (3, 11), (4, 11), (5, 11), (6, 11), (7, 11), (8, 11), (9, 11), (10, 11), (0, 12), (1, 12), (2, 12), (3, 12), (4, 12), (5, 12), (6, 12), (7, 12), (8, 12), (9, 12), (10, 12), (11, 12), (0, 13), (1, 13), (2, 13), (3, 13), (4, 13), (5, 13), (6, 13), (7, 13), (8, 13), (9, 13), (10, 13), (11, 13), (12, 13), (0, 15), (1, 15), (2, 15), (3, 15), (4, 15), (5, 15), (6, 15), (7, 15), (8, 15), (9, 15), (10, 15), (11, 15), (12, 15), (13, 15), (0, 16), (1, 16), (2, 16), (3, 16), (4, 16), (5, 16), (6, 16), (7, 16), (8, 16), (9, 16), (10, 16), (11, 16), (12, 16), (13, 16), (15, 16), (0, 14), (1, 14), (2, 14), (3, 14), (4, 14), (5, 14), (6, 14), (7, 14), (8, 14), (9, 14), (10, 14), (11, 14), (12, 14), (13, 14), (15, 14), (16, 14)]
theorem fl_D0 : ∀ w ∈ prD.map (fun q => Cond.not (Cond.eq (tmS q.1) (tmS q.2))), w ∈ fl1 := fl_in [169, 181, 182, 191, 192, 193, 202, 203, 204, 205, 215, 216, 217, 218, 219, 229, 230, 231, 232, 233, 234, 243, 244, 245, 246, 247, 248, 249, 260, 261, 262, 263, 264, 265, 266, 267, 276, 277, 278, 279, 280, 281, 282, 283, 284, 293, 294, 295, 296, 297, 298, 299, 300, 301, 302, 309, 310, 311, 312, 313, 314, 315, 316, 317, 318, 319, 327, 328, 329, 330, 331, 332, 333, 334, 335, 336, 337, 338, 343, 344, 345, 346, 347, 348, 349, 350, 351, 352, 353, 354, 355, 374, 375, 376, 377, 378, 379, 380, 381, 382, 383, 384, 385, 386, 387, 404, 405, 406, 407, 408, 409, 410, 411, 412, 413, 414, 415, 416, 417, 418, 498, 499, 500, 501, 502, 503, 504, 505, 506, 507, 508, 509, 510, 511, 512, 513] (by decide +kernel)
theorem fl_D1 : ∀ i, i < 17 → ∀ j, j < 17 → i = j ∨ (i, j) ∈ prD ∨ (j, i) ∈ prD := by decide +kernel
theorem fl_D : ∀ i, i < 17 → ∀ j, j < 17 → i ≠ j → Cond.not (Cond.eq (tmS i) (tmS j)) ∈ fl1 ∨ Cond.not (Cond.eq (tmS j) (tmS i)) ∈ fl1 := fun i hi j hj hij => ((fl_D1 i hi j hj).resolve_left hij).imp (fun h => fl_D0 _ (List.mem_map.mpr ⟨_, h, rfl⟩)) (fun h => fl_D0 _ (List.mem_map.mpr ⟨_, h, rfl⟩))
theorem fl_Z : ∀ j, j < 6 → Cond.laysStatic "QueueKeeper" (tbn j) "[I" ∈ lw_tbl := by decide +kernel
theorem fl_R : ∀ i, i < 17 → Cond.stringRef (stO i).1 (stO i).2.1 (stO i).2.2 ∈ lw_tbl := by decide +kernel
theorem fl_c1 : Cond.laysStatic "java/lang/String" "COMPACT_STRINGS" "Z" ∈ lw_tbl ∧ Cond.initialized "java/lang/String" ∈ lw_tbl ∧ Cond.eq (.static "java/lang/String" "COMPACT_STRINGS" "Z") (.int 1) ∈ fl1 := by decide +kernel
theorem fl_c2 : Cond.laysStatic "jdk/internal/util/Preconditions" "SIOOBE_FORMATTER" "Ljava/util/function/BiFunction;" ∈ lw_tbl ∧ Cond.initialized "jdk/internal/util/Preconditions" ∈ lw_tbl ∧ Cond.isRef (.static "jdk/internal/util/Preconditions" "SIOOBE_FORMATTER" "Ljava/util/function/BiFunction;") ∈ fl1 := by decide +kernel
theorem fl_c3 : Cond.laysStatic "java/lang/Throwable" "UNASSIGNED_STACK" "[Ljava/lang/StackTraceElement;" ∈ lw_tbl ∧ Cond.initialized "java/lang/Throwable" ∈ lw_tbl ∧ Cond.isRef (.static "java/lang/Throwable" "UNASSIGNED_STACK" "[Ljava/lang/StackTraceElement;") ∈ fl1 := by decide +kernel
theorem fl_c4 : Cond.laysStatic "java/lang/Throwable" "SUPPRESSED_SENTINEL" "Ljava/util/List;" ∈ lw_tbl ∧ Cond.isRef (.static "java/lang/Throwable" "SUPPRESSED_SENTINEL" "Ljava/util/List;") ∈ fl1 := by decide +kernel
theorem fl_nc : Cond.not (.castable xN xI) ∈ fl1 := by decide +kernel
theorem fl_qi : Cond.initialized "QueueKeeper" ∈ lw_tbl := by decide +kernel
theorem fl_ao : Cond.arrayOver (.object "QueueKeeper$Bucket") ∈ lw_tbl ∧ Cond.arrayOver (.object "QueueKeeper$Sender") ∈ lw_tbl := by decide +kernel
theorem st_of {s : State} {b : Nat} (h : (Jvm.Cond.and given_1 narrow_1).before #[Value.ref b] s = true) (hts : ∀ w ∈ lw_tbl, w.before #[Value.ref b] s = true) : ∃ gs : Nat → Nat, ∀ G : GT, G.2.2.1 = gs → ST G (fun q => s.heap.size ≤ q) s s.heap := by
  have hs : ∀ w ∈ fl1, w.before #[Value.ref b] s = true := flat_of_before _ h
  have hT : ∀ j : Nat, ∃ t : Nat, j < 6 → (tmT j).eval #[Value.ref b] s none [] s = some (.ref t) ∧ va_T .int t (tbl j).length (fun i => .int (tbv j i)) (fun q => s.heap.size ≤ q) s s.heap := by
    intro j
    by_cases hj : j < 6
    · obtain ⟨h1, h2, h3⟩ := fl_T j hj
      obtain ⟨t, ht, hT⟩ := va_Tof (N := (tbl j).length) (f := fun i => .int (tbv j i)) (A := fun q => s.heap.size ≤ q) (fl_N j hj) (hs _ h1) (va_eqt (hs _ h2)) (fun i hi => va_eqt (hs _ (h3 i hi))) n_lt
      exact ⟨t, fun _ => ⟨ht, hT⟩⟩
    · exact ⟨0, fun z => absurd z hj⟩
  obtain ⟨tb, htb⟩ := Classical.axiomOfChoice hT
  obtain ⟨adK, adV, hS, hev⟩ := vk_Sof (args := #[Value.ref b]) (s := s) (N := 17) (tm := tmS) (len := stL) (byt := stB) (A := fun q => s.heap.size ≤ q) fl_SN (fun i hi => hs _ (fl_S i hi).1) (fun i hi => hs _ (fl_S i hi).2.1) (fun i hi => hs _ (fl_S i hi).2.2.1) (fun i hi => hs _ (fl_S i hi).2.2.2) (fun i hi j hj => hs _ (fl_E i hi j hj)) (fun i j hi hj hij => (fl_D i hi j hj hij).imp (hs _) (hs _)) n_lt
  refine ⟨fun j => if j < 100 then tb j else if j < 200 then adK (j - 100) else adV (j - 200), fun G hG => ?_⟩
  have g1 : ∀ j, j < 6 → gsa G j = tb j := fun j hj => by
    unfold gsa
    rw [hG]
    exact if_pos (by omega)
  have g2 : ∀ i, i < 17 → gsa G (100 + i) = adK i := fun i hi => by
    unfold gsa
    rw [hG]
    show (if 100 + i < 100 then _ else _) = _
    rw [if_neg (by omega), if_pos (by omega), Nat.add_sub_cancel_left]
  have g3 : ∀ i, i < 17 → gsa G (200 + i) = adV i := fun i hi => by
    unfold gsa
    rw [hG]
    show (if 200 + i < 100 then _ else _) = _
    rw [if_neg (by omega), if_neg (by omega), Nat.add_sub_cancel_left]
  refine ⟨fun j hj => ?_, ⟨fun i hi => ?_, fun i j hi hj e => ?_⟩, fun i hi => ?_, va_Zof (hts _ fl_c1.1) (hts _ fl_c1.2.1) (va_eqi (hs _ fl_c1.2.2)) n_lt, va_Zqof (hts _ fl_c2.1) (hts _ fl_c2.2.1) (hs _ fl_c2.2.2) n_lt, va_Zqof (hts _ fl_c3.1) (hts _ fl_c3.2.1) (hs _ fl_c3.2.2) n_lt, va_Zqof (hts _ fl_c4.1) (hts _ fl_c3.2.1) (hs _ fl_c4.2) n_lt⟩
  · rw [g1 j hj]
    exact ⟨va_Zof (hts _ (fl_Z j hj)) (hts _ fl_qi) (htb j hj).1 n_lt, (htb j hj).2⟩
  · have := hS.1 i hi
    rw [← g2 i hi, ← g3 i hi] at this
    exact this
  · exact hS.2 i j hi hj (by rw [← g2 i hi, ← g2 j hj]; exact e)
  · rw [g2 i hi]
    exact vk_R.of (hts _ (fl_R i hi)) (hev i hi)
theorem ex_of {s : State} {b : Nat} (h : (Jvm.Cond.and given_1 narrow_1).before #[Value.ref b] s = true) (hts : ∀ w ∈ lw_tbl, w.before #[Value.ref b] s = true) : EX (fun q => s.heap.size ≤ q) s s.heap := by
  have hs : ∀ w ∈ fl1, w.before #[Value.ref b] s = true := flat_of_before _ h
  exact ⟨vx_Zqof (hts _ fl_c3.1) (hts _ fl_c3.2.1) (hs _ fl_c3.2.2) n_lt, vx_Zqof (hts _ fl_c4.1) (hts _ fl_c3.2.1) (hs _ fl_c4.2) n_lt, va_Nc.of (hs _ fl_nc)⟩
theorem ge_of {s : State} {b : Nat} (hts : ∀ w ∈ lw_tbl, w.before #[Value.ref b] s = true) : GE s ∧ GX s ∧ AO2 s := by
  refine ⟨fun w hw ho => okw_at ho (State.WarmedH.refl s) (hts w hw), fun w hw hc => ?_, va_AO.of (hts _ fl_ao.1), va_AO.of (hts _ fl_ao.2)⟩
  have h0 := hts w hw
  cases w <;> first
    | (simp [isCD] at hc; done)
    | exact va_tabs rfl rfl h0
theorem known_of {s : State} {b : Nat} (hts : ∀ w ∈ lw_tbl, w.before #[Value.ref b] s = true) : ∃ (D : va_G) (gc : Nat → ClassId), ∀ G : GT, G.1 = D → G.2.2.2 = gc → va_K G.1 vwCl (tysG G) s := by
  obtain ⟨c0, i0, h0⟩ := u_known (C := RX0) (T := TX0) (N := 14) (n := 14) hts (fun w hw => (inX0 w hw).1) (hts _ w_307)
  obtain ⟨c1, i1, h1⟩ := u_known (C := RX1) (T := TX1) (N := 15) (n := 15) hts (fun w hw => (inX1 w hw).1) (hts _ w_194)
  obtain ⟨c2, i2, h2⟩ := u_known (C := RX2) (T := TX2) (N := 3) (n := 3) hts (fun w hw => (inX2 w hw).1) (hts _ w_267)
  obtain ⟨c3, i3, h3⟩ := u_known (C := RX3) (T := TX3) (N := 17) (n := 17) hts (fun w hw => (inX3 w hw).1) (hts _ w_125)
  obtain ⟨c4, i4, h4⟩ := u_known (C := RX5) (T := TX5) (N := 10) (n := 10) hts (fun w hw => (inX5 w hw).1) (hts _ w_371)
  obtain ⟨c5, i5, h5⟩ := u_known (C := RX6) (T := TX6) (N := 2) (n := 2) hts (fun w hw => (inX6 w hw).1) (hts _ w_478)
  obtain ⟨c6, i6, h6⟩ := u_known (C := RX7) (T := TX7) (N := 4) (n := 4) hts (fun w hw => (inX7 w hw).1) (hts _ w_286)
  obtain ⟨c7, i7, h7⟩ := u_known (C := RX8) (T := TX8) (N := 13) (n := 13) hts (fun w hw => (inX8 w hw).1) (hts _ w_188)
  obtain ⟨c8, i8, h8⟩ := u_known (C := RX9) (T := TX9) (N := 3) (n := 3) hts (fun w hw => (inX9 w hw).1) (hts _ w_117)
  obtain ⟨c9, i9, h9⟩ := u_known (C := RX10) (T := TX10) (N := 23) (n := 23) hts (fun w hw => (inX10 w hw).1) (hts _ w_1293)
  obtain ⟨a0, k0, m0, f0, g0, e0⟩ := Cond.arrayClass_spec (hts _ w_ai)
  obtain ⟨a1, k1, m1, f1, g1, e1⟩ := Cond.arrayClass_spec (hts _ w_az)
  obtain ⟨a4, k4, m4, f4, g4, e4⟩ := Cond.arrayClass_spec (hts _ w_al)
  obtain ⟨m2, a2, k2, x2, y2, g2, e2, f2⟩ := Cond.arrayOver_spec (va_AO.of (hts _ fl_ao.1))
  obtain ⟨m3, a3, k3, x3, y3, g3, e3, f3⟩ := Cond.arrayOver_spec (va_AO.of (hts _ fl_ao.2))
  refine ⟨(fun k => [c0, c1, c2, c3, c4, c5, c6, c7, c8, c9].getD k 0, fun k => [i0, i1, i2, i3, i4, i5, i6, i7, i8, i9].getD k (fun _ => 0)), fun j => [a0, a1, a2, a3, a4].getD j 0, fun G hD hc => ⟨fun k q hq => ?_, fun k q hq => ?_⟩⟩
  · rw [hD]
    match k, hq with
    | 0, hq => cases hq; exact h0
    | 1, hq => cases hq; exact h1
    | 2, hq => cases hq; exact h2
    | 3, hq => cases hq; exact h3
    | 4, hq => cases hq; exact h4
    | 5, hq => cases hq; exact h5
    | 6, hq => cases hq; exact h6
    | 7, hq => cases hq; exact h7
    | 8, hq => cases hq; exact h8
    | 9, hq => cases hq; exact h9
    | k + 10, hq => simp at hq
  · have q0 : gca G 0 = a0 := by unfold gca; rw [hc]; rfl
    have q1 : gca G 1 = a1 := by unfold gca; rw [hc]; rfl
    have q2 : gca G 2 = a2 := by unfold gca; rw [hc]; rfl
    have q3 : gca G 3 = a3 := by unfold gca; rw [hc]; rfl
    have q4 : gca G 4 = a4 := by unfold gca; rw [hc]; rfl
    unfold tysG at hq
    rw [q0, q1, q2, q3, q4] at hq
    match k, hq with
    | 0, hq => cases hq; exact ⟨fun n z => ⟨fun k h => (by cases h), k0, g0, m0, e0⟩, f0⟩
    | 1, hq => cases hq; exact ⟨fun n z => ⟨fun k h => (by cases h), k1, g1, m1, e1⟩, f1⟩
    | 2, hq => cases hq; exact ⟨fun n z => ⟨fun k h => (by cases h), k2, g2, m2, e2⟩, k2, m2, g2, e2, x2, f2⟩
    | 3, hq => cases hq; exact ⟨fun n z => ⟨fun k h => (by cases h), k3, g3, m3, e3⟩, k3, m3, g3, e3, x3, f3⟩
    | 4, hq => cases hq; exact ⟨fun n z => ⟨fun k h => (by cases h), k4, g4, m4, e4⟩, f4⟩
    | k + 5, hq => simp at hq

