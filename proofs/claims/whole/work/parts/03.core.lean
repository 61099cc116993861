/-! the pure heap: an object by its number, a place in it, what it holds -/
abbrev Hp : Type := Nat → Nat → Int32
def hp (h : Hp) (o k : Nat) (v : Int32) : Hp := va_up h o (upd (h o) k v)
theorem hp_o (h : Hp) (o k : Nat) (v : Int32) : hp h o k v o = upd (h o) k v := by simp [hp, va_up]
theorem hp_n {h : Hp} {o k : Nat} {v : Int32} {o' : Nat} (n : o' ≠ o) : hp h o k v o' = h o' := by simp [hp, va_up, n]
/-- class numbers and slots; where object o lies; where static tables and texts lie; the arrays' classes -/
abbrev GT : Type := va_G × (Nat → Nat) × (Nat → Nat) × (Nat → ClassId)
def gad (G : GT) (o : Nat) : Nat := G.2.1 o
def gsa (G : GT) (j : Nat) : Nat := G.2.2.1 j
def gca (G : GT) (j : Nat) : ClassId := G.2.2.2 j
def tysG (G : GT) : List (ClassId × FieldType) := [(gca G 0, .int), (gca G 1, .boolean), (gca G 2, .object "QueueKeeper$Bucket"), (gca G 3, .object "QueueKeeper$Sender"), (gca G 4, .long)]
def kdl : List (Nat × Nat) → Nat → Nat
  | [], _ => 99999
  | q :: l, o => if o = q.1 then q.2 else kdl l o
theorem kdl_mem : ∀ (l : List (Nat × Nat)) {o c : Nat}, kdl l o = c → c ≠ 99999 → (o, c) ∈ l
  | [], o, c, h, hc => absurd h.symm hc
  | q :: l, o, c, h, hc => by
    unfold kdl at h
    by_cases e : o = q.1
    · rw [if_pos e] at h
      rw [show (o, c) = q from by rw [← h, e]]
      exact List.mem_cons_self
    · rw [if_neg e] at h
      exact List.mem_cons_of_mem _ (kdl_mem l h hc)
def obk : List (Nat × Nat) := [(0, 8), (1, 3), (2, 10900), (3, 10900), (4, 10004), (10, 7), (11, 10008), (12, 1), (13, 10200), (14, 10200), (15, 10200), (16, 10200), (17, 10200), (18, 10200), (19, 10200), (20, 10200), (21, 10200), (22, 10200), (23, 10200), (24, 10200), (25, 10005), (26, 20), (27, 0), (28, 0), (29, 0), (30, 0), (31, 0), (32, 0), (33, 0), (34, 0), (35, 0), (36, 0), (37, 0), (38, 0), (39, 0), (40, 0), (41, 0), (42, 0), (43, 2), (44, 10016), (45, 21), (46, 4), (47, 4), (48, 4), (49, 4), (50, 6), (51, 10006), (52, 10006), (53, 10006), (59, 5), (60, 7), (61, 10008), (62, 1), (63, 10200), (64, 10200), (65, 10200), (66, 10200), (67, 10200), (68, 10200), (69, 10200), (70, 10200), (71, 10200), (72, 10200), (73, 10200), (74, 10200), (75, 10005), (76, 20), (77, 0), (78, 0), (79, 0), (80, 0), (81, 0), (82, 0), (83, 0), (84, 0), (85, 0), (86, 0), (87, 0), (88, 0), (89, 0), (90, 0), (91, 0), (92, 0), (93, 2), (94, 10016), (95, 21), (96, 4), (97, 4), (98, 4), (99, 4), (100, 6), (101, 10006), (102, 10006), (103, 10006), (110, 9), (111, 10900), (112, 10008), (113, 20008), (114, 10020), (115, 10900), (116, 13715), (117, 13715), (120, 22)]
def flds (G : GT) (h : Hp) (o : Nat) : Nat → List Value
  | 0 => [.int (h o 0), .int (h o 1), .int (h o 2), .int (h o 3), .int (h o 4), .int (h o 5), .int (h o 6), .int (h o 7), .int (h o 8), .int (h o 9), .int (h o 10), .int (h o 11), .int (h o 12), .int (h o 13)]
  | 1 => [.ref (gad G (o + 1)), .ref (gad G (o + 2)), .ref (gad G (o + 3)), .ref (gad G (o + 4)), .ref (gad G (o + 5)), .ref (gad G (o + 6)), .ref (gad G (o + 7)), .ref (gad G (o + 8)), .ref (gad G (o + 9)), .ref (gad G (o + 10)), .ref (gad G (o + 11)), .ref (gad G (o + 12)), .ref (gad G (o + 13)), .int (h o 13), .int (h o 14)]
  | 2 => [.ref (gad G (o + 1)), .int (h o 1), .int (h o 2)]
  | 3 => [.ref (gad G (o + 1)), .int (h o 1), .int (h o 2), .int (h o 3), .int (h o 4), .int (h o 5), .int (h o 6), .ref (gad G (o + 2)), .int (h o 8), .int (h o 9), .int (h o 10), .int (h o 11), .int (h o 12), .int (h o 13), .int (h o 14), .ref (gad G (o + 3)), .int (h o 16)]
  | 4 => [.int (h o 0), .int (h o 1), .int (h o 2), .int (h o 3), .int (h o 4), .int (h o 5), .int (h o 6), .int (h o 7), .int (h o 8), .int (h o 9)]
  | 5 => [.ref (gad G (o + 1)), .int (h o 1)]
  | 6 => [.ref (gad G (o + 1)), .ref (gad G (o + 2)), .ref (gad G (o + 3)), .int (h o 3)]
  | 7 => [.ref (gad G (o + 1)), .ref (gad G (o + 2)), .ref (gad G (o + 16)), .ref (gad G (o + 33)), .ref (gad G (o + 35)), .ref (gad G (o + 40)), .int (h o 6), .int (h o 7), .int (h o 8), .int (h o 9), .int (h o 10), .int (h o 11), .int (h o 12)]
  | 8 => [.ref (gad G (o + 1)), .ref (gad G (o + 10)), .ref (gad G (o + 59))]
  | 9 => [.int (h o 0), .ref (gad G (o + 1)), .int (h o 2), .ref (gad G (o + 2)), .ref (gad G (o + 3)), .ref (gad G (o + 4)), .int (h o 6), .ref (gad G (o + 5)), .int (h o 8), .int (h o 9), .int (h o 10), .int (h o 11), .int (h o 12), .int (h o 13), .int (h o 14), .int (h o 15), .int (h o 16), .int (h o 17), .int (h o 18), .int (h o 19), .ref (gad G (o + 6)), .ref (gad G (o + 7)), .int (h o 22)]
  | _ => []
def kd (o : Nat) : Nat := kdl obk o
theorem kd_mem {o c : Nat} (h : kd o = c) (hc : c ≠ 99999) : (o, c) ∈ obk := kdl_mem obk h hc
theorem kd_st {c d n : Nat} (hc : c ≠ 99999) (h : ∀ q ∈ obk, q.2 = c → kd (q.1 + n) = d) {o : Nat} (hk : kd o = c) : kd (o + n) = d := h _ (kd_mem hk hc) rfl
theorem flds_congr {G : GT} {h h' : Hp} {o : Nat} (e : h' o = h o) (c : Nat) : flds G h' o c = flds G h o c := by
  unfold flds
  split <;> simp only [e]
def ce (G : GT) (h : Hp) (o : Nat) : va_E :=
  if 20000 ≤ kd o then .inl (gca G 1, kd o - 20000, .inl (h o))
  else if 10000 ≤ kd o then .inl (gca G 0, kd o - 10000, .inl (h o))
  else if kd o = 20 then .inl (gca G 2, 16, .inr (.inr (.inr (.inr (fun i => some (gad G (o + 1 + i)))))))
  else if kd o = 21 then .inl (gca G 3, 4, .inr (.inr (.inr (.inr (fun i => some (gad G (o + 1 + i)))))))
  else if kd o = 22 then .inl (gca G 4, 1, .inr (.inl (fun i => (h o i).toInt64)))
  else .inr (kd o, flds G h o (kd o))
theorem ce_congr {G : GT} {h h' : Hp} {o : Nat} (e : h' o = h o) : ce G h' o = ce G h o := by
  unfold ce
  rw [flds_congr e, e]
theorem ce_o {G : GT} {h : Hp} {o c : Nat} (hk : kd o = c) (hc : c < 20) : ce G h o = .inr (c, flds G h o c) := by
  unfold ce
  rw [hk, if_neg (by omega), if_neg (by omega), if_neg (by omega), if_neg (by omega), if_neg (by omega)]
theorem ce_i {G : GT} {h : Hp} {o n : Nat} (hk : kd o = 10000 + n) (hn : n < 10000) : ce G h o = .inl (gca G 0, n, .inl (h o)) := by
  unfold ce
  rw [hk, if_neg (by omega), if_pos (by omega), show 10000 + n - 10000 = n by omega]
theorem ce_z {G : GT} {h : Hp} {o n : Nat} (hk : kd o = 20000 + n) : ce G h o = .inl (gca G 1, n, .inl (h o)) := by
  unfold ce
  rw [hk, if_pos (by omega), show 20000 + n - 20000 = n by omega]
theorem ce_b {G : GT} {h : Hp} {o : Nat} (hk : kd o = 20) : ce G h o = .inl (gca G 2, 16, .inr (.inr (.inr (.inr (fun i => some (gad G (o + 1 + i))))))) := by
  unfold ce
  rw [hk]
  simp
theorem ce_s {G : GT} {h : Hp} {o : Nat} (hk : kd o = 21) : ce G h o = .inl (gca G 3, 4, .inr (.inr (.inr (.inr (fun i => some (gad G (o + 1 + i))))))) := by
  unfold ce
  rw [hk]
  simp
theorem ce_l {G : GT} {h : Hp} {o : Nat} (hk : kd o = 22) : ce G h o = .inl (gca G 4, 1, .inr (.inl (fun i => (h o i).toInt64))) := by
  unfold ce
  rw [hk]
  simp
/-- the world: every object at its address -/
def wd (G : GT) (h : Hp) : va_W := obk.map (fun q => (gad G q.1, ce G h q.1))
theorem ob_nd : va_nd (obk.map Prod.fst) = true := by decide +kernel
theorem ob_inj {i j o c d : Nat} (hi : obk[i]? = some (o, c)) (hj : obk[j]? = some (o, d)) : i = j :=
  va_nd_inj (obk.map Prod.fst) ob_nd i j o (by rw [List.getElem?_map, hi]; rfl) (by rw [List.getElem?_map, hj]; rfl)
theorem ob_at {o c : Nat} (h : kd o = c) (hc : c ≠ 99999) : ∃ k : Nat, obk[k]? = some (o, c) := List.getElem?_of_mem (kd_mem h hc)
theorem wd_at {G : GT} {h : Hp} {k o c : Nat} (hk : obk[k]? = some (o, c)) : (wd G h)[k]? = some (gad G o, ce G h o) := by
  unfold wd
  rw [List.getElem?_map, hk]
  rfl
theorem wd_set {G : GT} {h h' : Hp} {k o c : Nat} {e : va_E} (hk : obk[k]? = some (o, c)) (he : ce G h' o = e) (ho : ∀ o', o' ≠ o → h' o' = h o') : (wd G h).set k (gad G o, e) = wd G h' := by
  apply List.ext_getElem?
  intro i
  by_cases hi : i = k
  · subst hi
    rw [wd_at hk, he, List.getElem?_set_self]
    have := (List.getElem?_eq_some_iff.mp (wd_at (G := G) (h := h) hk)).1
    exact this
  · rw [List.getElem?_set_ne (Ne.symm hi)]
    unfold wd
    rw [List.getElem?_map, List.getElem?_map]
    cases hq : obk[i]? with
    | none => rfl
    | some q =>
      obtain ⟨o', d⟩ := q
      have hne : o' ≠ o := fun e1 => hi (ob_inj (o := o) (by rw [← e1]; exact hq) hk)
      simp only [Option.map_some]
      rw [ce_congr (ho o' hne)]
/-- which cells a method may change -/
def AG (G : GT) (sz : Nat) : Nat → Prop := fun q => (∃ o ∈ obk, gad G o.1 = q) ∨ sz ≤ q
theorem AG.le {G : GT} {a b q : Nat} (h : a ≤ b) (hq : AG G b q) : AG G a q := hq.elim Or.inl (fun z => Or.inr (Nat.le_trans h z))
theorem wd_D {G : GT} {h : Hp} {A : Nat → Prop} (sz : Nat) (hD : va_D A (wd G h)) : va_D (AG G sz) (wd G h) := by
  refine ⟨hD.1, fun k q hk => Or.inl ?_⟩
  unfold wd at hk
  rw [List.getElem?_map] at hk
  cases hq : obk[k]? with
  | none => rw [hq] at hk; cases hk
  | some o =>
    rw [hq] at hk
    cases hk
    exact ⟨o, List.mem_of_getElem? hq, rfl⟩
/-! the words -/
def isNest : Cond → Bool
  | .fieldLinkNest .. => true
  | .methodLinkNest .. => true
  | _ => false
def okw (w : Cond) : Bool := goodWord w || isNest w
def GE (U : State) : Prop := ∀ w ∈ lw_tbl, okw w = true → w.before #[] U = true
theorem okw_at {w : Cond} (ho : okw w = true) {A A' : Array Value} {s U : State} (hW : s.WarmedH U.vm) (h : w.before A s = true) : w.before A' U = true := by
  unfold okw at ho
  rcases Bool.or_eq_true _ _ ▸ ho with hg | hn
  · exact word_at hW (good_of_word hg) h
  · cases w <;> first
      | (simp [isNest] at hn; done)
      | exact va_Nw.use rfl (va_Nw.warmF hW (va_Nw.of rfl h))
      | exact va_Nw.use rfl (va_Nw.warmM hW (va_Nw.of rfl h))
theorem GE.warm {s U : State} (hW : s.WarmedH U.vm) (h : GE s) : GE U := fun w hw ho => okw_at ho hW (h w hw ho)
theorem GE.use {s : State} (h : GE s) {w : Cond} (hw : w ∈ lw_tbl) (ho : okw w = true) (A : Array Value) : w.before A s = true := okw_at ho (State.WarmedH.refl s) (h w hw ho)
theorem wi (i : Nat) {w : Cond} (h : lw_tbl[i]? = some w) : w ∈ lw_tbl := List.mem_of_getElem? h
/-! static tables and texts -/
def tbn : Nat → String
  | 0 => "RANGE_OF" | 1 => "LOWEST" | 2 => "HIGHEST" | 3 => "FIRST_SETTINGS" | 4 => "SETTLED" | _ => "PAST_KINDS"
def tbl : Nat → List Int32
  | 0 => [0, 1, 2, 3, 4, 5, 6, 7, 8, 13, 16, 17, 18, 19]
  | 1 => [1, 10, 50, 1, 1, 1, 0, 0, 0, 1, 1, 1, 0, 0, 1, 0, 1, 1, 1]
  | 2 => [99, 999, 3000, 4, 4, 60, 3000, 1500, 9999, 1500, 20, 99, 1, 9999, 1500, 1, 999, 60, 200]
  | 3 => [5, 100, 300, 2, 2, 40, 0, 0]
  | 4 => [0, 1, 2, 5, 6, 7]
  | _ => [1, 2, 4, 3]
def tbv (j i : Nat) : Int32 := (tbl j).getD i 0
def stO : Nat → String × Nat × String
  | 0 => ("QueueKeeper$Reader", 136, "target") | 1 => ("QueueKeeper$Reader", 138, "interval") | 2 => ("QueueKeeper$Reader", 140, "quantum")
  | 3 => ("QueueKeeper$Reader", 142, "sets") | 4 => ("QueueKeeper$Reader", 144, "ways") | 5 => ("QueueKeeper$Reader", 146, "limit")
  | 6 => ("QueueKeeper$Reader", 148, "small") | 7 => ("QueueKeeper$Reader", 150, "rate") | 8 => ("QueueKeeper$Reader", 152, "sender")
  | 9 => ("QueueKeeper$Reader", 154, "come") | 10 => ("QueueKeeper$Reader", 156, "pass") | 11 => ("QueueKeeper$Reader", 158, "go")
  | 12 => ("QueueKeeper$Reader", 160, "run") | 13 => ("QueueKeeper$Reader", 162, "")
  | 14 => ("QueueKeeperModel", 81, "target interval quantum limit small rate sets ways sender come pass go run ")
  | 15 => ("QueueKeeper", 148, "no such bucket") | _ => ("QueueKeeper", 155, "no such what")
def stb (i : Nat) : List Int32 := (stO i).2.2.toList.map (fun ch => Int32.ofNat ch.toNat)
def stL : List Nat := (List.range 17).map (fun i => (stb i).length)
def stB : List (List Int32) := (List.range 17).map stb
def ST (G : GT) (A : Nat → Prop) (U : State) (H : Heap) : Prop :=
  (∀ j, j < 6 → va_Z "QueueKeeper" (tbn j) "[I" (.ref (gsa G j)) A U H ∧ va_T .int (gsa G j) (tbl j).length (fun i => .int (tbv j i)) A U H) ∧
  vk_S 17 stL stB (fun i => gsa G (100 + i)) (fun i => gsa G (200 + i)) A U H ∧
  (∀ i, i < 17 → vk_R (stO i).1 (stO i).2.1 (stO i).2.2 (gsa G (100 + i)) U) ∧
  va_Z "java/lang/String" "COMPACT_STRINGS" "Z" (.int 1) A U H ∧
  va_Zq "jdk/internal/util/Preconditions" "SIOOBE_FORMATTER" "Ljava/util/function/BiFunction;" A U H ∧
  va_Zq "java/lang/Throwable" "UNASSIGNED_STACK" "[Ljava/lang/StackTraceElement;" A U H ∧
  va_Zq "java/lang/Throwable" "SUPPRESSED_SENTINEL" "Ljava/util/List;" A U H
theorem ST.warm {G : GT} {A : Nat → Prop} {u U : State} {H : Heap} (hW : u.WarmedH U.vm) (h : ST G A u H) : ST G A U H :=
  ⟨fun j hj => ⟨(h.1 j hj).1.moved hW.alike, (h.1 j hj).2.moved hW.alike⟩, h.2.1.moved hW.alike, fun i hi => (h.2.2.1 i hi).warm hW, h.2.2.2.1.moved hW.alike, h.2.2.2.2.1.moved hW.alike, h.2.2.2.2.2.1.moved hW.alike, h.2.2.2.2.2.2.moved hW.alike⟩
theorem ST.kept {G : GT} {A : Nat → Prop} {U : State} {H H1 : Heap} (h : ST G A U H) (hq : ∀ a : Nat, a < H.size → ¬ A a → H1[a]? = H[a]?) : ST G A U H1 :=
  ⟨fun j hj => ⟨(h.1 j hj).1.kept hq, (h.1 j hj).2.kept hq⟩, h.2.1.kept hq, h.2.2.1, h.2.2.2.1.kept hq, h.2.2.2.2.1.kept hq, h.2.2.2.2.2.1.kept hq, h.2.2.2.2.2.2.kept hq⟩
theorem ST.narrow {G : GT} {A B : Nat → Prop} {U : State} {H : Heap} (h : ST G A U H) (hAB : ∀ q, B q → A q) : ST G B U H :=
  ⟨fun j hj => ⟨(h.1 j hj).1.narrow hAB, (h.1 j hj).2.narrow hAB⟩, h.2.1.narrow hAB, h.2.2.1, h.2.2.2.1.narrow hAB, h.2.2.2.2.1.narrow hAB, h.2.2.2.2.2.1.narrow hAB, h.2.2.2.2.2.2.narrow hAB⟩
/-! locals -/
def LV (ls : Array Slot) (nL : Nat) (lv : List (Option Value)) : Prop := ls.size = nL ∧ lv_wf ls ∧ ∀ (i : Nat) (v : Value), lv[i]? = some (some v) → ls[i]? = some (.val v)
def lpr : Nat → List (Option Value) → List (Nat × Value)
  | _, [] => []
  | i, none :: l => lpr (i + 1) l
  | i, some v :: l => (i, v) :: lpr (i + 1) l
theorem lpr_mem : ∀ (l : List (Option Value)) (i : Nat) (q : Nat × Value), q ∈ lpr i l ↔ ∃ j, q.1 = i + j ∧ l[j]? = some (some q.2)
  | [], i, q => by simp [lpr]
  | none :: l, i, q => by
    unfold lpr
    rw [lpr_mem l (i + 1) q]
    constructor
    · rintro ⟨j, h1, h2⟩
      exact ⟨j + 1, by omega, by simpa using h2⟩
    · rintro ⟨j, h1, h2⟩
      cases j with
      | zero => simp at h2
      | succ j => exact ⟨j, by omega, by simpa using h2⟩
  | some v :: l, i, q => by
    unfold lpr
    rw [List.mem_cons, lpr_mem l (i + 1) q]
    constructor
    · rintro (rfl | ⟨j, h1, h2⟩)
      · exact ⟨0, rfl, rfl⟩
      · exact ⟨j + 1, by omega, by simpa using h2⟩
    · rintro ⟨j, h1, h2⟩
      cases j with
      | zero =>
        left
        obtain ⟨a, b⟩ := q
        simp at h1 h2
        subst h1; subst h2
        rfl
      | succ j => exact Or.inr ⟨j, by omega, by simpa using h2⟩
theorem LV.has {ls : Array Slot} {nL : Nat} {lv : List (Option Value)} (h : LV ls nL lv) : lv_has ls nL (lpr 0 lv) := by
  refine ⟨h.1, h.2.1, fun q hq => ?_⟩
  obtain ⟨j, h1, h2⟩ := (lpr_mem lv 0 q).mp hq
  rw [h1, Nat.zero_add]
  exact h.2.2 j q.2 h2
def nolong : Option (Option Value) → Bool
  | some (some v) => v.category == 1
  | _ => true
def stok (lv : List (Option Value)) (i : Nat) : Bool := match i with
  | 0 => true
  | j + 1 => nolong lv[j]?
theorem LV.st1 {ls : Array Slot} {nL i : Nat} {lv : List (Option Value)} {v : Value} (ho : stok lv i = true) (h : lv_has ls nL ((i, v) :: (lpr 0 lv).filter (fun q => !(q.1 == i) && !(q.1 + 1 == i && q.2.category == 2)))) : LV ls nL (lv.set i (some v)) := by
  refine ⟨h.1, h.2.1, fun j w hj => ?_⟩
  by_cases e : j = i
  · subst e
    have hl : j < lv.length := by
      have := (List.getElem?_eq_some_iff.mp hj).1
      simpa using this
    rw [List.getElem?_set_self hl] at hj
    cases hj
    exact h.2.2 _ List.mem_cons_self
  · rw [List.getElem?_set_ne (Ne.symm e)] at hj
    refine h.2.2 (j, w) (List.mem_cons_of_mem _ (List.mem_filter.mpr ⟨(lpr_mem lv 0 (j, w)).mpr ⟨j, by simp, hj⟩, ?_⟩))
    have h1 : ¬ (j + 1 = i ∧ w.category = 2) := by
      rintro ⟨a, b⟩
      subst a
      simp [stok, nolong, hj] at ho
      omega
    simp [e]
    by_cases a : j + 1 = i
    · exact Or.inr (fun b => h1 ⟨a, b⟩)
    · exact Or.inl a
theorem LV.st2 {ls : Array Slot} {nL i : Nat} {lv : List (Option Value)} {v : Value} (ho : stok lv i = true) (h : lv_has ls nL ((i, v) :: (lpr 0 lv).filter (fun q => !(q.1 == i) && (!(q.1 == i + 1) && !(q.1 + 1 == i && q.2.category == 2))))) : LV ls nL ((lv.set i (some v)).set (i + 1) none) := by
  refine ⟨h.1, h.2.1, fun j w hj => ?_⟩
  by_cases e1 : j = i + 1
  · subst e1
    by_cases hl : i + 1 < (lv.set i (some v)).length
    · rw [List.getElem?_set_self hl] at hj
      cases hj
    · rw [List.getElem?_eq_none (by simp at hl ⊢; omega)] at hj
      cases hj
  rw [List.getElem?_set_ne (Ne.symm e1)] at hj
  by_cases e : j = i
  · subst e
    have hl : j < lv.length := by
      have := (List.getElem?_eq_some_iff.mp hj).1
      simpa using this
    rw [List.getElem?_set_self hl] at hj
    cases hj
    exact h.2.2 _ List.mem_cons_self
  · rw [List.getElem?_set_ne (Ne.symm e)] at hj
    refine h.2.2 (j, w) (List.mem_cons_of_mem _ (List.mem_filter.mpr ⟨(lpr_mem lv 0 (j, w)).mpr ⟨j, by simp, hj⟩, ?_⟩))
    have h1 : ¬ (j + 1 = i ∧ w.category = 2) := by
      rintro ⟨a, b⟩
      subst a
      simp [stok, nolong, hj] at ho
      omega
    simp [e, e1]
    by_cases a : j + 1 = i
    · exact Or.inr (fun b => h1 ⟨a, b⟩)
    · exact Or.inl a
def cat1 : List Value → Bool
  | [] => true
  | v :: l => v.category == 1 && cat1 l
theorem lv_args_mem : ∀ (vs : List Value) (k : Nat), cat1 vs = true → ∀ i v, vs[i]? = some v → (k + i, v) ∈ lv_args k vs
  | [], k, _, i, v, h => by simp at h
  | a :: vs, k, hc, i, v, h => by
    simp only [cat1, Bool.and_eq_true, beq_iff_eq] at hc
    unfold lv_args
    rw [if_neg (by omega)]
    cases i with
    | zero =>
      simp at h
      subst h
      exact List.mem_cons_self
    | succ i =>
      have := lv_args_mem vs (k + 1) hc.2 i v (by simpa using h)
      rw [show k + 1 + i = k + (i + 1) by omega] at this
      exact List.mem_cons_of_mem _ this
/-- fewer locals are told -/
def LSb : List (Option Value) → List (Option Value) → Prop
  | [], _ => True
  | none :: a, [] => LSb a []
  | none :: a, _ :: b => LSb a b
  | some _ :: _, [] => False
  | some v :: a, w :: b => w = some v ∧ LSb a b
theorem LSb.get : ∀ {a b : List (Option Value)}, LSb a b → ∀ (i : Nat) (v : Value), a[i]? = some (some v) → b[i]? = some (some v)
  | [], _, _, i, v, h => by simp at h
  | none :: a, [], hl, i, v, h => by
    cases i with
    | zero => simp at h
    | succ i => exact absurd (LSb.get (a := a) (b := []) hl i v (by simpa using h)) (by simp)
  | none :: a, _ :: b, hl, i, v, h => by
    cases i with
    | zero => simp at h
    | succ i => simpa using LSb.get (a := a) (b := b) hl i v (by simpa using h)
  | some _ :: _, [], hl, i, v, h => absurd hl (by simp [LSb])
  | some u :: a, w :: b, hl, i, v, h => by
    cases i with
    | zero =>
      simp at h ⊢
      rw [hl.1, h]
    | succ i => simpa using LSb.get (a := a) (b := b) hl.2 i v (by simpa using h)
theorem LSb.n {a b : List (Option Value)} {w : Option Value} (h : LSb a b) : LSb (none :: a) (w :: b) := h
theorem LSb.s {a b : List (Option Value)} {w : Value} (h : LSb a b) : LSb (some w :: a) (some w :: b) := ⟨rfl, h⟩
theorem LSb.e {b : List (Option Value)} : LSb [] b := trivial
theorem LV.sub {ls : Array Slot} {nL : Nat} {a b : List (Option Value)} (h : LV ls nL b) (hs : LSb a b) : LV ls nL a := ⟨h.1, h.2.1, fun i v hi => h.2.2 i v (hs.get i v hi)⟩
/-! a method's place, its contract -/
def CX (p : Program) (s : State) (m : MethodId) (args : Array Value) (c : Code) (cc : ByteArray) (nL : Nat) (own : String) (G : GT) : Prop :=
  p.tables.exec = Jvm.exec ∧ c.code = cc ∧ c.maxLocals = nL ∧ s.vm.findClass own = some m.cls ∧ GE s ∧ va_K G.1 vwCl (tysG G) s ∧ ST G (AG G s.heap.size) s s.heap
def IV (G : GT) (s : State) (h : Hp) (H : Heap) (locs : List Loc) : Prop := va_P G.1 vwCl (wd G h) H ∧ va_D (AG G s.heap.size) (wd G h) ∧ va_S (AG G s.heap.size) s.heap H locs
def PF (p : Program) (l : Launch) (e : Env) (R : Room) (s : State) (m : MethodId) (args : Array Value) (below : List Frame) (meth : Method) (c : Code) (nL : Nat) (G : GT) (cells slots : Nat) {α : Type} (Qf : α → State → Prop) (pc : Nat) (lv : List (Option Value)) (st : List Value) (h : Hp) (o : Option α) : Prop :=
  ∀ a, o = some a → ∀ (H : Heap) (locs : List Loc) (ls : Array Slot), LV ls nL lv → IV G s h H locs → W p l e R s m args below meth c H locs cells slots (Qf a) (F0 m pc ls st)
def Pre (G : GT) (h : Hp) (sz : Nat) (U : State) : Prop := U.heap.size = sz ∧ GE U ∧ va_K G.1 vwCl (tysG G) U ∧ ST G (AG G sz) U U.heap ∧ va_P G.1 vwCl (wd G h) U.heap ∧ va_D (fun _ => True) (wd G h)
def CtQ (G : GT) (r : Option Value) (h' : Hp) (sz : Nat) : Array Value → State → Outcome → State → Prop := fun _ st oc t => oc = .returned r ∧ va_P G.1 vwCl (wd G h') t.heap ∧ va_D (fun _ => True) (wd G h') ∧ va_F (AG G sz) st t
def rmc (f n : Nat) : Room := { frames := f, cells := 0, slots := 0, locals := n }
def Ct (l : Launch) (G : GT) (y : MethodName) (cc : ByteArray) (maxL : Nat) (ret : Option FieldType) (f n : Nat) (av : List Value) (h : Hp) (r : Option Value) (h' : Hp) : Prop :=
  ∀ sz, Met l y [.code y cc maxL ret] (rmc f n) (va_Pc av (Pre G h sz)) (CtQ G r h' sz) 0 0 (AG G sz)
def CtI (l : Launch) (G : GT) (y : MethodName) (cc : ByteArray) (maxL : Nat) (ret : Option FieldType) (f n : Nat) (av : List Value) (h : Hp) (o : Option (Int32 × Hp)) : Prop := ∀ a, o = some a → Ct l G y cc maxL ret f n av h (some (.int a.1)) a.2
def CtV (l : Launch) (G : GT) (y : MethodName) (cc : ByteArray) (maxL : Nat) (ret : Option FieldType) (f n : Nat) (av : List Value) (h : Hp) (o : Option Hp) : Prop := ∀ a, o = some a → Ct l G y cc maxL ret f n av h none a
theorem Pre.blind {G : GT} {h : Hp} {sz : Nat} {av : List Value} : FrameBlind (va_Pc av (Pre G h sz)) := by
  intro a U g mk q
  obtain ⟨q0, q1, q2, q3, q4, q5, q6⟩ := q
  exact ⟨q0, q1, GE.warm (U := U.calling g mk a) (State.WarmedH.refl U) q2, va_K.moved (u := U) (U := U.calling g mk a) (Vm.Alike.refl U.vm) q3, ST.warm (U := U.calling g mk a) (State.WarmedH.refl U) q4, q5, q6⟩
/-- at a call: what the callee asks -/
theorem Pre.of {p : Program} {s : State} {m : MethodId} {args : Array Value} {c : Code} {cc : ByteArray} {nL : Nat} {own : String} {G : GT} {h : Hp} {H : Heap} {locs : List Loc} (cx : CX p s m args c cc nL own G) (hI : IV G s h H locs) {U : State} (hU : U.heap = H) (hW : s.WarmedH U.vm) : Pre G h H.size U := by
  obtain ⟨-, -, -, -, hg, hk, hst⟩ := cx
  refine ⟨by rw [hU], hg.warm hW, va_K.moved hW.alike hk, ?_, by rw [hU]; exact hI.1, hI.2.1.weaken (fun _ _ _ _ => trivial)⟩
  rw [hU]
  exact ((hst.kept hI.2.2.2.1).warm hW).narrow (fun q hq => AG.le hI.2.2.1 hq)
theorem Ct.of {l : Launch} {G : GT} {y : MethodName} {cc : ByteArray} {maxL : Nat} {ret : Option FieldType} {f n : Nat} {av : List Value} {h : Hp} {r : Option Value} {h' : Hp} {lv : List (Option Value)} (hy : plainName y.cls = true) (hc : cat1 av = true) (hm : (lg_sl av).length ≤ maxL) (hlv : lv = av.map some ++ List.replicate (maxL - av.length) none)
    (body : ∀ (p : Program) (e : Env) (s : State) (m : MethodId) (args : Array Value) (below : List Frame) (meth : Method) (c : Code), CX p s m args c cc maxL y.cls G → meth.sig.returnType = ret → meth.locks = false →
      ∀ (H : Heap) (locs : List Loc) (ls : Array Slot), LV ls maxL lv → IV G s h H locs → W p l e (rmc f n) s m args below meth c H locs 0 0 (MQ below (CtQ G r h' s.heap.size) args s 0 0 (AG G s.heap.size)) (F0 m 0 ls [])) : Ct l G y cc maxL ret f n av h r h' := by
  intro sz
  refine Met.ofW (cc := cc) (maxL := maxL) (ret := ret) hy rfl ?_
  intro p e s m args below meth c s₁ B hml hv
  obtain ⟨rfl, hsz, hg, hk, hst, hP, hD⟩ := hv
  subst hsz
  have hl := lv_entry av (n := maxL) hm
  rw [lg_entry_eq]
  refine body p e s m av.toArray below meth c ⟨B.exec, B.bytes, hml, findClass_of_methodNamed B.named, hg, hk, hst⟩ B.returns B.notSynchronized s.heap [] _ ⟨hl.1, hl.2.1, fun i v hi => ?_⟩ ⟨hP, wd_D _ hD, va_S.rf⟩
  rw [hlv] at hi
  refine hl.2.2 (i, v) ?_
  have h1 : av[i]? = some v := by
    by_cases hlt : i < av.length
    · rw [List.getElem?_append_left (by simpa using hlt), List.getElem?_map] at hi
      cases hq : av[i]? with
      | none => rw [hq] at hi; cases hi
      | some z => rw [hq] at hi; simp at hi; rw [hi]
    · rw [List.getElem?_append_right (by simpa using hlt)] at hi
      have := List.mem_of_getElem? hi
      simp [List.mem_replicate] at this
  have := lv_args_mem av 0 hc i v h1
  rwa [Nat.zero_add] at this
theorem fu_0_0 (G : GT) (h : Hp) (o : Nat) (v : Int32) : flds G (hp h o 0 v) o 0 = (flds G h o 0).set 0 (.int v) := by simp [flds, hp_o, upd]
theorem fu_0_1 (G : GT) (h : Hp) (o : Nat) (v : Int32) : flds G (hp h o 1 v) o 0 = (flds G h o 0).set 1 (.int v) := by simp [flds, hp_o, upd]
theorem fu_0_2 (G : GT) (h : Hp) (o : Nat) (v : Int32) : flds G (hp h o 2 v) o 0 = (flds G h o 0).set 2 (.int v) := by simp [flds, hp_o, upd]
theorem fu_0_3 (G : GT) (h : Hp) (o : Nat) (v : Int32) : flds G (hp h o 3 v) o 0 = (flds G h o 0).set 3 (.int v) := by simp [flds, hp_o, upd]
theorem fu_0_4 (G : GT) (h : Hp) (o : Nat) (v : Int32) : flds G (hp h o 4 v) o 0 = (flds G h o 0).set 4 (.int v) := by simp [flds, hp_o, upd]
theorem fu_0_5 (G : GT) (h : Hp) (o : Nat) (v : Int32) : flds G (hp h o 5 v) o 0 = (flds G h o 0).set 5 (.int v) := by simp [flds, hp_o, upd]
theorem fu_0_6 (G : GT) (h : Hp) (o : Nat) (v : Int32) : flds G (hp h o 6 v) o 0 = (flds G h o 0).set 6 (.int v) := by simp [flds, hp_o, upd]
theorem fu_0_7 (G : GT) (h : Hp) (o : Nat) (v : Int32) : flds G (hp h o 7 v) o 0 = (flds G h o 0).set 7 (.int v) := by simp [flds, hp_o, upd]
theorem fu_0_8 (G : GT) (h : Hp) (o : Nat) (v : Int32) : flds G (hp h o 8 v) o 0 = (flds G h o 0).set 8 (.int v) := by simp [flds, hp_o, upd]
theorem fu_0_9 (G : GT) (h : Hp) (o : Nat) (v : Int32) : flds G (hp h o 9 v) o 0 = (flds G h o 0).set 9 (.int v) := by simp [flds, hp_o, upd]
theorem fu_0_10 (G : GT) (h : Hp) (o : Nat) (v : Int32) : flds G (hp h o 10 v) o 0 = (flds G h o 0).set 10 (.int v) := by simp [flds, hp_o, upd]
theorem fu_0_11 (G : GT) (h : Hp) (o : Nat) (v : Int32) : flds G (hp h o 11 v) o 0 = (flds G h o 0).set 11 (.int v) := by simp [flds, hp_o, upd]
theorem fu_0_12 (G : GT) (h : Hp) (o : Nat) (v : Int32) : flds G (hp h o 12 v) o 0 = (flds G h o 0).set 12 (.int v) := by simp [flds, hp_o, upd]
theorem fu_0_13 (G : GT) (h : Hp) (o : Nat) (v : Int32) : flds G (hp h o 13 v) o 0 = (flds G h o 0).set 13 (.int v) := by simp [flds, hp_o, upd]
theorem fu_1_13 (G : GT) (h : Hp) (o : Nat) (v : Int32) : flds G (hp h o 13 v) o 1 = (flds G h o 1).set 13 (.int v) := by simp [flds, hp_o, upd]
theorem fu_1_14 (G : GT) (h : Hp) (o : Nat) (v : Int32) : flds G (hp h o 14 v) o 1 = (flds G h o 1).set 14 (.int v) := by simp [flds, hp_o, upd]
theorem fu_2_1 (G : GT) (h : Hp) (o : Nat) (v : Int32) : flds G (hp h o 1 v) o 2 = (flds G h o 2).set 1 (.int v) := by simp [flds, hp_o, upd]
theorem fu_2_2 (G : GT) (h : Hp) (o : Nat) (v : Int32) : flds G (hp h o 2 v) o 2 = (flds G h o 2).set 2 (.int v) := by simp [flds, hp_o, upd]
theorem fu_3_1 (G : GT) (h : Hp) (o : Nat) (v : Int32) : flds G (hp h o 1 v) o 3 = (flds G h o 3).set 1 (.int v) := by simp [flds, hp_o, upd]
theorem fu_3_2 (G : GT) (h : Hp) (o : Nat) (v : Int32) : flds G (hp h o 2 v) o 3 = (flds G h o 3).set 2 (.int v) := by simp [flds, hp_o, upd]
theorem fu_3_3 (G : GT) (h : Hp) (o : Nat) (v : Int32) : flds G (hp h o 3 v) o 3 = (flds G h o 3).set 3 (.int v) := by simp [flds, hp_o, upd]
theorem fu_3_4 (G : GT) (h : Hp) (o : Nat) (v : Int32) : flds G (hp h o 4 v) o 3 = (flds G h o 3).set 4 (.int v) := by simp [flds, hp_o, upd]
theorem fu_3_5 (G : GT) (h : Hp) (o : Nat) (v : Int32) : flds G (hp h o 5 v) o 3 = (flds G h o 3).set 5 (.int v) := by simp [flds, hp_o, upd]
theorem fu_3_6 (G : GT) (h : Hp) (o : Nat) (v : Int32) : flds G (hp h o 6 v) o 3 = (flds G h o 3).set 6 (.int v) := by simp [flds, hp_o, upd]
theorem fu_3_8 (G : GT) (h : Hp) (o : Nat) (v : Int32) : flds G (hp h o 8 v) o 3 = (flds G h o 3).set 8 (.int v) := by simp [flds, hp_o, upd]
theorem fu_3_9 (G : GT) (h : Hp) (o : Nat) (v : Int32) : flds G (hp h o 9 v) o 3 = (flds G h o 3).set 9 (.int v) := by simp [flds, hp_o, upd]
theorem fu_3_10 (G : GT) (h : Hp) (o : Nat) (v : Int32) : flds G (hp h o 10 v) o 3 = (flds G h o 3).set 10 (.int v) := by simp [flds, hp_o, upd]
theorem fu_3_11 (G : GT) (h : Hp) (o : Nat) (v : Int32) : flds G (hp h o 11 v) o 3 = (flds G h o 3).set 11 (.int v) := by simp [flds, hp_o, upd]
theorem fu_3_12 (G : GT) (h : Hp) (o : Nat) (v : Int32) : flds G (hp h o 12 v) o 3 = (flds G h o 3).set 12 (.int v) := by simp [flds, hp_o, upd]
theorem fu_3_13 (G : GT) (h : Hp) (o : Nat) (v : Int32) : flds G (hp h o 13 v) o 3 = (flds G h o 3).set 13 (.int v) := by simp [flds, hp_o, upd]
theorem fu_3_14 (G : GT) (h : Hp) (o : Nat) (v : Int32) : flds G (hp h o 14 v) o 3 = (flds G h o 3).set 14 (.int v) := by simp [flds, hp_o, upd]
theorem fu_3_16 (G : GT) (h : Hp) (o : Nat) (v : Int32) : flds G (hp h o 16 v) o 3 = (flds G h o 3).set 16 (.int v) := by simp [flds, hp_o, upd]
theorem fu_4_0 (G : GT) (h : Hp) (o : Nat) (v : Int32) : flds G (hp h o 0 v) o 4 = (flds G h o 4).set 0 (.int v) := by simp [flds, hp_o, upd]
theorem fu_4_1 (G : GT) (h : Hp) (o : Nat) (v : Int32) : flds G (hp h o 1 v) o 4 = (flds G h o 4).set 1 (.int v) := by simp [flds, hp_o, upd]
theorem fu_4_2 (G : GT) (h : Hp) (o : Nat) (v : Int32) : flds G (hp h o 2 v) o 4 = (flds G h o 4).set 2 (.int v) := by simp [flds, hp_o, upd]
theorem fu_4_3 (G : GT) (h : Hp) (o : Nat) (v : Int32) : flds G (hp h o 3 v) o 4 = (flds G h o 4).set 3 (.int v) := by simp [flds, hp_o, upd]
theorem fu_4_4 (G : GT) (h : Hp) (o : Nat) (v : Int32) : flds G (hp h o 4 v) o 4 = (flds G h o 4).set 4 (.int v) := by simp [flds, hp_o, upd]
theorem fu_4_5 (G : GT) (h : Hp) (o : Nat) (v : Int32) : flds G (hp h o 5 v) o 4 = (flds G h o 4).set 5 (.int v) := by simp [flds, hp_o, upd]
theorem fu_4_6 (G : GT) (h : Hp) (o : Nat) (v : Int32) : flds G (hp h o 6 v) o 4 = (flds G h o 4).set 6 (.int v) := by simp [flds, hp_o, upd]
theorem fu_4_7 (G : GT) (h : Hp) (o : Nat) (v : Int32) : flds G (hp h o 7 v) o 4 = (flds G h o 4).set 7 (.int v) := by simp [flds, hp_o, upd]
theorem fu_4_8 (G : GT) (h : Hp) (o : Nat) (v : Int32) : flds G (hp h o 8 v) o 4 = (flds G h o 4).set 8 (.int v) := by simp [flds, hp_o, upd]
theorem fu_4_9 (G : GT) (h : Hp) (o : Nat) (v : Int32) : flds G (hp h o 9 v) o 4 = (flds G h o 4).set 9 (.int v) := by simp [flds, hp_o, upd]
theorem fu_5_1 (G : GT) (h : Hp) (o : Nat) (v : Int32) : flds G (hp h o 1 v) o 5 = (flds G h o 5).set 1 (.int v) := by simp [flds, hp_o, upd]
theorem fu_6_3 (G : GT) (h : Hp) (o : Nat) (v : Int32) : flds G (hp h o 3 v) o 6 = (flds G h o 6).set 3 (.int v) := by simp [flds, hp_o, upd]
theorem fu_7_6 (G : GT) (h : Hp) (o : Nat) (v : Int32) : flds G (hp h o 6 v) o 7 = (flds G h o 7).set 6 (.int v) := by simp [flds, hp_o, upd]
theorem fu_7_7 (G : GT) (h : Hp) (o : Nat) (v : Int32) : flds G (hp h o 7 v) o 7 = (flds G h o 7).set 7 (.int v) := by simp [flds, hp_o, upd]
theorem fu_7_8 (G : GT) (h : Hp) (o : Nat) (v : Int32) : flds G (hp h o 8 v) o 7 = (flds G h o 7).set 8 (.int v) := by simp [flds, hp_o, upd]
theorem fu_7_9 (G : GT) (h : Hp) (o : Nat) (v : Int32) : flds G (hp h o 9 v) o 7 = (flds G h o 7).set 9 (.int v) := by simp [flds, hp_o, upd]
theorem fu_7_10 (G : GT) (h : Hp) (o : Nat) (v : Int32) : flds G (hp h o 10 v) o 7 = (flds G h o 7).set 10 (.int v) := by simp [flds, hp_o, upd]
theorem fu_7_11 (G : GT) (h : Hp) (o : Nat) (v : Int32) : flds G (hp h o 11 v) o 7 = (flds G h o 7).set 11 (.int v) := by simp [flds, hp_o, upd]
theorem fu_7_12 (G : GT) (h : Hp) (o : Nat) (v : Int32) : flds G (hp h o 12 v) o 7 = (flds G h o 7).set 12 (.int v) := by simp [flds, hp_o, upd]
theorem fu_9_0 (G : GT) (h : Hp) (o : Nat) (v : Int32) : flds G (hp h o 0 v) o 9 = (flds G h o 9).set 0 (.int v) := by simp [flds, hp_o, upd]
theorem fu_9_2 (G : GT) (h : Hp) (o : Nat) (v : Int32) : flds G (hp h o 2 v) o 9 = (flds G h o 9).set 2 (.int v) := by simp [flds, hp_o, upd]
theorem fu_9_6 (G : GT) (h : Hp) (o : Nat) (v : Int32) : flds G (hp h o 6 v) o 9 = (flds G h o 9).set 6 (.int v) := by simp [flds, hp_o, upd]
theorem fu_9_8 (G : GT) (h : Hp) (o : Nat) (v : Int32) : flds G (hp h o 8 v) o 9 = (flds G h o 9).set 8 (.int v) := by simp [flds, hp_o, upd]
theorem fu_9_9 (G : GT) (h : Hp) (o : Nat) (v : Int32) : flds G (hp h o 9 v) o 9 = (flds G h o 9).set 9 (.int v) := by simp [flds, hp_o, upd]
theorem fu_9_10 (G : GT) (h : Hp) (o : Nat) (v : Int32) : flds G (hp h o 10 v) o 9 = (flds G h o 9).set 10 (.int v) := by simp [flds, hp_o, upd]
theorem fu_9_11 (G : GT) (h : Hp) (o : Nat) (v : Int32) : flds G (hp h o 11 v) o 9 = (flds G h o 9).set 11 (.int v) := by simp [flds, hp_o, upd]
theorem fu_9_12 (G : GT) (h : Hp) (o : Nat) (v : Int32) : flds G (hp h o 12 v) o 9 = (flds G h o 9).set 12 (.int v) := by simp [flds, hp_o, upd]
theorem fu_9_13 (G : GT) (h : Hp) (o : Nat) (v : Int32) : flds G (hp h o 13 v) o 9 = (flds G h o 9).set 13 (.int v) := by simp [flds, hp_o, upd]
theorem fu_9_14 (G : GT) (h : Hp) (o : Nat) (v : Int32) : flds G (hp h o 14 v) o 9 = (flds G h o 9).set 14 (.int v) := by simp [flds, hp_o, upd]
theorem fu_9_15 (G : GT) (h : Hp) (o : Nat) (v : Int32) : flds G (hp h o 15 v) o 9 = (flds G h o 9).set 15 (.int v) := by simp [flds, hp_o, upd]
theorem fu_9_16 (G : GT) (h : Hp) (o : Nat) (v : Int32) : flds G (hp h o 16 v) o 9 = (flds G h o 9).set 16 (.int v) := by simp [flds, hp_o, upd]
theorem fu_9_17 (G : GT) (h : Hp) (o : Nat) (v : Int32) : flds G (hp h o 17 v) o 9 = (flds G h o 9).set 17 (.int v) := by simp [flds, hp_o, upd]
theorem fu_9_18 (G : GT) (h : Hp) (o : Nat) (v : Int32) : flds G (hp h o 18 v) o 9 = (flds G h o 9).set 18 (.int v) := by simp [flds, hp_o, upd]
theorem fu_9_19 (G : GT) (h : Hp) (o : Nat) (v : Int32) : flds G (hp h o 19 v) o 9 = (flds G h o 9).set 19 (.int v) := by simp [flds, hp_o, upd]
theorem fu_9_22 (G : GT) (h : Hp) (o : Nat) (v : Int32) : flds G (hp h o 22 v) o 9 = (flds G h o 9).set 22 (.int v) := by simp [flds, hp_o, upd]
theorem kf_1_0 {o : Nat} (h : kd o = 1) : kd (o + 1) = 10200 := kd_st (n := 1) (by decide) (by decide +kernel) h
theorem kf_1_1 {o : Nat} (h : kd o = 1) : kd (o + 2) = 10200 := kd_st (n := 2) (by decide) (by decide +kernel) h
theorem kf_1_2 {o : Nat} (h : kd o = 1) : kd (o + 3) = 10200 := kd_st (n := 3) (by decide) (by decide +kernel) h
theorem kf_1_3 {o : Nat} (h : kd o = 1) : kd (o + 4) = 10200 := kd_st (n := 4) (by decide) (by decide +kernel) h
theorem kf_1_4 {o : Nat} (h : kd o = 1) : kd (o + 5) = 10200 := kd_st (n := 5) (by decide) (by decide +kernel) h
theorem kf_1_5 {o : Nat} (h : kd o = 1) : kd (o + 6) = 10200 := kd_st (n := 6) (by decide) (by decide +kernel) h
theorem kf_1_6 {o : Nat} (h : kd o = 1) : kd (o + 7) = 10200 := kd_st (n := 7) (by decide) (by decide +kernel) h
theorem kf_1_7 {o : Nat} (h : kd o = 1) : kd (o + 8) = 10200 := kd_st (n := 8) (by decide) (by decide +kernel) h
theorem kf_1_8 {o : Nat} (h : kd o = 1) : kd (o + 9) = 10200 := kd_st (n := 9) (by decide) (by decide +kernel) h
theorem kf_1_9 {o : Nat} (h : kd o = 1) : kd (o + 10) = 10200 := kd_st (n := 10) (by decide) (by decide +kernel) h
theorem kf_1_10 {o : Nat} (h : kd o = 1) : kd (o + 11) = 10200 := kd_st (n := 11) (by decide) (by decide +kernel) h
theorem kf_1_11 {o : Nat} (h : kd o = 1) : kd (o + 12) = 10200 := kd_st (n := 12) (by decide) (by decide +kernel) h
theorem kf_1_12 {o : Nat} (h : kd o = 1) : kd (o + 13) = 10005 := kd_st (n := 13) (by decide) (by decide +kernel) h
theorem kf_2_0 {o : Nat} (h : kd o = 2) : kd (o + 1) = 10016 := kd_st (n := 1) (by decide) (by decide +kernel) h
theorem kf_3_0 {o : Nat} (h : kd o = 3) : kd (o + 1) = 10900 := kd_st (n := 1) (by decide) (by decide +kernel) h
theorem kf_3_7 {o : Nat} (h : kd o = 3) : kd (o + 2) = 10900 := kd_st (n := 2) (by decide) (by decide +kernel) h
theorem kf_3_15 {o : Nat} (h : kd o = 3) : kd (o + 3) = 10004 := kd_st (n := 3) (by decide) (by decide +kernel) h
theorem kf_5_0 {o : Nat} (h : kd o = 5) : kd (o + 1) = 7 := kd_st (n := 1) (by decide) (by decide +kernel) h
theorem kf_6_0 {o : Nat} (h : kd o = 6) : kd (o + 1) = 10006 := kd_st (n := 1) (by decide) (by decide +kernel) h
theorem kf_6_1 {o : Nat} (h : kd o = 6) : kd (o + 2) = 10006 := kd_st (n := 2) (by decide) (by decide +kernel) h
theorem kf_6_2 {o : Nat} (h : kd o = 6) : kd (o + 3) = 10006 := kd_st (n := 3) (by decide) (by decide +kernel) h
theorem kf_7_0 {o : Nat} (h : kd o = 7) : kd (o + 1) = 10008 := kd_st (n := 1) (by decide) (by decide +kernel) h
theorem kf_7_1 {o : Nat} (h : kd o = 7) : kd (o + 2) = 1 := kd_st (n := 2) (by decide) (by decide +kernel) h
theorem kf_7_2 {o : Nat} (h : kd o = 7) : kd (o + 16) = 20 := kd_st (n := 16) (by decide) (by decide +kernel) h
theorem kf_7_3 {o : Nat} (h : kd o = 7) : kd (o + 33) = 2 := kd_st (n := 33) (by decide) (by decide +kernel) h
theorem kf_7_4 {o : Nat} (h : kd o = 7) : kd (o + 35) = 21 := kd_st (n := 35) (by decide) (by decide +kernel) h
theorem kf_7_5 {o : Nat} (h : kd o = 7) : kd (o + 40) = 6 := kd_st (n := 40) (by decide) (by decide +kernel) h
theorem kf_8_0 {o : Nat} (h : kd o = 8) : kd (o + 1) = 3 := kd_st (n := 1) (by decide) (by decide +kernel) h
theorem kf_8_1 {o : Nat} (h : kd o = 8) : kd (o + 10) = 7 := kd_st (n := 10) (by decide) (by decide +kernel) h
theorem kf_8_2 {o : Nat} (h : kd o = 8) : kd (o + 59) = 5 := kd_st (n := 59) (by decide) (by decide +kernel) h
theorem kf_9_1 {o : Nat} (h : kd o = 9) : kd (o + 1) = 10900 := kd_st (n := 1) (by decide) (by decide +kernel) h
theorem kf_9_3 {o : Nat} (h : kd o = 9) : kd (o + 2) = 10008 := kd_st (n := 2) (by decide) (by decide +kernel) h
theorem kf_9_4 {o : Nat} (h : kd o = 9) : kd (o + 3) = 20008 := kd_st (n := 3) (by decide) (by decide +kernel) h
theorem kf_9_5 {o : Nat} (h : kd o = 9) : kd (o + 4) = 10020 := kd_st (n := 4) (by decide) (by decide +kernel) h
theorem kf_9_7 {o : Nat} (h : kd o = 9) : kd (o + 5) = 10900 := kd_st (n := 5) (by decide) (by decide +kernel) h
theorem kf_9_20 {o : Nat} (h : kd o = 9) : kd (o + 6) = 13715 := kd_st (n := 6) (by decide) (by decide +kernel) h
theorem kf_9_21 {o : Nat} (h : kd o = 9) : kd (o + 7) = 13715 := kd_st (n := 7) (by decide) (by decide +kernel) h
