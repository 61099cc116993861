/-! numbers of a line, on both sides -/
section Ln
variable {h X : Hp} {c O Q d T I Z A : Nat → Int32}
theorem ref_0 (c10 : c 10 = 0) (f : Int32) : p_X3_refuse (cH h c O Q) (0 + 1) f = some (cH h (upd (upd c 10 f) 11 (c 5)) O Q) := by
  unfold p_X3_refuse
  rw [if_pos (by rw [cH_1]; exact c10), nv_eq, cH_w1, nv_eq, cH_1, upd_n _ _ (by omega), cH_w1]
theorem ref_1 (c10 : ¬ c 10 = 0) (f : Int32) : p_X3_refuse (cH h c O Q) (0 + 1) f = some (cH h c O Q) := by
  unfold p_X3_refuse
  rw [if_neg (by rw [cH_1]; exact c10)]
theorem wrg_0 (d16 : d 16 = 0) (f : Int32) : p_X10_wrong (mH X d T I Z A) 110 f = some (mH X (upd (upd d 16 f) 17 (d 13)) T I Z A) := by
  unfold p_X10_wrong
  rw [if_pos (by rw [mH_0]; exact d16), nv_eq, mH_w0, nv_eq, mH_0, upd_n _ _ (by omega), mH_w0]
theorem wrg_1 (d16 : ¬ d 16 = 0) (f : Int32) : p_X10_wrong (mH X d T I Z A) 110 f = some (mH X d T I Z A) := by
  unfold p_X10_wrong
  rw [if_neg (by rw [mH_0]; exact d16)]
theorem put_y {on : Nat} (c8 : c 8 = nI on) (ho : on < 900) (x : Int32) : p_X3_put (cH h c O Q) (0 + 1) x = some (cH h (upd c 8 (nI (on + 1))) (upd O on x) Q) := by
  unfold p_X3_put
  rw [cH_1, c8, if_neg (show ¬ (900 : Int32) ≤ nI on from nI_ge (b := 900) ho (by omega)), if_pos (ib_n ho (by omega)), nI_clamp (by omega), nv_eq, cH_w3, nv_eq, cH_1, c8, nI_1, cH_w1]
/-- never none, and it keeps the reader's other cells -/
theorem put_any {on : Nat} (c8 : c 8 = nI on) (ho : on ≤ 900) (x : Int32) : ∃ c' O', p_X3_put (cH h c O Q) (0 + 1) x = some (cH h c' O' Q) ∧ ∀ j, j ≠ 8 → c' j = c j := by
  by_cases u : on < 900
  · exact ⟨_, _, put_y c8 u x, fun j hj => upd_n _ _ hj⟩
  · refine ⟨c, O, ?_, fun _ _ => rfl⟩
    unfold p_X3_put
    rw [cH_1, c8, if_pos (show (900 : Int32) ≤ nI on from nI_le (a := 900) (by omega) (by omega))]
theorem goOn_0 (d16 : d 16 = 0) : p_X10_goOn (mH X d T I Z A) 110 = p_X10_token (mH X d T I Z A) 110 := by
  unfold p_X10_goOn
  rw [if_pos (by rw [mH_0]; exact d16)]
  cases p_X10_token (mH X d T I Z A) 110 <;> rfl
theorem goOn_1 (d16 : ¬ d 16 = 0) : p_X10_goOn (mH X d T I Z A) 110 = some (mH X d T I Z A) := by
  unfold p_X10_goOn
  rw [if_neg (by rw [mH_0]; exact d16)]
theorem numeral_1 (d16 : ¬ d 16 = 0) (x1 x2 : Int32) : p_X10_numeral (mH X d T I Z A) 110 x1 x2 = some (x1, mH X d T I Z A) := by
  unfold p_X10_numeral
  rw [if_neg (by rw [mH_0]; exact d16)]
theorem notes_1 (d16 : ¬ d 16 = 0) (x : Int32) : p_X10_notes (mH X d T I Z A) 110 x = some (mH X d T I Z A) := by
  unfold p_X10_notes
  rw [if_neg (by rw [mH_0]; exact d16)]
theorem notes_0 (d16 : d 16 = 0) {an : Nat} (d8 : d 8 = nI an) (ha : an < 900) (x : Int32) : p_X10_notes (mH X d T I Z A) 110 x = some (mH X (upd d 8 (nI (an + 1))) T I Z (upd A an x)) := by
  unfold p_X10_notes
  rw [if_pos (by rw [mH_0]; exact d16), mH_0, d8, if_pos (ib_n ha (by omega)), nI_clamp (by omega), nv_eq, mH_w5, nv_eq, mH_0, d8, nI_1, mH_w0]
/-- a fault on the reference's side: two cells -/
def fau (d : Nat → Int32) (f : Int32) : Nat → Int32 := upd (upd d 16 f) 17 (d 13)
theorem fau_16 (d : Nat → Int32) (f : Int32) : fau d f 16 = f := by
  unfold fau
  rw [upd_n _ _ (by omega), upd_s]
theorem fau_17 (d : Nat → Int32) (f : Int32) : fau d f 17 = d 13 := upd_s _ _ _
theorem fau_n (d : Nat → Int32) (f : Int32) {j : Nat} (h1 : j ≠ 16) (h2 : j ≠ 17) : fau d f j = d j := by
  unfold fau
  rw [upd_n _ _ h2, upd_n _ _ h1]
/-- the number that stands there, on both sides -/
theorem num_rd {r lo hi on : Nat} {kk vv kk' vv' : Int32} (hr : r < 19) (h8 : r ≠ 8) (hlo : tbv 1 r = nI lo) (hhi : tbv 2 r = nI hi) (hh : hi < 100000) (hlh : lo ≤ hi) (c10 : c 10 = 0) (d16 : d 16 = 0) (e4 : c 4 = kk) (e6 : c 6 = vv) (e14 : d 14 = kk') (e15 : d 15 = vv') (tk : tkr kk vv kk' vv') (c8 : c 8 = nI on) (ho : on ≤ 900) (ho2 : kk = 2 → on < 900) : (∃ a, lo ≤ a ∧ a ≤ hi ∧ kk = 2 ∧ p_X3_readNumber (cH h c O Q) (0 + 1) (nI r) = some (cH h (upd c 8 (nI (on + 1))) (upd O on (nI a)) Q) ∧ p_X10_numeral (mH X d T I Z A) 110 (nI lo) (nI hi) = Option.bind (p_X10_token (mH X d T I Z A) 110) fun r2 => some (nI a, r2)) ∨ (∃ f c' O', (f = 1 ∨ f = 2) ∧ p_X3_readNumber (cH h c O Q) (0 + 1) (nI r) = some (cH h c' O' Q) ∧ c' 10 = f ∧ c' 11 = c 5 ∧ p_X10_numeral (mH X d T I Z A) 110 (nI lo) (nI hi) = some (nI lo, mH X (fau d f) T I Z A)) := by
  have bad : ∀ f : Int32, ¬ f = 0 → ∃ c' O', p_X3_put (cH h (upd (upd c 10 f) 11 (c 5)) O Q) (0 + 1) (c 6) = some (cH h c' O' Q) ∧ c' 10 = f ∧ c' 11 = c 5 := fun f _ => by
    obtain ⟨c', O', q1, q2⟩ := put_any (h := h) (c := upd (upd c 10 f) 11 (c 5)) (O := O) (Q := Q) (on := on) (by rw [upd_n _ _ (by omega), upd_n _ _ (by omega), c8]) ho (c 6)
    refine ⟨c', O', q1, ?_, ?_⟩
    · rw [q2 _ (by omega), upd_n _ _ (by omega), upd_s]
    · rw [q2 _ (by omega), upd_s]
  have q46 : ∀ f : Int32, ¬ f = 0 → q_X10_numeral_46 (mH X (fau d f) T I Z A) 110 (nI lo) = some (nI lo, mH X (fau d f) T I Z A) := fun f hf => by
    have z : ¬ fau d f 16 = 0 := by rw [fau_16]; exact hf
    unfold q_X10_numeral_46
    rw [if_neg (by rw [mH_0]; exact z), goOn_1 z, Option.bind_some]
  by_cases k2 : kk = 2
  · obtain ⟨a, a1, a2, a3, a4⟩ : ∃ a, a < 1000000 ∧ vv = nI (min a 100000) ∧ kk' = 1 ∧ vv' = nI a := by
      rcases tk with ⟨u, _⟩ | ⟨i, _, u, _⟩ | ⟨a, a1, a2, a3, a4, a5⟩ | ⟨u, _⟩ | ⟨u, _⟩
      · rw [k2] at u
        exact absurd u (by decide)
      · rw [k2] at u
        exact absurd u (by decide)
      · exact ⟨a, a1, a3, a4, a5⟩
      · rw [k2] at u
        exact absurd u (by decide)
      · rw [k2] at u
        exact absurd u (by decide)
    by_cases ok : lo ≤ a ∧ a ≤ hi
    · refine Or.inl ⟨a, ok.1, ok.2, k2, ?_, ?_⟩
      · have m1 : min a 100000 = a := by omega
        unfold p_X3_readNumber
        rw [if_pos (by rw [cH_1, e4]; exact k2), cH_1, e6, a2, m1, fits_y (cH h c O Q) hr hlo hhi (by omega) ok.1 ok.2 (by omega), Option.bind_some]
        dsimp +instances only
        rw [if_neg one_nz, if_neg (show ¬ nI r = 8 from fun u => h8 (nI_inj (b := 8) (by omega) (by omega) u)), cH_1, e6, a2, m1, put_y c8 (ho2 k2), Option.bind_some]
      · unfold p_X10_numeral
        rw [if_pos (by rw [mH_0]; exact d16), if_pos (by rw [mH_0, e14, a3]), mH_0, e15, a4, if_neg (nI_nlt ok.1 (by omega)), if_pos (nI_le ok.2 (by omega))]
        unfold q_X10_numeral_46
        rw [if_pos (by rw [mH_0]; exact d16), nv_eq, mH_0, e15, a4, goOn_0 d16]
    · obtain ⟨c', O', b1, b2, b3⟩ := bad 2 (by decide)
      refine Or.inr ⟨2, c', O', Or.inr rfl, ?_, b2, b3, ?_⟩
      · unfold p_X3_readNumber
        rw [if_pos (by rw [cH_1, e4]; exact k2), cH_1, e6, a2, fits_n (cH h c O Q) hr (by
          rw [hlo, hhi]
          by_cases u : a < lo
          · exact Or.inl (nI_lt (by omega) (by omega))
          · exact Or.inr (nI_lt (by omega) (by omega))), Option.bind_some]
        dsimp +instances only
        rw [if_pos rfl, ref_0 c10, Option.bind_some, cH_1, upd_n _ _ (by omega), upd_n _ _ (by omega), b1, Option.bind_some]
      · unfold p_X10_numeral
        rw [if_pos (by rw [mH_0]; exact d16), if_pos (by rw [mH_0, e14, a3]), mH_0, e15, a4]
        have w : p_X10_wrong (mH X d T I Z A) 110 2 = some (mH X (fau d 2) T I Z A) := wrg_0 d16 2
        by_cases u : a < lo
        · rw [if_pos (nI_lt u (by omega)), w, Option.bind_some, q46 2 (by decide)]
        · rw [if_neg (nI_nlt (by omega) (by omega)), if_neg (nI_ge (by omega) (by omega)), w, Option.bind_some, q46 2 (by decide)]
  · have k1 : ¬ kk' = 1 := fun z => by
      rcases tk with ⟨_, u⟩ | ⟨i, _, _, _, u, _⟩ | ⟨a, _, u, _⟩ | ⟨_, u⟩ | ⟨_, u⟩
      · rw [z] at u
        exact absurd u (by decide)
      · rw [z] at u
        exact absurd u (by decide)
      · exact k2 u
      · rw [z] at u
        exact absurd u (by decide)
      · rw [z] at u
        exact absurd u (by decide)
    obtain ⟨c', O', b1, b2, b3⟩ := bad 1 (by decide)
    refine Or.inr ⟨1, c', O', Or.inl rfl, ?_, b2, b3, ?_⟩
    · unfold p_X3_readNumber
      rw [if_neg (by rw [cH_1, e4]; exact k2), ref_0 c10, Option.bind_some, cH_1, upd_n _ _ (by omega), upd_n _ _ (by omega), b1, Option.bind_some]
    · have w : p_X10_wrong (mH X d T I Z A) 110 1 = some (mH X (fau d 1) T I Z A) := wrg_0 d16 1
      unfold p_X10_numeral
      rw [if_pos (by rw [mH_0]; exact d16), if_neg (by rw [mH_0, e14]; exact k1), w, Option.bind_some, q46 1 (by decide)]
variable {ch : Nat → Nat} {len : Nat}
def up3 (d : Nat → Int32) (e6 e8 e9 : Int32) : Nat → Int32 := fun j => if j = 6 then e6 else if j = 8 then e8 else if j = 9 then e9 else d j
theorem up3_6 (d : Nat → Int32) (e6 e8 e9 : Int32) : up3 d e6 e8 e9 6 = e6 := rfl
theorem up3_8 (d : Nat → Int32) (e6 e8 e9 : Int32) : up3 d e6 e8 e9 8 = e8 := rfl
theorem up3_9 (d : Nat → Int32) (e6 e8 e9 : Int32) : up3 d e6 e8 e9 9 = e9 := rfl
theorem up3_n (d : Nat → Int32) (e6 e8 e9 : Int32) {j : Nat} (h6 : j ≠ 6) (h8 : j ≠ 8) (h9 : j ≠ 9) : up3 d e6 e8 e9 j = d j := by
  unfold up3
  rw [if_neg h6, if_neg h8, if_neg h9]
theorem up3_same {d : Nat → Int32} {e6 e8 e9 : Int32} (h6 : d 6 = e6) (h8 : d 8 = e8) (h9 : d 9 = e9) : up3 d e6 e8 e9 = d := by
  funext j
  by_cases u6 : j = 6
  · rw [u6, up3_6, h6]
  · by_cases u8 : j = 8
    · rw [u8, up3_8, h8]
    · by_cases u9 : j = 9
      · rw [u9, up3_9, h9]
      · exact up3_n _ _ _ _ u6 u8 u9
theorem up3_u8 {d : Nat → Int32} {e6 e9 : Int32} (x : Int32) (h6 : d 6 = e6) (h9 : d 9 = e9) : upd d 8 x = up3 d e6 x e9 := upd_ext (up3_8 _ _ _ _) (fun j hj => by
  by_cases u6 : j = 6
  · rw [u6, up3_6, h6]
  · by_cases u9 : j = 9
    · rw [u9, up3_9, h9]
    · exact up3_n _ _ _ _ u6 hj u9)
theorem up3_u9 {d : Nat → Int32} {e6 e8 : Int32} (x : Int32) (h6 : d 6 = e6) (h8 : d 8 = e8) : upd d 9 x = up3 d e6 e8 x := upd_ext (up3_9 _ _ _ _) (fun j hj => by
  by_cases u6 : j = 6
  · rw [u6, up3_6, h6]
  · by_cases u8 : j = 8
    · rw [u8, up3_8, h8]
    · exact up3_n _ _ _ _ u6 u8 hj)
theorem up3_u6 {d : Nat → Int32} {e8 e9 : Int32} (x : Int32) (h8 : d 8 = e8) (h9 : d 9 = e9) : upd d 6 x = up3 d x e8 e9 := upd_ext (up3_6 _ _ _ _) (fun j hj => by
  by_cases u8 : j = 8
  · rw [u8, up3_8, h8]
  · by_cases u9 : j = 9
    · rw [u9, up3_9, h9]
    · exact up3_n _ _ _ _ hj u8 u9)
theorem up3_md (d : Nat → Int32) (e6 e8 e9 p k s v : Int32) {j : Nat} (hj : j < 12 ∨ 15 < j) : up3 (md d p k s v) e6 e8 e9 j = up3 d e6 e8 e9 j := by
  unfold up3
  rw [md_n _ _ _ _ _ hj]
theorem num_step (hT : ∀ j, j < len → h 2 j = nI (ch j) ∧ ch j ≤ 255) (hT2 : ∀ j, j < len → X 111 j = nI (ch j) ∧ ch j ≤ 255) (hl9 : len ≤ 900) (c2 : c 2 = nI len) (d11 : d 11 = nI len) {p0 on r lo hi : Nat} (hp0 : p0 ≤ len) (c3 : c 3 = nI p0) (d12 : d 12 = nI p0) (hr : r < 19) (h8 : r ≠ 8) (hlo : tbv 1 r = nI lo) (hhi : tbv 2 r = nI hi) (hh : hi < 100000) (hlh : lo ≤ hi) (c10 : c 10 = 0) (d16 : d 16 = 0) (c8 : c 8 = nI on) (ho : on ≤ p0) (φ : Hp → Option Hp) (e6 e8 e9 : Int32) (T' I' Z' A' : Nat → Int32) (hφ : ∀ d', (∀ j, j < 12 ∨ 15 < j → d' j = d j) → φ (mH X d' T I Z A) = some (mH X (up3 d' e6 e8 e9) T' I' Z' A')) : (∃ a c1 d1 p1, lo ≤ a ∧ a ≤ hi ∧ (∀ Kc : Hp → Option Hp, (Option.bind (p_X3_nextToken (cH h c O Q) (0 + 1)) fun r5 => Option.bind (p_X3_readNumber r5 (0 + 1) (nI r)) Kc) = Kc (cH h c1 (upd O on (nI a)) Q)) ∧ (∀ Fm : Int32 × Hp → Option Hp, (Option.bind (p_X10_token (mH X d T I Z A) 110) fun g => Option.bind (φ g) fun g2 => Option.bind (p_X10_numeral g2 110 (nI lo) (nI hi)) Fm) = Option.bind (p_X10_token (mH X d1 T' I' Z' A') 110) fun r2 => Fm (nI a, r2)) ∧ c1 8 = nI (on + 1) ∧ c1 3 = nI p1 ∧ d1 12 = nI p1 ∧ p0 < p1 ∧ p1 ≤ len ∧ (∀ j, j < 3 ∨ 8 < j → c1 j = c j) ∧ (∀ j, j < 12 ∨ 15 < j → d1 j = up3 d e6 e8 e9 j)) ∨ (∃ f c1 O1 d1, ¬ f = 0 ∧ (∀ Kc : Hp → Option Hp, (Option.bind (p_X3_nextToken (cH h c O Q) (0 + 1)) fun r5 => Option.bind (p_X3_readNumber r5 (0 + 1) (nI r)) Kc) = Kc (cH h c1 O1 Q)) ∧ (∀ Fm : Int32 × Hp → Option Hp, (Option.bind (p_X10_token (mH X d T I Z A) 110) fun g => Option.bind (φ g) fun g2 => Option.bind (p_X10_numeral g2 110 (nI lo) (nI hi)) Fm) = Fm (nI lo, mH X d1 T' I' Z' A')) ∧ c1 10 = f ∧ c1 11 = d1 17 ∧ d1 16 = f ∧ (∀ j, j < 12 ∨ 17 < j → d1 j = up3 d e6 e8 e9 j)) := by
  obtain ⟨p, s, kk, vv, kk', vv', t1, t2, t3, t4, t5, t6, t7⟩ := token_sim (O := O) (Q := Q) (T := T) (I := I) (Z := Z) (A := A) hT hT2 hl9 c2 d11 hp0 c3 d12
  have hq := hφ (md d (nI p) (nI s) kk' vv') (fun j hj => md_n _ _ _ _ _ hj)
  have e8' : ct c (nI p) kk (nI s) vv 8 = nI on := by rw [ct_n _ _ _ _ _ (by omega), c8]
  have e10 : ct c (nI p) kk (nI s) vv 10 = 0 := by rw [ct_n _ _ _ _ _ (by omega), c10]
  obtain ⟨D, hD⟩ : ∃ D, D = up3 (md d (nI p) (nI s) kk' vv') e6 e8 e9 := ⟨_, rfl⟩
  have Dn : ∀ j, 9 < j → D j = md d (nI p) (nI s) kk' vv' j := fun j hj => by rw [hD, up3_n _ _ _ _ (by omega) (by omega) (by omega)]
  have Dj : ∀ j, j < 12 ∨ 15 < j → D j = up3 d e6 e8 e9 j := fun j hj => by rw [hD, up3_md _ _ _ _ _ _ _ _ hj]
  have e16 : D 16 = 0 := by rw [Dn _ (by omega), md_n _ _ _ _ _ (by omega), d16]
  rw [← hD] at hq
  rcases num_rd (kk := kk) (vv := vv) (kk' := kk') (vv' := vv') (h := h) (X := X) (c := ct c (nI p) kk (nI s) vv) (O := O) (Q := Q) (d := D) (T := T') (I := I') (Z := Z') (A := A') hr h8 hlo hhi hh hlh e10 e16 rfl rfl (by rw [Dn _ (by omega), md_14]) (by rw [Dn _ (by omega), md_15]) t7 e8' (by omega) (fun u => by
    have := t6 (by rw [u]; decide)
    omega) with ⟨a, a1, a2, a3, a4, a5⟩ | ⟨f, c', O', f1, f2, f3, f4, f5⟩
  · refine Or.inl ⟨a, upd (ct c (nI p) kk (nI s) vv) 8 (nI (on + 1)), D, p, a1, a2, fun Kc => ?_, fun Fm => ?_, upd_s _ _ _, ?_, ?_, ?_, t5, fun j hj => ?_, Dj⟩
    · rw [t1, Option.bind_some, a4, Option.bind_some]
    · rw [t2, Option.bind_some, hq, Option.bind_some, a5]
      cases p_X10_token (mH X D T' I' Z' A') 110 <;> rfl
    · rw [upd_n _ _ (by omega), ct_3]
    · rw [Dn _ (by omega), md_12]
    · have := t6 (by rw [a3]; decide)
      omega
    · rw [upd_n _ _ (by omega), ct_n _ _ _ _ _ (by omega)]
  · have fz : ¬ f = 0 := by
      rcases f1 with u | u <;> rw [u] <;> decide
    refine Or.inr ⟨f, c', O', fau D f, fz, fun Kc => ?_, fun Fm => ?_, f3, ?_, fau_16 _ _, fun j hj => ?_⟩
    · rw [t1, Option.bind_some, f2, Option.bind_some]
    · rw [t2, Option.bind_some, hq, Option.bind_some, f5, Option.bind_some]
    · rw [f4, fau_17, ct_5, Dn _ (by omega), md_13]
    · rw [fau_n _ _ (by omega) (by omega), Dj _ (by omega)]
/-- the end of a line -/
theorem end_sim (hT : ∀ j, j < len → h 2 j = nI (ch j) ∧ ch j ≤ 255) (hT2 : ∀ j, j < len → X 111 j = nI (ch j) ∧ ch j ≤ 255) (hl9 : len ≤ 900) (c2 : c 2 = nI len) (d11 : d 11 = nI len) {p0 ln : Nat} (hp0 : p0 ≤ len) (c3 : c 3 = nI p0) (d12 : d 12 = nI p0) (c10 : c 10 = 0) (d16 : d 16 = 0) (c9 : c 9 = nI ln) (d10 : d 10 = nI ln) (φ : Hp → Option Hp) (e6 e8 e9 : Int32) (T' I' Z' A' : Nat → Int32) (hφ : ∀ d', (∀ j, j < 12 ∨ 15 < j → d' j = d j) → φ (mH X d' T I Z A) = some (mH X (up3 d' e6 e8 e9) T' I' Z' A')) : (∃ c1 d1 p s, q_X3_readLine_69 (cH h c O Q) (0 + 1) = some (cH h c1 O Q) ∧ (Option.bind (p_X10_token (mH X d T I Z A) 110) fun r => Option.bind (φ r) fun g2 => q_X10_readLine_59 g2 110) = some (mH X d1 T' I' Z' A') ∧ c1 3 = nI p ∧ d1 12 = nI p ∧ c1 5 = nI s ∧ d1 13 = nI s ∧ tkr (c1 4) (c1 6) (d1 14) (d1 15) ∧ p0 < s ∧ s ≤ p ∧ p ≤ len ∧ (¬ c1 4 = 0 → s < p) ∧ c1 9 = nI (ln + 1) ∧ d1 10 = nI (ln + 1) ∧ (∀ j, j < 3 ∨ 6 < j → j ≠ 9 → c1 j = c j) ∧ (∀ j, j < 12 ∨ 15 < j → j ≠ 10 → d1 j = up3 d e6 e8 e9 j)) ∨ (∃ c1 d1, q_X3_readLine_69 (cH h c O Q) (0 + 1) = some (cH h c1 O Q) ∧ (Option.bind (p_X10_token (mH X d T I Z A) 110) fun r => Option.bind (φ r) fun g2 => q_X10_readLine_59 g2 110) = some (mH X d1 T' I' Z' A') ∧ c1 10 = 1 ∧ d1 16 = 1 ∧ c1 11 = d1 17 ∧ (∀ j, j < 10 ∨ 17 < j → d1 j = up3 d e6 e8 e9 j)) := by
  obtain ⟨p, s, kk, vv, kk', vv', t1, t2, t3, t4, t5, t6, t7⟩ := token_sim (O := O) (Q := Q) (T := T) (I := I) (Z := Z) (A := A) hT hT2 hl9 c2 d11 hp0 c3 d12
  have hq := hφ (md d (nI p) (nI s) kk' vv') (fun j hj => md_n _ _ _ _ _ hj)
  have e10 : ct c (nI p) kk (nI s) vv 10 = 0 := by rw [ct_n _ _ _ _ _ (by omega), c10]
  obtain ⟨D, hD⟩ : ∃ D, D = up3 (md d (nI p) (nI s) kk' vv') e6 e8 e9 := ⟨_, rfl⟩
  have Dn : ∀ j, 9 < j → D j = md d (nI p) (nI s) kk' vv' j := fun j hj => by rw [hD, up3_n _ _ _ _ (by omega) (by omega) (by omega)]
  have Dj : ∀ j, j < 12 ∨ 15 < j → D j = up3 d e6 e8 e9 j := fun j hj => by rw [hD, up3_md _ _ _ _ _ _ _ _ hj]
  have e16 : D 16 = 0 := by rw [Dn _ (by omega), md_n _ _ _ _ _ (by omega), d16]
  have eD10 : D 10 = nI ln := by rw [Dn _ (by omega), md_n _ _ _ _ _ (by omega), d10]
  rw [← hD] at hq
  have k3 : kk = 3 ↔ kk' = 2 := by
    rcases t7 with ⟨u1, u2⟩ | ⟨i, _, u1, _, u2, _⟩ | ⟨a, _, u1, _, u2, _⟩ | ⟨u1, u2⟩ | ⟨u1, u2⟩ <;> rw [u1, u2] <;> decide
  have C : q_X3_readLine_69 (cH h c O Q) (0 + 1) = if kk = 3 then Option.bind (p_X3_nextToken (cH h (upd (ct c (nI p) kk (nI s) vv) 9 (nI (ln + 1))) O Q) (0 + 1)) fun r3 => some r3 else Option.bind (p_X3_refuse (cH h (ct c (nI p) kk (nI s) vv) O Q) (0 + 1) 1) fun r4 => some r4 := by
    unfold q_X3_readLine_69
    rw [if_pos (by rw [cH_1]; exact c10), t1, Option.bind_some, cH_1, ct_4, ct_n _ _ _ _ _ (by omega), c9, nI_1, nv_eq, cH_w1]
  by_cases z : kk = 3
  · have sp : s < p := t6 (by rw [z]; decide)
    obtain ⟨p2, s2, k2, v2, k2', v2', w1, w2, w3, w4, w5, w6, w7⟩ := token_sim (c := upd (ct c (nI p) kk (nI s) vv) 9 (nI (ln + 1))) (d := D) (O := O) (Q := Q) (T := T') (I := I') (Z := Z') (A := A') hT hT2 hl9 (by rw [upd_n _ _ (by omega), ct_n _ _ _ _ _ (by omega), c2]) (by rw [Dn _ (by omega), md_n _ _ _ _ _ (by omega), d11]) t5 (by rw [upd_n _ _ (by omega), ct_3]) (by rw [Dn _ (by omega), md_12])
    refine Or.inl ⟨ct (upd (ct c (nI p) kk (nI s) vv) 9 (nI (ln + 1))) (nI p2) k2 (nI s2) v2, upd (md D (nI p2) (nI s2) k2' v2') 10 (nI (ln + 1)), p2, s2, ?_, ?_, ct_3 _ _ _ _ _, ?_, ct_5 _ _ _ _ _, ?_, ?_, by omega, w4, w5, ?_, ?_, upd_s _ _ _, fun j h1 h2 => ?_, fun j h1 h2 => ?_⟩
    · rw [C, if_pos z, w1, Option.bind_some]
    · rw [t2, Option.bind_some, hq, Option.bind_some]
      unfold q_X10_readLine_59
      rw [if_pos (by rw [mH_0]; exact e16), if_pos (by rw [mH_0, Dn _ (by omega), md_14]; exact k3.mp z), goOn_0 e16, w2, Option.bind_some, mH_0, md_n _ _ _ _ _ (by omega), eD10, nI_1, nv_eq, mH_w0]
    · rw [upd_n _ _ (by omega), md_12]
    · rw [upd_n _ _ (by omega), md_13]
    · rw [ct_4, ct_6, upd_n _ _ (by omega), upd_n _ _ (by omega), md_14, md_15]
      exact w7
    · rw [ct_4]
      exact w6
    · rw [ct_n _ _ _ _ _ (by omega), upd_s]
    · rw [ct_n _ _ _ _ _ h1, upd_n _ _ h2, ct_n _ _ _ _ _ h1]
    · rw [upd_n _ _ h2, md_n _ _ _ _ _ h1, Dj _ h1]
  · refine Or.inr ⟨upd (upd (ct c (nI p) kk (nI s) vv) 10 1) 11 (ct c (nI p) kk (nI s) vv 5), upd (fau D 1) 10 (nI (ln + 1)), ?_, ?_, ?_, ?_, ?_, fun j hj => ?_⟩
    · rw [C, if_neg z, ref_0 e10, Option.bind_some]
    · have w : p_X10_wrong (mH X D T' I' Z' A') 110 1 = some (mH X (fau D 1) T' I' Z' A') := wrg_0 e16 1
      rw [t2, Option.bind_some, hq, Option.bind_some]
      unfold q_X10_readLine_59
      rw [if_pos (by rw [mH_0]; exact e16), if_neg (by rw [mH_0, Dn _ (by omega), md_14]; exact fun u => z (k3.mpr u)), w, Option.bind_some, goOn_1 (by rw [fau_16]; decide), Option.bind_some, mH_0, fau_n _ _ (by omega) (by omega), eD10, nI_1, nv_eq, mH_w0]
    · rw [upd_n _ _ (by omega), upd_s]
    · rw [upd_n _ _ (by omega), fau_16]
    · rw [upd_s, upd_n _ _ (by omega), fau_17, ct_5, Dn _ (by omega), md_13]
    · rw [upd_n _ _ (by omega), fau_n _ _ (by omega) (by omega), Dj _ (by omega)]
end Ln
