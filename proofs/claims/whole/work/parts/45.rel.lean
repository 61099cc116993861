/-! the relation between a world of the class and the reference's array -/
def rg (x : Int32) (a b : Nat) : Prop := ∃ k : Nat, a ≤ k ∧ k ≤ b ∧ x = nI k
theorem rg.nz {x : Int32} {b : Nat} (h : rg x 0 b) (hb : b < 2 ^ 31) (h0 : ¬ x = 0) : rg x 1 b := by
  obtain ⟨k, h1, h2, rfl⟩ := h
  refine ⟨k, ?_, h2, rfl⟩
  rcases Nat.eq_zero_or_pos k with e | e
  · subst e
    exact absurd nI_0 h0
  · exact e
theorem rg01 {x : Int32} (h : rg x 0 1) : x = 0 ∨ x = 1 := by
  obtain ⟨k, h1, h2, rfl⟩ := h
  rcases (show k = 0 ∨ k = 1 by omega) with rfl | rfl
  · exact Or.inl rfl
  · exact Or.inr rfl
theorem rg_0 (b : Nat) : rg 0 0 b := ⟨0, Nat.le_refl 0, Nat.zero_le b, rfl⟩
theorem rg_1 {b : Nat} (h : 1 ≤ b) : rg 1 0 b := ⟨1, Nat.zero_le 1, h, rfl⟩
theorem rg.mono {x : Int32} {a b a' b' : Nat} (h : rg x a b) (h1 : a' ≤ a) (h2 : b ≤ b') : rg x a' b' := by
  obtain ⟨k, e1, e2, e3⟩ := h
  exact ⟨k, by omega, by omega, e3⟩
def sm (g : Nat → Nat) : Nat → Nat
  | 0 => 0
  | n + 1 => sm g n + g n
theorem sm_s (g : Nat → Nat) (n : Nat) : sm g (n + 1) = sm g n + g n := rfl
theorem sm_cong {g g' : Nat → Nat} : ∀ {n : Nat}, (∀ k, k < n → g k = g' k) → sm g n = sm g' n
  | 0, _ => rfl
  | n + 1, h => by rw [sm_s, sm_s, sm_cong (fun k hk => h k (Nat.lt_succ_of_lt hk)), h n (Nat.lt_succ_self n)]
theorem sm_one {g g' : Nat → Nat} {j : Nat} : ∀ {n : Nat}, j < n → (∀ k, k < n → k ≠ j → g' k = g k) → sm g' n + g j = sm g n + g' j
  | 0, h, _ => absurd h (Nat.not_lt_zero j)
  | n + 1, h, e => by
    rw [sm_s, sm_s]
    by_cases hj : j = n
    · subst hj
      rw [sm_cong (fun k hk => e k (by omega) (by omega))]
      omega
    · have := sm_one (show j < n by omega) (fun k hk hn => e k (by omega) hn)
      have := e n (by omega) (by omega)
      omega
theorem sm_le {g : Nat → Nat} {c : Nat} : ∀ {n : Nat}, (∀ k, k < n → g k ≤ c) → sm g n ≤ c * n
  | 0, _ => Nat.le_refl 0
  | n + 1, h => by
    rw [sm_s, Nat.mul_succ]
    exact Nat.add_le_add (sm_le fun k hk => h k (by omega)) (h n (by omega))
theorem sm_ge {g : Nat → Nat} {j : Nat} : ∀ {n : Nat}, j < n → g j ≤ sm g n
  | 0, h => absurd h (Nat.not_lt_zero j)
  | n + 1, h => by
    rw [sm_s]
    by_cases hj : j = n
    · subst hj
      omega
    · have := sm_ge (g := g) (show j < n by omega)
      omega
theorem sm_pos {g : Nat → Nat} : ∀ {n : Nat}, 0 < sm g n → ∃ j, j < n ∧ 0 < g j
  | 0, h => absurd h (Nat.lt_irrefl 0)
  | n + 1, h => by
    rw [sm_s] at h
    by_cases hn : 0 < g n
    · exact ⟨n, by omega, hn⟩
    · obtain ⟨j, h1, h2⟩ := sm_pos (g := g) (n := n) (by omega)
      exact ⟨j, by omega, h2⟩
theorem cnt_one {p p' : Nat → Bool} {j : Nat} : ∀ {n : Nat}, j < n → p j = true → p' j = false → (∀ k, k < n → k ≠ j → p' k = p k) → fa_cnt p n = fa_cnt p' n + 1
  | 0, h, _, _, _ => absurd h (Nat.not_lt_zero j)
  | n + 1, h, h1, h2, e => by
    by_cases hj : j = n
    · subst hj
      rw [fa_cnt_yes h1, fa_cnt_no h2, fa_cnt_cong (fun k hk => (e k (by omega) (by omega)).symm)]
    · have ih := cnt_one (show j < n by omega) h1 h2 (fun k hk hn => e k (by omega) hn)
      have en := e n (by omega) (by omega)
      rw [fa_cnt, fa_cnt, en]
      omega
theorem cnt_pos {p : Nat → Bool} : ∀ {n : Nat}, 0 < fa_cnt p n → ∃ j, j < n ∧ p j = true
  | 0, h => absurd h (Nat.lt_irrefl 0)
  | n + 1, h => by
    by_cases hn : p n = true
    · exact ⟨n, by omega, hn⟩
    · rw [fa_cnt_no (Bool.eq_false_iff.mpr hn)] at h
      obtain ⟨j, h1, h2⟩ := cnt_pos h
      exact ⟨j, by omega, h2⟩
theorem cnt_zero {p : Nat → Bool} : ∀ {n : Nat}, fa_cnt p n = 0 → ∀ j, j < n → p j = false
  | 0, _, j, h => absurd h (Nat.not_lt_zero j)
  | n + 1, h0, j, h => by
    by_cases hn : p n = true
    · rw [fa_cnt_yes hn] at h0
      omega
    · rw [fa_cnt_no (Bool.eq_false_iff.mpr hn)] at h0
      by_cases e : j = n
      · rw [e]
        exact Bool.eq_false_iff.mpr hn
      · exact cnt_zero h0 j (by omega)
def isum (g : Nat → Int32) : Nat → Int32
  | 0 => 0
  | n + 1 => isum g n + g n
theorem isum_s (g : Nat → Int32) (n : Nat) : isum g (n + 1) = isum g n + g n := rfl
theorem isum_cong {g g' : Nat → Int32} : ∀ {n : Nat}, (∀ k, k < n → g k = g' k) → isum g n = isum g' n
  | 0, _ => rfl
  | n + 1, h => by rw [isum_s, isum_s, isum_cong (fun k hk => h k (Nat.lt_succ_of_lt hk)), h n (Nat.lt_succ_self n)]
theorem i_rc (a b c : Int32) : a + b + c = a + c + b := by rw [Int32.add_assoc, Int32.add_comm b c, ← Int32.add_assoc]
theorem isum_add {g g' : Nat → Int32} {j : Nat} {x : Int32} (hx : g' j = g j + x) : ∀ {n : Nat}, j < n → (∀ k, k < n → k ≠ j → g' k = g k) → isum g' n = isum g n + x
  | 0, h, _ => absurd h (Nat.not_lt_zero j)
  | n + 1, h, e => by
    rw [isum_s, isum_s]
    by_cases hj : j = n
    · subst hj
      rw [isum_cong (fun k hk => e k (by omega) (by omega)), hx, Int32.add_assoc]
    · rw [isum_add hx (show j < n by omega) (fun k hk hn => e k (by omega) hn), e n (by omega) (fun z => hj z.symm), i_rc]
/-! the next one of a bucket -/
def isnx (p : Nat → Bool) (i n : Nat) (x : Int32) : Prop := (∃ f, i ≤ f ∧ f < n ∧ p f = true ∧ (∀ g, i ≤ g → g < f → p g = false) ∧ x = nI f) ∨ ((∀ g, i ≤ g → g < n → p g = false) ∧ x = -2)
def islt (p : Nat → Bool) (n : Nat) (x : Int32) : Prop := (∃ f, f < n ∧ p f = true ∧ (∀ g, f < g → g < n → p g = false) ∧ x = nI f) ∨ ((∀ g, g < n → p g = false) ∧ x = -2)
theorem isnx.cong {p q : Nat → Bool} {i n : Nat} {x : Int32} (h : isnx p i n x) (e : ∀ g, g < n → q g = p g) : isnx q i n x := by
  rcases h with ⟨f, h1, h2, h3, h4, h5⟩ | ⟨h1, h2⟩
  · exact Or.inl ⟨f, h1, h2, by rw [e f h2, h3], fun g a b => by rw [e g (by omega), h4 g a b], h5⟩
  · exact Or.inr ⟨fun g a b => by rw [e g b, h1 g a b], h2⟩
theorem islt.cong {p q : Nat → Bool} {n : Nat} {x : Int32} (h : islt p n x) (e : ∀ g, g < n → q g = p g) : islt q n x := by
  rcases h with ⟨f, h2, h3, h4, h5⟩ | ⟨h1, h2⟩
  · exact Or.inl ⟨f, h2, by rw [e f h2, h3], fun g a b => by rw [e g b, h4 g a b], h5⟩
  · exact Or.inr ⟨fun g b => by rw [e g b, h1 g b], h2⟩
def sb (S : Nat → Int32) (b f : Nat) : Bool := decide (S (276 + 12 * f + 4) = nI b ∧ S (276 + 12 * f + 6) = 0)
theorem sb_t {S : Nat → Int32} {b f : Nat} : sb S b f = true ↔ S (276 + 12 * f + 4) = nI b ∧ S (276 + 12 * f + 6) = 0 := decide_eq_true_iff
theorem sb_f {S : Nat → Int32} {b f : Nat} : sb S b f = false ↔ ¬ (S (276 + 12 * f + 4) = nI b ∧ S (276 + 12 * f + 6) = 0) := decide_eq_false_iff_not
theorem sb_cong {S S' : Nat → Int32} {b f : Nat} (h1 : S' (276 + 12 * f + 4) = S (276 + 12 * f + 4)) (h2 : S' (276 + 12 * f + 6) = S (276 + 12 * f + 6)) : sb S' b f = sb S b f := by
  unfold sb
  rw [h1, h2]
def sd (S : Nat → Int32) (f : Nat) : Bool := decide (S (276 + 12 * f + 6) = 0)
def bsum (S : Nat → Int32) (b n : Nat) : Nat := sm (fun f => if sb S b f then (S (276 + 12 * f + 1)).toNatClampNeg else 0) n
def lr (tk : Nat) (L : List Nat) : List Nat := if tk < 200 then L ++ [tk] else L
def pl (S : Nat → Int32) (c : Nat) (L : List Nat) : List Nat := L.filter (fun f => decide (S (276 + 12 * f + 6) = nI c))
def ml (S : Nat → Int32) (L : List Nat) : List Nat := L.filter (fun f => decide (S (276 + 12 * f + 5) = 1))
def wn (S : Nat → Int32) (f : Nat) : Nat := (S (276 + 12 * f + 7)).toNatClampNeg
/-! the parts of the relation -/
def kSC (h : Hp) (w : Nat) (S : Nat → Int32) : Prop := h w 7 = S 0 ∧ h (w + 2) 13 = S 1 ∧ h w 8 = S 2 ∧ h (w + 1) 1 = S 5 ∧ h (w + 1) 2 = S 6 ∧ h (w + 1) 6 = S 8 ∧ h (w + 1) 7 = S 9 ∧ h (w + 1) 3 = S 10 ∧ h (w + 1) 4 = S 11 ∧ h w 6 = S 3477
def kBK (h : Hp) (w : Nat) (S : Nat → Int32) : Prop := ∀ b, b < 16 → h (w + 16 + 1 + b) 0 = S (68 + 13 * b + 0) ∧ h (w + 16 + 1 + b) 5 = S (68 + 13 * b + 1) ∧ h (w + 16 + 1 + b) 6 = S (68 + 13 * b + 2) ∧ h (w + 16 + 1 + b) 7 = S (68 + 13 * b + 3) ∧ h (w + 16 + 1 + b) 8 = S (68 + 13 * b + 4) ∧ h (w + 16 + 1 + b) 12 = S (68 + 13 * b + 5) ∧ h (w + 16 + 1 + b) 9 = S (68 + 13 * b + 6) ∧ h (w + 16 + 1 + b) 10 = S (68 + 13 * b + 7) ∧ h (w + 16 + 1 + b) 11 = S (68 + 13 * b + 8) ∧ h (w + 16 + 1 + b) 4 = S (68 + 13 * b + 12)
def kFR (n tk : Nat) (h : Hp) (w : Nat) (S : Nat → Int32) : Prop := ∀ f, f < n → h (w + 2 + 1) f = S (276 + 12 * f + 0) ∧ h (w + 2 + 2) f = S (276 + 12 * f + 1) ∧ h (w + 2 + 3) f = S (276 + 12 * f + 2) ∧ h (w + 2 + 4) f = S (276 + 12 * f + 3) ∧ h (w + 2 + 5) f = S (276 + 12 * f + 4) ∧ h (w + 2 + 8) f = S (276 + 12 * f + 5) ∧ h (w + 2 + 7) f = S (276 + 12 * f + 9) ∧ h (w + 2 + 6) f = S (276 + 12 * f + 10) ∧ (f ≠ tk → h (w + 2 + 9) f = S (276 + 12 * f + 6) ∧ h (w + 2 + 10) f = S (276 + 12 * f + 7))
def kSN (tb : Nat → Int32) (sn : Nat) (h : Hp) (w : Nat) (S : Nat → Int32) : Prop := (∀ k, k < sn → ∀ c, c < 9 → c ≠ 5 → h (w + 35 + 1 + k) c = S (3478 + 9 * k + c)) ∧ ∀ k, k < sn → S (3478 + 9 * k + 5) = h (w + 35 + 1 + k) 5 + tb (4 + k)
def kIS (m y sn n N : Nat) (S : Nat → Int32) : Prop := S 0 = nI N ∧ S 1 = nI n ∧ n ≤ 200 ∧ S 10 = nI m ∧ 1 ≤ m ∧ m ≤ 4 ∧ S 11 = nI y ∧ 1 ≤ y ∧ y ≤ 4 ∧ rg (S 5) 10 999 ∧ rg (S 6) 50 3000 ∧ rg (S 9) 0 1500 ∧ S 3477 = nI sn ∧ sn ≤ 4
def kBR (S : Nat → Int32) : Prop := ∀ b, b < 16 → -1500 ≤ (S (68 + 13 * b + 1)).toInt ∧ (S (68 + 13 * b + 1)).toInt ≤ 3000 ∧ rg (S (68 + 13 * b + 3)) 0 999 ∧ rg (S (68 + 13 * b + 4)) 0 999 ∧ rg (S (68 + 13 * b + 5)) 0 1 ∧ rg (S (68 + 13 * b + 8)) 1 65535
def kFI (m y n N : Nat) (S : Nat → Int32) : Prop := (∀ f, f < n → rg (S (276 + 12 * f + 0)) 0 9999 ∧ rg (S (276 + 12 * f + 1)) 1 1500 ∧ rg (S (276 + 12 * f + 2)) 0 1 ∧ rg (S (276 + 12 * f + 3)) 0 N ∧ (∃ b, b < m * y ∧ S (276 + 12 * f + 4) = nI b) ∧ rg (S (276 + 12 * f + 5)) 0 1 ∧ rg (S (276 + 12 * f + 6)) 0 3 ∧ (¬ S (276 + 12 * f + 6) = 0 → ∃ c v, S (276 + 12 * f + 3) = nI c ∧ S (276 + 12 * f + 7) = nI v ∧ c ≤ v ∧ v ≤ N) ∧ (S (276 + 12 * f + 5) = 1 → S (276 + 12 * f + 6) = 1) ∧ rg (S (276 + 12 * f + 9)) 0 1 ∧ (S (276 + 12 * f + 10) = -2 ∨ rg (S (276 + 12 * f + 10)) 0 3) ∧ (S (276 + 12 * f + 6) = 0 → S (276 + 12 * f + 7) = -2)) ∧ ∀ f, n ≤ f → f < 200 → S (276 + 12 * f + 5) = 0 ∧ S (276 + 12 * f + 6) = 0
def kSI (sn : Nat) (S : Nat → Int32) : Prop := ∀ k, k < sn → rg (S (3478 + 9 * k + 0)) 0 9999 ∧ rg (S (3478 + 9 * k + 1)) 1 1500 ∧ rg (S (3478 + 9 * k + 2)) 100 2000 ∧ rg (S (3478 + 9 * k + 3)) 1 99 ∧ rg (S (3478 + 9 * k + 4)) 0 1
def kLI (m y : Nat) (nw ol : List Nat) (S : Nat → Int32) : Prop := S 12 = nI nw.length ∧ S 13 = nI ol.length ∧ AL S 18 nw ∧ AL S 34 ol ∧ (nw ++ ol).Nodup ∧ (∀ b ∈ nw ++ ol, b < m * y) ∧ ∀ b, b < 16 → S (68 + 13 * b + 2) = if b ∈ nw then 1 else if b ∈ ol then 2 else 0
def kLC (nw ol : List Nat) (h : Hp) (w : Nat) : Prop := h (w + 33) 1 = nI nw.length ∧ h (w + 33) 2 = nI (nw ++ ol).length ∧ AL (h (w + 33 + 1)) 0 (nw ++ ol)
def kCB (n : Nat) (h : Hp) (w : Nat) (S : Nat → Int32) : Prop := ∀ b, b < 16 → isnx (sb S b) 0 n (h (w + 16 + 1 + b) 1) ∧ islt (sb S b) n (h (w + 16 + 1 + b) 2) ∧ h (w + 16 + 1 + b) 3 = nI (fa_cnt (sb S b) n) ∧ S (68 + 13 * b + 12) = nI (bsum S b n)
def kBG (bg : Bool) (n : Nat) (h : Hp) (w : Nat) (S : Nat → Int32) : Prop := bg = true → ∀ b, b < 16 → rg (S (68 + 13 * b + 9)) 0 n ∧ (∃ s, h (w + 16 + 1 + b) 13 = nI s ∧ s ≤ n ∧ ∀ f, f < n → S (276 + 12 * f + 4) = nI b → (S (276 + 12 * f + 8) = S (68 + 13 * b + 9) ↔ s ≤ f)) ∧ ∀ f, f < n → S (276 + 12 * f + 4) = nI b → ∃ z g, S (276 + 12 * f + 8) = nI z ∧ S (68 + 13 * b + 9) = nI g ∧ z ≤ g ∧ g ≤ n
def kCF (n : Nat) (h : Hp) (w : Nat) (S : Nat → Int32) : Prop := (∀ b f, b < 16 → f < n → sb S b f = true → isnx (sb S b) (f + 1) n (h (w + 2 + 11) f)) ∧ S 2 = nI (fa_cnt (sd S) n) ∧ h w 9 = isum (fun b => S (68 + 13 * b + 12)) 16
def kEL (n N tk : Nat) (L : List Nat) (h : Hp) (w : Nat) (S : Nat → Int32) : Prop := h (w + 2) 14 = nI L.length ∧ AL (h (w + 2 + 12)) 0 L ∧ S 3514 = nI (lr tk L).length ∧ AL S 3515 (lr tk L) ∧ L.Nodup ∧ (∀ f, f ∈ L ↔ (f < n ∧ f ≠ tk ∧ ¬ S (276 + 12 * f + 6) = 0)) ∧ (tk < 200 → tk < n ∧ ¬ S (276 + 12 * tk + 6) = 0 ∧ S (276 + 12 * tk + 7) = nI N) ∧ L.Pairwise (fun a b => wn S a ≤ wn S b)
def kEP (Bd N tk : Nat) (L : List Nat) (S : Nat → Int32) : Prop := S 14 = nI (pl S 1 L).length ∧ AL S (2676 + 200 * 0) (pl S 1 L) ∧ S 15 = nI (pl S 2 L).length ∧ AL S (2676 + 200 * 1) (pl S 2 L) ∧ S 16 = nI (ml S (lr tk L)).length ∧ AL S (2676 + 200 * 2) (ml S (lr tk L)) ∧ S 17 = nI (pl S 3 L).length ∧ AL S (2676 + 200 * 3) (pl S 3 L) ∧ N ≤ Bd + 1500 * (pl S 1 L).length ∧ Bd ≤ 5000000
def kEH (sn n : Nat) (L : List Nat) (h : Hp) (w : Nat) (S : Nat → Int32) : Prop := (∀ k, k < sn → ∃ s, s ≤ L.length ∧ h (w + 35 + 1 + k) 9 = nI s ∧ ∀ i f, L[i]? = some f → S (276 + 12 * f + 10) = nI k → S (276 + 12 * f + 11) = if i < s then 1 else 0) ∧ ∀ f, f < n → f ∉ L → S (276 + 12 * f + 11) = 0
def kWI (rl : Bool) (h : Hp) (w : Nat) (S : Nat → Int32) : Prop := ∃ k, k ≤ 6 ∧ S 3 = nI k ∧ (rl = true → h (w + 40) 3 = nI k ∧ ∀ i, i < k → rg (S (50 + 3 * i + 1)) 0 99999 ∧ h (w + 40 + 1) i = S (50 + 3 * i) ∧ h (w + 40 + 2) i = S (50 + 3 * i + 1) ∧ h (w + 40 + 3) i = S (50 + 3 * i + 2)) ∧ (rl = false → h (w + 40) 3 = 0)
def kTA (tb : Nat → Int32) (h : Hp) (w : Nat) (S : Nat → Int32) : Prop := S 14 = h (w + 2 + 13) 1 + tb 0 ∧ S 15 = h (w + 2 + 13) 2 + tb 1 ∧ S 16 = h (w + 2 + 13) 4 + tb 2 ∧ S 17 = h (w + 2 + 13) 3 + tb 3
def kPK (rl : Bool) (tb : Nat → Int32) (h : Hp) (w : Nat) (S : Nat → Int32) : Prop := rg (h w 10) 0 200 ∧ (rl = true ∨ tb 8 = 1 → h w 10 = S 3476)
def kPX (tb : Nat → Int32) (L : List Nat) (S : Nat → Int32) : Prop := ∃ P E : List Nat, L = P ++ E ∧ P.length ≤ 200 ∧ tb 9 = nI P.length ∧ tb 10 = nI (pl S 1 P).length
def kLT (tb : Nat → Int32) (h : Hp) (w : Nat) : Prop := tb 11 ≤ h (w + 1) 0 ∧ tb 11 ≤ h w 12
def Rel (bg rl : Bool) (tb : Nat → Int32) (m y sn Bd n N tk : Nat) (nw ol L : List Nat) (h : Hp) (w : Nat) (S : Nat → Int32) : Prop :=
  kSC h w S ∧ kBK h w S ∧ kFR n tk h w S ∧ kSN tb sn h w S ∧ kIS m y sn n N S ∧ kBR S ∧ kFI m y n N S ∧ kSI sn S ∧ kLI m y nw ol S ∧ kLC nw ol h w ∧ kCB n h w S ∧ kCF n h w S ∧ kEL n N tk L h w S ∧ kEP Bd N tk L S ∧ kEH sn n L h w S ∧ kWI rl h w S ∧ kTA tb h w S ∧ kPK rl tb h w S ∧ kBG bg n h w S ∧ kPX tb L S ∧ kLT tb h w

section Racc
variable {bg rl : Bool} {tb : Nat → Int32} {m y sn Bd n N tk : Nat} {nw ol L : List Nat} {h : Hp} {w : Nat} {S : Nat → Int32}
theorem Rel.sc (R : Rel bg rl tb m y sn Bd n N tk nw ol L h w S) : kSC h w S := R.1
theorem Rel.bk (R : Rel bg rl tb m y sn Bd n N tk nw ol L h w S) : kBK h w S := R.2.1
theorem Rel.fr (R : Rel bg rl tb m y sn Bd n N tk nw ol L h w S) : kFR n tk h w S := R.2.2.1
theorem Rel.ksn (R : Rel bg rl tb m y sn Bd n N tk nw ol L h w S) : kSN tb sn h w S := R.2.2.2.1
theorem Rel.is (R : Rel bg rl tb m y sn Bd n N tk nw ol L h w S) : kIS m y sn n N S := R.2.2.2.2.1
theorem Rel.br (R : Rel bg rl tb m y sn Bd n N tk nw ol L h w S) : kBR S := R.2.2.2.2.2.1
theorem Rel.fi (R : Rel bg rl tb m y sn Bd n N tk nw ol L h w S) : kFI m y n N S := R.2.2.2.2.2.2.1
theorem Rel.si (R : Rel bg rl tb m y sn Bd n N tk nw ol L h w S) : kSI sn S := R.2.2.2.2.2.2.2.1
theorem Rel.li (R : Rel bg rl tb m y sn Bd n N tk nw ol L h w S) : kLI m y nw ol S := R.2.2.2.2.2.2.2.2.1
theorem Rel.lc (R : Rel bg rl tb m y sn Bd n N tk nw ol L h w S) : kLC nw ol h w := R.2.2.2.2.2.2.2.2.2.1
theorem Rel.cb (R : Rel bg rl tb m y sn Bd n N tk nw ol L h w S) : kCB n h w S := R.2.2.2.2.2.2.2.2.2.2.1
theorem Rel.cf (R : Rel bg rl tb m y sn Bd n N tk nw ol L h w S) : kCF n h w S := R.2.2.2.2.2.2.2.2.2.2.2.1
theorem Rel.el (R : Rel bg rl tb m y sn Bd n N tk nw ol L h w S) : kEL n N tk L h w S := R.2.2.2.2.2.2.2.2.2.2.2.2.1
theorem Rel.ep (R : Rel bg rl tb m y sn Bd n N tk nw ol L h w S) : kEP Bd N tk L S := R.2.2.2.2.2.2.2.2.2.2.2.2.2.1
theorem Rel.eh (R : Rel bg rl tb m y sn Bd n N tk nw ol L h w S) : kEH sn n L h w S := R.2.2.2.2.2.2.2.2.2.2.2.2.2.2.1
theorem Rel.wi (R : Rel bg rl tb m y sn Bd n N tk nw ol L h w S) : kWI rl h w S := R.2.2.2.2.2.2.2.2.2.2.2.2.2.2.2.1
theorem Rel.ta (R : Rel bg rl tb m y sn Bd n N tk nw ol L h w S) : kTA tb h w S := R.2.2.2.2.2.2.2.2.2.2.2.2.2.2.2.2.1
theorem Rel.pk (R : Rel bg rl tb m y sn Bd n N tk nw ol L h w S) : kPK rl tb h w S := R.2.2.2.2.2.2.2.2.2.2.2.2.2.2.2.2.2.1
theorem Rel.kbg (R : Rel bg rl tb m y sn Bd n N tk nw ol L h w S) : kBG bg n h w S := R.2.2.2.2.2.2.2.2.2.2.2.2.2.2.2.2.2.2.1
theorem Rel.px (R : Rel bg rl tb m y sn Bd n N tk nw ol L h w S) : kPX tb L S := R.2.2.2.2.2.2.2.2.2.2.2.2.2.2.2.2.2.2.2.1
theorem Rel.lt (R : Rel bg rl tb m y sn Bd n N tk nw ol L h w S) : kLT tb h w := R.2.2.2.2.2.2.2.2.2.2.2.2.2.2.2.2.2.2.2.2
theorem Rel.now (R : Rel bg rl tb m y sn Bd n N tk nw ol L h w S) : h w 7 = S 0 := R.sc.1
theorem Rel.many (R : Rel bg rl tb m y sn Bd n N tk nw ol L h w S) : h (w + 2) 13 = S 1 := R.sc.2.1
theorem Rel.stg (R : Rel bg rl tb m y sn Bd n N tk nw ol L h w S) : h w 8 = S 2 := R.sc.2.2.1
theorem Rel.itv (R : Rel bg rl tb m y sn Bd n N tk nw ol L h w S) : h (w + 1) 1 = S 5 := R.sc.2.2.2.1
theorem Rel.qua (R : Rel bg rl tb m y sn Bd n N tk nw ol L h w S) : h (w + 1) 2 = S 6 := R.sc.2.2.2.2.1
theorem Rel.sml (R : Rel bg rl tb m y sn Bd n N tk nw ol L h w S) : h (w + 1) 6 = S 8 := R.sc.2.2.2.2.2.1
theorem Rel.rat (R : Rel bg rl tb m y sn Bd n N tk nw ol L h w S) : h (w + 1) 7 = S 9 := R.sc.2.2.2.2.2.2.1
theorem Rel.sets (R : Rel bg rl tb m y sn Bd n N tk nw ol L h w S) : h (w + 1) 3 = S 10 := R.sc.2.2.2.2.2.2.2.1
theorem Rel.ways (R : Rel bg rl tb m y sn Bd n N tk nw ol L h w S) : h (w + 1) 4 = S 11 := R.sc.2.2.2.2.2.2.2.2.1
theorem Rel.snd (R : Rel bg rl tb m y sn Bd n N tk nw ol L h w S) : h w 6 = S 3477 := R.sc.2.2.2.2.2.2.2.2.2
theorem Rel.b0 (R : Rel bg rl tb m y sn Bd n N tk nw ol L h w S) {b : Nat} (hb : b < 16) : h (w + 16 + 1 + b) 0 = S (68 + 13 * b + 0) := (R.bk b hb).1
theorem Rel.b5 (R : Rel bg rl tb m y sn Bd n N tk nw ol L h w S) {b : Nat} (hb : b < 16) : h (w + 16 + 1 + b) 5 = S (68 + 13 * b + 1) := (R.bk b hb).2.1
theorem Rel.b6 (R : Rel bg rl tb m y sn Bd n N tk nw ol L h w S) {b : Nat} (hb : b < 16) : h (w + 16 + 1 + b) 6 = S (68 + 13 * b + 2) := (R.bk b hb).2.2.1
theorem Rel.b7 (R : Rel bg rl tb m y sn Bd n N tk nw ol L h w S) {b : Nat} (hb : b < 16) : h (w + 16 + 1 + b) 7 = S (68 + 13 * b + 3) := (R.bk b hb).2.2.2.1
theorem Rel.b8 (R : Rel bg rl tb m y sn Bd n N tk nw ol L h w S) {b : Nat} (hb : b < 16) : h (w + 16 + 1 + b) 8 = S (68 + 13 * b + 4) := (R.bk b hb).2.2.2.2.1
theorem Rel.b12 (R : Rel bg rl tb m y sn Bd n N tk nw ol L h w S) {b : Nat} (hb : b < 16) : h (w + 16 + 1 + b) 12 = S (68 + 13 * b + 5) := (R.bk b hb).2.2.2.2.2.1
theorem Rel.b9 (R : Rel bg rl tb m y sn Bd n N tk nw ol L h w S) {b : Nat} (hb : b < 16) : h (w + 16 + 1 + b) 9 = S (68 + 13 * b + 6) := (R.bk b hb).2.2.2.2.2.2.1
theorem Rel.b10 (R : Rel bg rl tb m y sn Bd n N tk nw ol L h w S) {b : Nat} (hb : b < 16) : h (w + 16 + 1 + b) 10 = S (68 + 13 * b + 7) := (R.bk b hb).2.2.2.2.2.2.2.1
theorem Rel.b11 (R : Rel bg rl tb m y sn Bd n N tk nw ol L h w S) {b : Nat} (hb : b < 16) : h (w + 16 + 1 + b) 11 = S (68 + 13 * b + 8) := (R.bk b hb).2.2.2.2.2.2.2.2.1
theorem Rel.b4 (R : Rel bg rl tb m y sn Bd n N tk nw ol L h w S) {b : Nat} (hb : b < 16) : h (w + 16 + 1 + b) 4 = S (68 + 13 * b + 12) := (R.bk b hb).2.2.2.2.2.2.2.2.2
theorem Rel.f1 (R : Rel bg rl tb m y sn Bd n N tk nw ol L h w S) {f : Nat} (hf : f < n) : h (w + 2 + 1) f = S (276 + 12 * f + 0) := (R.fr f hf).1
theorem Rel.f2 (R : Rel bg rl tb m y sn Bd n N tk nw ol L h w S) {f : Nat} (hf : f < n) : h (w + 2 + 2) f = S (276 + 12 * f + 1) := (R.fr f hf).2.1
theorem Rel.f3 (R : Rel bg rl tb m y sn Bd n N tk nw ol L h w S) {f : Nat} (hf : f < n) : h (w + 2 + 3) f = S (276 + 12 * f + 2) := (R.fr f hf).2.2.1
theorem Rel.f4 (R : Rel bg rl tb m y sn Bd n N tk nw ol L h w S) {f : Nat} (hf : f < n) : h (w + 2 + 4) f = S (276 + 12 * f + 3) := (R.fr f hf).2.2.2.1
theorem Rel.f5 (R : Rel bg rl tb m y sn Bd n N tk nw ol L h w S) {f : Nat} (hf : f < n) : h (w + 2 + 5) f = S (276 + 12 * f + 4) := (R.fr f hf).2.2.2.2.1
theorem Rel.f8 (R : Rel bg rl tb m y sn Bd n N tk nw ol L h w S) {f : Nat} (hf : f < n) : h (w + 2 + 8) f = S (276 + 12 * f + 5) := (R.fr f hf).2.2.2.2.2.1
theorem Rel.f7 (R : Rel bg rl tb m y sn Bd n N tk nw ol L h w S) {f : Nat} (hf : f < n) : h (w + 2 + 7) f = S (276 + 12 * f + 9) := (R.fr f hf).2.2.2.2.2.2.1
theorem Rel.f6 (R : Rel bg rl tb m y sn Bd n N tk nw ol L h w S) {f : Nat} (hf : f < n) : h (w + 2 + 6) f = S (276 + 12 * f + 10) := (R.fr f hf).2.2.2.2.2.2.2.1
theorem Rel.f9 (R : Rel bg rl tb m y sn Bd n N tk nw ol L h w S) {f : Nat} (hf : f < n) (ht : f ≠ tk) : h (w + 2 + 9) f = S (276 + 12 * f + 6) := ((R.fr f hf).2.2.2.2.2.2.2.2 ht).1
theorem Rel.f10 (R : Rel bg rl tb m y sn Bd n N tk nw ol L h w S) {f : Nat} (hf : f < n) (ht : f ≠ tk) : h (w + 2 + 10) f = S (276 + 12 * f + 7) := ((R.fr f hf).2.2.2.2.2.2.2.2 ht).2
theorem Rel.i0 (R : Rel bg rl tb m y sn Bd n N tk nw ol L h w S) : S 0 = nI N := R.is.1
theorem Rel.i1 (R : Rel bg rl tb m y sn Bd n N tk nw ol L h w S) : S 1 = nI n := R.is.2.1
theorem Rel.n200 (R : Rel bg rl tb m y sn Bd n N tk nw ol L h w S) : n ≤ 200 := R.is.2.2.1
theorem Rel.i10 (R : Rel bg rl tb m y sn Bd n N tk nw ol L h w S) : S 10 = nI m := R.is.2.2.2.1
theorem Rel.m1 (R : Rel bg rl tb m y sn Bd n N tk nw ol L h w S) : 1 ≤ m := R.is.2.2.2.2.1
theorem Rel.m4 (R : Rel bg rl tb m y sn Bd n N tk nw ol L h w S) : m ≤ 4 := R.is.2.2.2.2.2.1
theorem Rel.i11 (R : Rel bg rl tb m y sn Bd n N tk nw ol L h w S) : S 11 = nI y := R.is.2.2.2.2.2.2.1
theorem Rel.y1 (R : Rel bg rl tb m y sn Bd n N tk nw ol L h w S) : 1 ≤ y := R.is.2.2.2.2.2.2.2.1
theorem Rel.y4 (R : Rel bg rl tb m y sn Bd n N tk nw ol L h w S) : y ≤ 4 := R.is.2.2.2.2.2.2.2.2.1
theorem Rel.i5 (R : Rel bg rl tb m y sn Bd n N tk nw ol L h w S) : rg (S 5) 10 999 := R.is.2.2.2.2.2.2.2.2.2.1
theorem Rel.i6 (R : Rel bg rl tb m y sn Bd n N tk nw ol L h w S) : rg (S 6) 50 3000 := R.is.2.2.2.2.2.2.2.2.2.2.1
theorem Rel.i9 (R : Rel bg rl tb m y sn Bd n N tk nw ol L h w S) : rg (S 9) 0 1500 := R.is.2.2.2.2.2.2.2.2.2.2.2.1
theorem Rel.isn (R : Rel bg rl tb m y sn Bd n N tk nw ol L h w S) : S 3477 = nI sn := R.is.2.2.2.2.2.2.2.2.2.2.2.2.1
theorem Rel.sn4 (R : Rel bg rl tb m y sn Bd n N tk nw ol L h w S) : sn ≤ 4 := R.is.2.2.2.2.2.2.2.2.2.2.2.2.2
theorem Rel.N_le (R : Rel bg rl tb m y sn Bd n N tk nw ol L h w S) : N ≤ Bd + 300000 := by
  have h1 := R.ep.2.2.2.2.2.2.2.2.1
  have h2 : (pl S 1 L).length ≤ L.length := List.length_filter_le _ _
  have h3 := nd_len n L R.el.2.2.2.2.1 (fun x hx => ((R.el.2.2.2.2.2.1 x).mp hx).1)
  have h4 := R.n200
  omega
theorem Rel.my (R : Rel bg rl tb m y sn Bd n N tk nw ol L h w S) : m * y ≤ 16 := by
  have h1 := R.m4
  have h2 := R.y4
  exact Nat.le_trans (Nat.mul_le_mul h1 h2) (by decide)
theorem Rel.N5 (R : Rel bg rl tb m y sn Bd n N tk nw ol L h w S) : N ≤ 5300000 := by
  have h1 := R.N_le
  have h2 := R.ep.2.2.2.2.2.2.2.2.2
  omega
end Racc
/-! what a part rests on -/
theorem kSC.cong {h h' : Hp} {w w' : Nat} {S S' : Nat → Int32} (H : kSC h w S) (a : ∀ j, 6 ≤ j → j ≤ 8 → h' w' j = h w j) (b : h' (w' + 2) 13 = h (w + 2) 13) (c : ∀ j, 1 ≤ j → j ≤ 7 → j ≠ 5 → h' (w' + 1) j = h (w + 1) j) (s : ∀ k, k ≤ 11 ∨ k = 3477 → k ≠ 3 → k ≠ 4 → k ≠ 7 → S' k = S k) : kSC h' w' S' := by
  obtain ⟨e1, e2, e3, e4, e5, e6, e7, e8, e9, e10⟩ := H
  refine ⟨?_, ?_, ?_, ?_, ?_, ?_, ?_, ?_, ?_, ?_⟩
  · rw [a 7 (by omega) (by omega), s 0 (by omega) (by omega) (by omega) (by omega), e1]
  · rw [b, s 1 (by omega) (by omega) (by omega) (by omega), e2]
  · rw [a 8 (by omega) (by omega), s 2 (by omega) (by omega) (by omega) (by omega), e3]
  · rw [c 1 (by omega) (by omega) (by omega), s 5 (by omega) (by omega) (by omega) (by omega), e4]
  · rw [c 2 (by omega) (by omega) (by omega), s 6 (by omega) (by omega) (by omega) (by omega), e5]
  · rw [c 6 (by omega) (by omega) (by omega), s 8 (by omega) (by omega) (by omega) (by omega), e6]
  · rw [c 7 (by omega) (by omega) (by omega), s 9 (by omega) (by omega) (by omega) (by omega), e7]
  · rw [c 3 (by omega) (by omega) (by omega), s 10 (by omega) (by omega) (by omega) (by omega), e8]
  · rw [c 4 (by omega) (by omega) (by omega), s 11 (by omega) (by omega) (by omega) (by omega), e9]
  · rw [a 6 (by omega) (by omega), s 3477 (by omega) (by omega) (by omega) (by omega), e10]
theorem kBK.cong {h h' : Hp} {w w' : Nat} {S S' : Nat → Int32} (H : kBK h w S) (a : ∀ b j, b < 16 → j = 0 ∨ (4 ≤ j ∧ j ≤ 12) → h' (w' + 16 + 1 + b) j = h (w + 16 + 1 + b) j) (s : ∀ b c, b < 16 → c ≤ 8 ∨ c = 12 → S' (68 + 13 * b + c) = S (68 + 13 * b + c)) : kBK h' w' S' := by
  intro b hb
  obtain ⟨e1, e2, e3, e4, e5, e6, e7, e8, e9, e10⟩ := H b hb
  refine ⟨?_, ?_, ?_, ?_, ?_, ?_, ?_, ?_, ?_, ?_⟩
  · rw [a b 0 hb (by omega), s b 0 hb (by omega), e1]
  · rw [a b 5 hb (by omega), s b 1 hb (by omega), e2]
  · rw [a b 6 hb (by omega), s b 2 hb (by omega), e3]
  · rw [a b 7 hb (by omega), s b 3 hb (by omega), e4]
  · rw [a b 8 hb (by omega), s b 4 hb (by omega), e5]
  · rw [a b 12 hb (by omega), s b 5 hb (by omega), e6]
  · rw [a b 9 hb (by omega), s b 6 hb (by omega), e7]
  · rw [a b 10 hb (by omega), s b 7 hb (by omega), e8]
  · rw [a b 11 hb (by omega), s b 8 hb (by omega), e9]
  · rw [a b 4 hb (by omega), s b 12 hb (by omega), e10]
theorem kFR.cong {n tk : Nat} {h h' : Hp} {w w' : Nat} {S S' : Nat → Int32} (H : kFR n tk h w S) (a : ∀ j f, 1 ≤ j → j ≤ 10 → f < n → h' (w' + 2 + j) f = h (w + 2 + j) f) (s : ∀ f c, f < n → c ≤ 7 ∨ c = 9 ∨ c = 10 → S' (276 + 12 * f + c) = S (276 + 12 * f + c)) : kFR n tk h' w' S' := by
  intro f hf
  obtain ⟨e1, e2, e3, e4, e5, e6, e7, e8, e9⟩ := H f hf
  refine ⟨?_, ?_, ?_, ?_, ?_, ?_, ?_, ?_, fun ht => ⟨?_, ?_⟩⟩
  · rw [a 1 f (by omega) (by omega) hf, s f 0 hf (by omega), e1]
  · rw [a 2 f (by omega) (by omega) hf, s f 1 hf (by omega), e2]
  · rw [a 3 f (by omega) (by omega) hf, s f 2 hf (by omega), e3]
  · rw [a 4 f (by omega) (by omega) hf, s f 3 hf (by omega), e4]
  · rw [a 5 f (by omega) (by omega) hf, s f 4 hf (by omega), e5]
  · rw [a 8 f (by omega) (by omega) hf, s f 5 hf (by omega), e6]
  · rw [a 7 f (by omega) (by omega) hf, s f 9 hf (by omega), e7]
  · rw [a 6 f (by omega) (by omega) hf, s f 10 hf (by omega), e8]
  · rw [a 9 f (by omega) (by omega) hf, s f 6 hf (by omega), (e9 ht).1]
  · rw [a 10 f (by omega) (by omega) hf, s f 7 hf (by omega), (e9 ht).2]
theorem kSN.cong {tb : Nat → Int32} {sn : Nat} {h h' : Hp} {w w' : Nat} {S S' : Nat → Int32} (H : kSN tb sn h w S) (a : ∀ k j, k < 4 → j < 9 → h' (w' + 35 + 1 + k) j = h (w + 35 + 1 + k) j) (s : ∀ k, 3478 ≤ k → k < 3514 → S' k = S k) (hs : sn ≤ 4) : kSN tb sn h' w' S' := by
  refine ⟨fun k hk c hc h5 => ?_, fun k hk => ?_⟩
  · rw [a k c (by omega) hc, s _ (by omega) (by omega), H.1 k hk c hc h5]
  · rw [a k 5 (by omega) (by omega), s _ (by omega) (by omega), H.2 k hk]
theorem kIS.cong {m y sn n N : Nat} {S S' : Nat → Int32} (H : kIS m y sn n N S) (s : ∀ k, k ≤ 11 ∨ k = 3477 → k ≠ 2 → k ≠ 3 → k ≠ 4 → k ≠ 7 → k ≠ 8 → S' k = S k) : kIS m y sn n N S' := by
  unfold kIS
  rw [s 0 (by omega) (by omega) (by omega) (by omega) (by omega) (by omega), s 1 (by omega) (by omega) (by omega) (by omega) (by omega) (by omega), s 10 (by omega) (by omega) (by omega) (by omega) (by omega) (by omega), s 11 (by omega) (by omega) (by omega) (by omega) (by omega) (by omega), s 5 (by omega) (by omega) (by omega) (by omega) (by omega) (by omega), s 6 (by omega) (by omega) (by omega) (by omega) (by omega) (by omega), s 9 (by omega) (by omega) (by omega) (by omega) (by omega) (by omega), s 3477 (by omega) (by omega) (by omega) (by omega) (by omega) (by omega)]
  exact H
theorem kBR.cong {S S' : Nat → Int32} (H : kBR S) (s : ∀ b c, b < 16 → c = 1 ∨ c = 3 ∨ c = 4 ∨ c = 5 ∨ c = 8 → S' (68 + 13 * b + c) = S (68 + 13 * b + c)) : kBR S' := by
  intro b hb
  rw [s b 1 hb (by omega), s b 3 hb (by omega), s b 4 hb (by omega), s b 5 hb (by omega), s b 8 hb (by omega)]
  exact H b hb
theorem kFI.cong {m y n N : Nat} {S S' : Nat → Int32} (H : kFI m y n N S) (s : ∀ f c, f < 200 → c ≤ 7 ∨ c = 9 ∨ c = 10 → S' (276 + 12 * f + c) = S (276 + 12 * f + c)) (hn : n ≤ 200) : kFI m y n N S' := by
  refine ⟨fun f hf => ?_, fun f h1 h2 => ?_⟩
  · have h2 : f < 200 := by omega
    rw [s f 0 h2 (by omega), s f 1 h2 (by omega), s f 2 h2 (by omega), s f 3 h2 (by omega), s f 4 h2 (by omega), s f 5 h2 (by omega), s f 6 h2 (by omega), s f 7 h2 (by omega), s f 9 h2 (by omega), s f 10 h2 (by omega)]
    exact H.1 f hf
  · rw [s f 5 h2 (by omega), s f 6 h2 (by omega)]
    exact H.2 f h1 h2
theorem kSI.cong {sn : Nat} {S S' : Nat → Int32} (H : kSI sn S) (s : ∀ k c, k < 4 → c < 5 → S' (3478 + 9 * k + c) = S (3478 + 9 * k + c)) (hs : sn ≤ 4) : kSI sn S' := by
  intro k hk
  have h2 : k < 4 := by omega
  rw [s k 0 h2 (by omega), s k 1 h2 (by omega), s k 2 h2 (by omega), s k 3 h2 (by omega), s k 4 h2 (by omega)]
  exact H k hk
theorem kLI.cong {m y : Nat} {nw ol : List Nat} {S S' : Nat → Int32} (H : kLI m y nw ol S) (s : ∀ k, 12 ≤ k → k < 50 → k < 14 ∨ 18 ≤ k → S' k = S k) (s2 : ∀ b, b < 16 → S' (68 + 13 * b + 2) = S (68 + 13 * b + 2)) (hm : m * y ≤ 16) : kLI m y nw ol S' := by
  obtain ⟨e1, e2, e3, e4, e5, e6, e7⟩ := H
  have hl : (nw ++ ol).length ≤ 16 := Nat.le_trans (nd_len _ _ e5 e6) hm
  rw [List.length_append] at hl
  refine ⟨?_, ?_, e3.cong fun i hi => s _ (by omega) (by omega) (by omega), e4.cong fun i hi => s _ (by omega) (by omega) (by omega), e5, e6, fun b hb => ?_⟩
  · rw [s 12 (by omega) (by omega) (by omega), e1]
  · rw [s 13 (by omega) (by omega) (by omega), e2]
  · rw [s2 b hb, e7 b hb]
theorem kLC.cong {nw ol : List Nat} {h h' : Hp} {w w' : Nat} (H : kLC nw ol h w) (a : ∀ j, h' (w' + 33) j = h (w + 33) j) (c : ∀ j, h' (w' + 33 + 1) j = h (w + 33 + 1) j) : kLC nw ol h' w' := by
  obtain ⟨e1, e2, e3⟩ := H
  exact ⟨by rw [a, e1], by rw [a, e2], e3.cong fun i hi => c _⟩
theorem bsum_cong {S S' : Nat → Int32} {b n : Nat} (s : ∀ f c, f < n → c = 1 ∨ c = 4 ∨ c = 6 → S' (276 + 12 * f + c) = S (276 + 12 * f + c)) : bsum S' b n = bsum S b n :=
  sm_cong fun f hf => by
    show (if sb S' b f then _ else 0) = (if sb S b f then _ else 0)
    rw [sb_cong (s f 4 hf (by omega)) (s f 6 hf (by omega)), s f 1 hf (by omega)]
theorem kCB.cong {n : Nat} {h h' : Hp} {w w' : Nat} {S S' : Nat → Int32} (H : kCB n h w S) (a : ∀ b j, b < 16 → j = 1 ∨ j = 2 ∨ j = 3 → h' (w' + 16 + 1 + b) j = h (w + 16 + 1 + b) j) (s : ∀ f c, f < n → c = 1 ∨ c = 4 ∨ c = 6 → S' (276 + 12 * f + c) = S (276 + 12 * f + c)) (s2 : ∀ b, b < 16 → S' (68 + 13 * b + 12) = S (68 + 13 * b + 12)) : kCB n h' w' S' := by
  intro b hb
  obtain ⟨e1, e2, e3, e4⟩ := H b hb
  have hp : ∀ g, g < n → sb S' b g = sb S b g := fun g hg => sb_cong (s g 4 hg (by omega)) (s g 6 hg (by omega))
  refine ⟨?_, ?_, ?_, ?_⟩
  · rw [a b 1 hb (by omega)]
    exact e1.cong hp
  · rw [a b 2 hb (by omega)]
    exact e2.cong hp
  · rw [a b 3 hb (by omega), e3, fa_cnt_cong hp]
  · rw [s2 b hb, e4, bsum_cong fun f c hf hc => s f c hf (by omega)]
theorem kLT.cong {tb : Nat → Int32} {h h' : Hp} {w w' : Nat} (H : kLT tb h w) (a : h' (w' + 1) 0 = h (w + 1) 0) (b : h' w' 12 = h w 12) : kLT tb h' w' := by
  unfold kLT
  rw [a, b]
  exact H
theorem kPX.cong {tb : Nat → Int32} {n : Nat} {L : List Nat} {S S' : Nat → Int32} (H : kPX tb L S) (hL : ∀ f ∈ L, f < n) (s : ∀ f, f < n → f ∈ L → S' (276 + 12 * f + 6) = S (276 + 12 * f + 6)) : kPX tb L S' := by
  obtain ⟨P, E, e1, e2, e3, e4⟩ := H
  refine ⟨P, E, e1, e2, e3, ?_⟩
  rw [e4]
  congr 2
  refine List.filter_congr fun a ha => ?_
  have hm : a ∈ L := by rw [e1]; exact List.mem_append_left _ ha
  rw [s a (hL a hm) hm]
theorem kPX.snoc {tb : Nat → Int32} {n : Nat} {L : List Nat} {S S' : Nat → Int32} {x : Nat} (H : kPX tb L S) (hL : ∀ f ∈ L, f < n) (s : ∀ f, f < n → f ∈ L → S' (276 + 12 * f + 6) = S (276 + 12 * f + 6)) : kPX tb (L ++ [x]) S' := by
  obtain ⟨P, E, e1, e2, e3, e4⟩ := H.cong hL s
  exact ⟨P, E ++ [x], by rw [e1, List.append_assoc], e2, e3, e4⟩
theorem kBG.cong {bg : Bool} {n : Nat} {h h' : Hp} {w w' : Nat} {S S' : Nat → Int32} (H : kBG bg n h w S) (a : ∀ b, b < 16 → h' (w' + 16 + 1 + b) 13 = h (w + 16 + 1 + b) 13) (s : ∀ f c, f < n → c = 4 ∨ c = 8 → S' (276 + 12 * f + c) = S (276 + 12 * f + c)) (s2 : ∀ b, b < 16 → S' (68 + 13 * b + 9) = S (68 + 13 * b + 9)) : kBG bg n h' w' S' := by
  intro hg b hb
  obtain ⟨e0, ⟨z, e5, e6, e7⟩, e8⟩ := H hg b hb
  refine ⟨?_, ⟨z, ?_, e6, fun f hf hi => ?_⟩, fun f hf hi => ?_⟩
  · rw [s2 b hb]
    exact e0
  · rw [a b hb, e5]
  · rw [s f 4 hf (by omega)] at hi
    rw [s f 8 hf (by omega), s2 b hb]
    exact e7 f hf hi
  · rw [s f 4 hf (by omega)] at hi
    rw [s f 8 hf (by omega), s2 b hb]
    exact e8 f hf hi
theorem kCF.cong {n : Nat} {h h' : Hp} {w w' : Nat} {S S' : Nat → Int32} (H : kCF n h w S) (a : ∀ f, f < n → h' (w' + 2 + 11) f = h (w + 2 + 11) f) (a2 : h' w' 9 = h w 9) (s : ∀ f c, f < n → c = 4 ∨ c = 6 → S' (276 + 12 * f + c) = S (276 + 12 * f + c)) (s2 : S' 2 = S 2) (s3 : ∀ b, b < 16 → S' (68 + 13 * b + 12) = S (68 + 13 * b + 12)) : kCF n h' w' S' := by
  obtain ⟨e1, e2, e3⟩ := H
  refine ⟨fun b f hb hf hs => ?_, ?_, ?_⟩
  · have hp : ∀ g, g < n → sb S' b g = sb S b g := fun g hg => sb_cong (s g 4 hg (by omega)) (s g 6 hg (by omega))
    rw [hp f hf] at hs
    rw [a f hf]
    exact (e1 b f hb hf hs).cong hp
  · rw [s2, e2, fa_cnt_cong fun g hg => show sd S g = sd S' g by unfold sd; rw [s g 6 hg (by omega)]]
  · rw [a2, e3]
    exact isum_cong fun b hb => (s3 b hb).symm
theorem lr_sub {tk : Nat} {L : List Nat} {f : Nat} (h : f ∈ lr tk L) : f ∈ L ∨ (f = tk ∧ tk < 200) := by
  unfold lr at h
  split at h
  · rename_i h2
    rcases List.mem_append.mp h with h3 | h3
    · exact Or.inl h3
    · exact Or.inr ⟨List.mem_singleton.mp h3, h2⟩
  · exact Or.inl h
theorem lr_len (tk : Nat) (L : List Nat) : (lr tk L).length ≤ L.length + 1 := by
  unfold lr
  split
  · rw [List.length_append]
    exact Nat.le_refl _
  · omega
theorem kEL.lr200 {n N tk : Nat} {L : List Nat} {h : Hp} {w : Nat} {S : Nat → Int32} (H : kEL n N tk L h w S) (hn : n ≤ 200) : (lr tk L).length ≤ n := by
  obtain ⟨e1, e2, e3, e4, e5, e6, e7, e8⟩ := H
  refine nd_len n _ ?_ (fun x hx => ?_)
  · unfold lr
    split
    · refine List.nodup_append.mpr ⟨e5, (by simp), fun a ha b hb => ?_⟩
      rw [List.mem_singleton] at hb
      subst hb
      exact ((e6 a).mp ha).2.1
    · exact e5
  · rcases lr_sub hx with h1 | ⟨h1, h2⟩
    · exact ((e6 x).mp h1).1
    · rw [h1]
      exact (e7 h2).1
theorem kEL.cong {n N tk : Nat} {L : List Nat} {h h' : Hp} {w w' : Nat} {S S' : Nat → Int32} (H : kEL n N tk L h w S) (hn : n ≤ 200) (a : h' (w' + 2) 14 = h (w + 2) 14) (a2 : ∀ i, i < 200 → h' (w' + 2 + 12) i = h (w + 2 + 12) i) (s : ∀ k, 3514 ≤ k → k < 3715 → S' k = S k) (s2 : ∀ f c, f < n → c = 6 ∨ c = 7 → S' (276 + 12 * f + c) = S (276 + 12 * f + c)) : kEL n N tk L h' w' S' := by
  have h9 := H.lr200 hn
  obtain ⟨e1, e2, e3, e4, e5, e6, e7, e8⟩ := H
  have h8 := nd_len n L e5 (fun x hx => ((e6 x).mp hx).1)
  refine ⟨?_, e2.cong fun i hi => a2 _ (by omega), ?_, e4.cong fun i hi => s _ (by omega) (by omega), e5, fun f => ?_, fun ht => ?_, ?_⟩
  · rw [a, e1]
  · rw [s _ (by omega) (by omega), e3]
  · rw [e6 f]
    constructor
    · rintro ⟨x1, x2, x3⟩
      exact ⟨x1, x2, by rw [s2 f 6 x1 (by omega)]; exact x3⟩
    · rintro ⟨x1, x2, x3⟩
      exact ⟨x1, x2, by rw [s2 f 6 x1 (by omega)] at x3; exact x3⟩
  · have h7 := e7 ht
    rw [s2 tk 6 h7.1 (by omega), s2 tk 7 h7.1 (by omega)]
    exact h7
  · refine e8.imp_of_mem fun {a b} ha hb hab => ?_
    unfold wn
    rw [s2 a 7 ((e6 a).mp ha).1 (by omega), s2 b 7 ((e6 b).mp hb).1 (by omega)]
    exact hab
theorem kEP.cong {Bd n N tk : Nat} {L : List Nat} {S S' : Nat → Int32} (H : kEP Bd N tk L S) (hL : ∀ f ∈ lr tk L, f < n) (hl : (lr tk L).length ≤ 200) (s : ∀ k, (14 ≤ k ∧ k < 18) ∨ (2676 ≤ k ∧ k < 3476) → S' k = S k) (s2 : ∀ f c, f < n → c = 5 ∨ c = 6 → S' (276 + 12 * f + c) = S (276 + 12 * f + c)) : kEP Bd N tk L S' := by
  obtain ⟨e1, e2, e3, e4, e5, e6, e7, e8, e9, e10⟩ := H
  have hs : ∀ f, f ∈ L → f ∈ lr tk L := fun f hf => by
    unfold lr
    split
    · exact List.mem_append_left _ hf
    · exact hf
  have hl2 : L.length ≤ (lr tk L).length := by
    unfold lr
    split
    · rw [List.length_append]
      omega
    · omega
  have hp : ∀ c, pl S' c L = pl S c L := fun c => List.filter_congr fun f hf => by rw [s2 f 6 (hL f (hs f hf)) (by omega)]
  have hm : ml S' (lr tk L) = ml S (lr tk L) := List.filter_congr fun f hf => by rw [s2 f 5 (hL f hf) (by omega)]
  have p1 : ∀ c, (pl S c L).length ≤ L.length := fun c => List.length_filter_le _ _
  have p2 : (ml S (lr tk L)).length ≤ (lr tk L).length := List.length_filter_le _ _
  have q1 := p1 1
  have q2 := p1 2
  have q3 := p1 3
  unfold kEP
  rw [hp, hp, hp, hm, s 14 (by omega), s 15 (by omega), s 16 (by omega), s 17 (by omega)]
  exact ⟨e1, e2.cong fun i hi => s _ (by omega), e3, e4.cong fun i hi => s _ (by omega), e5, e6.cong fun i hi => s _ (by omega), e7, e8.cong fun i hi => s _ (by omega), e9, e10⟩
theorem kEH.cong {sn n : Nat} {L : List Nat} {h h' : Hp} {w w' : Nat} {S S' : Nat → Int32} (H : kEH sn n L h w S) (hL : ∀ f ∈ L, f < n) (hs : sn ≤ 4) (a : ∀ k, k < 4 → h' (w' + 35 + 1 + k) 9 = h (w + 35 + 1 + k) 9) (s : ∀ f c, f < n → c = 10 ∨ c = 11 → S' (276 + 12 * f + c) = S (276 + 12 * f + c)) : kEH sn n L h' w' S' := by
  obtain ⟨e1, e2⟩ := H
  refine ⟨fun k hk => ?_, fun f hf hn => ?_⟩
  · obtain ⟨z, h1, h2, h3⟩ := e1 k hk
    refine ⟨z, h1, ?_, fun i f hi ho => ?_⟩
    · rw [a k (by omega), h2]
    · have hf := hL f (List.mem_of_getElem? hi)
      rw [s f 10 hf (by omega)] at ho
      rw [s f 11 hf (by omega)]
      exact h3 i f hi ho
  · rw [s f 11 hf (by omega)]
    exact e2 f hf hn
theorem kWI.cong {rl : Bool} {h h' : Hp} {w w' : Nat} {S S' : Nat → Int32} (H : kWI rl h w S) (a : ∀ j i, j ≤ 3 → i < 6 → h' (w' + 40 + j) i = h (w + 40 + j) i) (s : ∀ k, k = 3 ∨ (50 ≤ k ∧ k < 68) → S' k = S k) : kWI rl h' w' S' := by
  obtain ⟨k, e1, e2, e3, e4⟩ := H
  have a0 : h' (w' + 40) 3 = h (w + 40) 3 := a 0 3 (by omega) (by omega)
  refine ⟨k, e1, ?_, fun hr => ?_, fun hr => ?_⟩
  · rw [s 3 (by omega), e2]
  · obtain ⟨h1, h2⟩ := e3 hr
    refine ⟨by rw [a0, h1], fun i hi => ?_⟩
    obtain ⟨x0, x1, x2, x3⟩ := h2 i hi
    rw [a 1 i (by omega) (by omega), a 2 i (by omega) (by omega), a 3 i (by omega) (by omega), s _ (by omega), s _ (by omega), s _ (by omega)]
    exact ⟨x0, x1, x2, x3⟩
  · rw [a0, e4 hr]
theorem kTA.cong {tb : Nat → Int32} {h h' : Hp} {w w' : Nat} {S S' : Nat → Int32} (H : kTA tb h w S) (a : ∀ j, j < 5 → h' (w' + 2 + 13) j = h (w + 2 + 13) j) (s : ∀ k, 14 ≤ k → k < 18 → S' k = S k) : kTA tb h' w' S' := by
  unfold kTA
  rw [a 1 (by omega), a 2 (by omega), a 3 (by omega), a 4 (by omega), s 14 (by omega) (by omega), s 15 (by omega) (by omega), s 16 (by omega) (by omega), s 17 (by omega) (by omega)]
  exact H
theorem kPK.cong {rl : Bool} {tb : Nat → Int32} {h h' : Hp} {w w' : Nat} {S S' : Nat → Int32} (H : kPK rl tb h w S) (a : h' w' 10 = h w 10) (s : S' 3476 = S 3476) : kPK rl tb h' w' S' := by
  unfold kPK
  rw [a, s]
  exact H
