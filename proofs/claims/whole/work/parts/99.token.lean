/-! a token -/
def ct (c : Nat → Int32) (p k s v : Int32) : Nat → Int32 := fun j => if j = 3 then p else if j = 4 then k else if j = 5 then s else if j = 6 then v else c j
def md (d : Nat → Int32) (p s k v : Int32) : Nat → Int32 := fun j => if j = 12 then p else if j = 13 then s else if j = 14 then k else if j = 15 then v else d j
theorem ct_3 (c : Nat → Int32) (p k s v : Int32) : ct c p k s v 3 = p := rfl
theorem ct_4 (c : Nat → Int32) (p k s v : Int32) : ct c p k s v 4 = k := rfl
theorem ct_5 (c : Nat → Int32) (p k s v : Int32) : ct c p k s v 5 = s := rfl
theorem ct_6 (c : Nat → Int32) (p k s v : Int32) : ct c p k s v 6 = v := rfl
theorem ct_n (c : Nat → Int32) (p k s v : Int32) {j : Nat} (e : j < 3 ∨ 6 < j) : ct c p k s v j = c j := by
  unfold ct
  rw [if_neg (by omega), if_neg (by omega), if_neg (by omega), if_neg (by omega)]
theorem md_12 (c : Nat → Int32) (p k s v : Int32) : md c p k s v 12 = p := rfl
theorem md_13 (c : Nat → Int32) (p k s v : Int32) : md c p k s v 13 = k := rfl
theorem md_14 (c : Nat → Int32) (p k s v : Int32) : md c p k s v 14 = s := rfl
theorem md_15 (c : Nat → Int32) (p k s v : Int32) : md c p k s v 15 = v := rfl
theorem md_n (c : Nat → Int32) (p k s v : Int32) {j : Nat} (e : j < 12 ∨ 15 < j) : md c p k s v j = c j := by
  unfold md
  rw [if_neg (by omega), if_neg (by omega), if_neg (by omega), if_neg (by omega)]
theorem upd_ext {f g : Nat → Int32} {k : Nat} {x : Int32} (h1 : g k = x) (h2 : ∀ j, j ≠ k → g j = f j) : upd f k x = g := by
  funext j
  by_cases e : j = k
  · subst e
    rw [upd_s, h1]
  · rw [upd_n _ _ e, h2 j e]
theorem ct_u3 (c : Nat → Int32) (p k s v x : Int32) : upd (ct c p k s v) 3 x = ct c x k s v := upd_ext rfl fun j e => by
  unfold ct
  rw [if_neg e, if_neg e]
theorem ct_u4 (c : Nat → Int32) (p k s v x : Int32) : upd (ct c p k s v) 4 x = ct c p x s v := upd_ext rfl fun j e => by
  unfold ct
  rw [if_neg (c := j = 4) e, if_neg (c := j = 4) e]
theorem ct_u5 (c : Nat → Int32) (p k s v x : Int32) : upd (ct c p k s v) 5 x = ct c p k x v := upd_ext rfl fun j e => by
  unfold ct
  rw [if_neg (c := j = 5) e, if_neg (c := j = 5) e]
theorem ct_u6 (c : Nat → Int32) (p k s v x : Int32) : upd (ct c p k s v) 6 x = ct c p k s x := upd_ext rfl fun j e => by
  unfold ct
  rw [if_neg (c := j = 6) e, if_neg (c := j = 6) e]
theorem md_u12 (c : Nat → Int32) (p k s v x : Int32) : upd (md c p k s v) 12 x = md c x k s v := upd_ext rfl fun j e => by
  unfold md
  rw [if_neg e, if_neg e]
theorem md_u13 (c : Nat → Int32) (p k s v x : Int32) : upd (md c p k s v) 13 x = md c p x s v := upd_ext rfl fun j e => by
  unfold md
  rw [if_neg (c := j = 13) e, if_neg (c := j = 13) e]
theorem md_u14 (c : Nat → Int32) (p k s v x : Int32) : upd (md c p k s v) 14 x = md c p k x v := upd_ext rfl fun j e => by
  unfold md
  rw [if_neg (c := j = 14) e, if_neg (c := j = 14) e]
theorem md_u15 (c : Nat → Int32) (p k s v x : Int32) : upd (md c p k s v) 15 x = md c p k s x := upd_ext rfl fun j e => by
  unfold md
  rw [if_neg (c := j = 15) e, if_neg (c := j = 15) e]
theorem ct_eta (c : Nat → Int32) : ct c (c 3) (c 4) (c 5) (c 6) = c := by
  funext j
  unfold ct
  by_cases e3 : j = 3
  · rw [if_pos e3, e3]
  · rw [if_neg e3]
    by_cases e4 : j = 4
    · rw [if_pos e4, e4]
    · rw [if_neg e4]
      by_cases e5 : j = 5
      · rw [if_pos e5, e5]
      · rw [if_neg e5]
        by_cases e6 : j = 6
        · rw [if_pos e6, e6]
        · rw [if_neg e6]
theorem md_eta (c : Nat → Int32) : md c (c 12) (c 13) (c 14) (c 15) = c := by
  funext j
  unfold md
  by_cases e3 : j = 12
  · rw [if_pos e3, e3]
  · rw [if_neg e3]
    by_cases e4 : j = 13
    · rw [if_pos e4, e4]
    · rw [if_neg e4]
      by_cases e5 : j = 14
      · rw [if_pos e5, e5]
      · rw [if_neg e5]
        by_cases e6 : j = 15
        · rw [if_pos e6, e6]
        · rw [if_neg e6]
def tkr (k v k' v' : Int32) : Prop := (k = 0 ∧ k' = 3) ∨ (∃ i, i < 13 ∧ k = 1 ∧ v = nI i ∧ k' = 0 ∧ v' = nI (wip i)) ∨ (∃ a, a < 1000000 ∧ k = 2 ∧ v = nI (min a 100000) ∧ k' = 1 ∧ v' = nI a) ∨ (k = 3 ∧ k' = 2) ∨ (k = 4 ∧ k' = 4)
def dig (a : Nat) : Prop := 48 ≤ a ∧ a ≤ 57
def ltr (a : Nat) : Prop := 97 ≤ a ∧ a ≤ 122
theorem rgb {a lo hi : Nat} (g : Hp) (ha : a < 2 ^ 31) (hh : hi < 2 ^ 31) (hl : lo < 2 ^ 31) (F : Int32 → Option (Int32 × Hp)) (hF : F (nI a) = if nI a < nI lo then (some (0, g)) else (if nI hi < nI a then (some (0, g)) else (some (1, g)))) : ((lo ≤ a ∧ a ≤ hi) → F (nI a) = some (1, g)) ∧ (¬ (lo ≤ a ∧ a ≤ hi) → F (nI a) = some (0, g)) := by
  constructor
  · rintro ⟨u1, u2⟩
    rw [hF, if_neg (nI_nlt u1 ha), if_neg (nI_nlt u2 hh)]
  · intro u
    rw [hF]
    by_cases v : a < lo
    · rw [if_pos (nI_lt v hl)]
    · rw [if_pos (nI_lt (show hi < a by omega) ha)]
      split <;> rfl
theorem digC (g : Hp) {a : Nat} (ha : a ≤ 255) : (dig a → p_X3_isDigit g (nI a) = some (1, g)) ∧ (¬ dig a → p_X3_isDigit g (nI a) = some (0, g)) := rgb (lo := 48) (hi := 57) g (by omega) (by omega) (by omega) (p_X3_isDigit g) rfl
theorem digM (g : Hp) {a : Nat} (ha : a ≤ 255) : (dig a → p_X10_isDigit g (nI a) = some (1, g)) ∧ (¬ dig a → p_X10_isDigit g (nI a) = some (0, g)) := rgb (lo := 48) (hi := 57) g (by omega) (by omega) (by omega) (p_X10_isDigit g) rfl
theorem ltrC (g : Hp) {a : Nat} (ha : a ≤ 255) : (ltr a → p_X3_isLetter g (nI a) = some (1, g)) ∧ (¬ ltr a → p_X3_isLetter g (nI a) = some (0, g)) := rgb (lo := 97) (hi := 122) g (by omega) (by omega) (by omega) (p_X3_isLetter g) rfl
theorem ltrM (g : Hp) {a : Nat} (ha : a ≤ 255) : (ltr a → p_X10_isSmall g (nI a) = some (1, g)) ∧ (¬ ltr a → p_X10_isSmall g (nI a) = some (0, g)) := rgb (lo := 97) (hi := 122) g (by omega) (by omega) (by omega) (p_X10_isSmall g) rfl
theorem digM1 (g : Hp) : p_X10_isDigit g (-1) = some (0, g) := by
  unfold p_X10_isDigit
  rw [if_pos (by decide)]
theorem ltrM1 (g : Hp) : p_X10_isSmall g (-1) = some (0, g) := by
  unfold p_X10_isSmall
  rw [if_pos (by decide)]
def nvl (ch : Nat → Nat) (s : Nat) : Nat → Nat
  | 0 => 0
  | i + 1 => if nvl ch s i ≤ 99999 then 10 * nvl ch s i + (ch (s + i) - 48) else nvl ch s i
theorem nvl_lt {ch : Nat → Nat} {s : Nat} : ∀ (i : Nat), (∀ q, q < i → dig (ch (s + q))) → nvl ch s i < 1000000
  | 0, _ => by unfold nvl; omega
  | i + 1, e => by
    have ih := nvl_lt i (fun q hq => e q (by omega))
    have he : 48 ≤ ch (s + i) ∧ ch (s + i) ≤ 57 := e i (by omega)
    rw [nvl]
    split <;> omega
/-- how far p holds from s on -/
theorem run_ex (p : Nat → Prop) [DecidablePred p] (s n : Nat) : ∃ f, f ≤ n ∧ (∀ q, q < f → p (s + q)) ∧ (f < n → ¬ p (s + f)) := by
  refine ⟨fa_first (fun q => !decide (p (s + q))) n, fa_first_le _ _, fun q hq => ?_, fun u => ?_⟩
  · have := fa_first_no (fun q => !decide (p (s + q))) n q hq
    simpa using this
  · have := fa_first_yes (fun q => !decide (p (s + q))) n u
    simpa using this
section Tn
variable {h X : Hp} {c O Q d T I Z A : Nat → Int32} {ch : Nat → Nat} {len s : Nat}
theorem here_m (hT2 : ∀ j, j < len → X 111 j = nI (ch j) ∧ ch j ≤ 255) (hl9 : len ≤ 900) (d11 : d 11 = nI len) {p : Nat} (hp : p ≤ len) (a k v : Int32) : p_X10_here (mH X (md d (nI p) a k v) T I Z A) 110 = some (if p < len then nI (ch p) else -1, mH X (md d (nI p) a k v) T I Z A) := by
  unfold p_X10_here
  rw [mH_0, md_12, md_n _ _ _ _ _ (by omega), d11]
  by_cases u : p < len
  · rw [if_neg (nI_ge u (by omega)), if_pos (ib_n (by omega) (by omega)), nI_clamp (by omega), mH_1, (hT2 p u).1, if_pos u]
  · rw [if_pos (nI_le (by omega) (by omega)), if_neg u]
/-- digits, the class -/
theorem num_c (hT : ∀ j, j < len → h 2 j = nI (ch j) ∧ ch j ≤ 255) (hl9 : len ≤ 900) (c2 : c 2 = nI len) {nd : Nat} (hsn : s + nd ≤ len) (hd : ∀ q, q < nd → dig (ch (s + q))) (hnd : s + nd < len → ¬ dig (ch (s + nd))) (k v : Int32) : p_X3_scanNumber (cH h (ct c (nI s) k (nI s) v) O Q) (0 + 1) = some (cH h (ct c (nI (s + nd)) 2 (nI s) (nI (min (nvl ch s nd) 100000))) O Q) := by
  unfold p_X3_scanNumber
  rw [nv_eq, nv_eq, cH_w1, cH_w1, ct_u4, ct_u6]
  have := lp_for (b := b_X3_scanNumber_10 (0 + 1)) (fun i => cH h (ct c (nI (s + i)) 2 (nI s) (nI (min (nvl ch s i) 100000))) O Q) nd (cH h (ct c (nI (s + nd)) 2 (nI s) (nI (min (nvl ch s nd) 100000))) O Q) (fun K i hi => by
    have hdi := hd i hi
    have hch := (hT (s + i) (by omega)).2
    have hlt := nvl_lt (ch := ch) (s := s) i (fun q hq => hd q (by omega))
    obtain ⟨g, hg⟩ : ∃ g, g = cH h (ct c (nI (s + i)) 2 (nI s) (nI (min (nvl ch s i) 100000))) O Q := ⟨_, rfl⟩
    have g1 : g (0 + 1) = ct c (nI (s + i)) 2 (nI s) (nI (min (nvl ch s i) 100000)) := by rw [hg, cH_1]
    have g2 : g (0 + 1 + 1) (s + i) = nI (ch (s + i)) := by rw [hg, cH_2, (hT _ (by omega)).1]
    rw [← hg]
    unfold b_X3_scanNumber_10
    rw [g1, ct_n _ _ _ _ _ (by omega), c2, ct_3, if_neg (nI_ge (by omega) (by omega))]
    simp only [if_pos (show ib (nI (s + i)) 900 from ib_n (by omega) (by omega)), nI_clamp (show s + i < 2 ^ 31 by omega)]
    rw [g2, (digC g hch).1 hdi, Option.bind_some]
    dsimp +instances only
    rw [if_neg one_nz, g1, ct_3, ct_6]
    simp only [if_pos (show ib (nI (s + i)) 900 from ib_n (by omega) (by omega)), nI_clamp (show s + i < 2 ^ 31 by omega)]
    rw [g2]
    have e1 : nI (min (nvl ch s i) 100000) * 10 + nI (ch (s + i)) - 48 = nI (min (nvl ch s i) 100000 * 10 + ch (s + i) - 48) := by
      rw [show (10 : Int32) = nI 10 from rfl, nI_mul, nI_add]
      exact pk_sub (b := 48) (by have := hdi.1; omega)
    have e2 : (if (100000 : Int32) < nI (min (nvl ch s i) 100000 * 10 + ch (s + i) - 48) then (100000 : Int32) else nI (min (nvl ch s i) 100000 * 10 + ch (s + i) - 48)) = nI (min (nvl ch s (i + 1)) 100000) := by
      have d1 := hdi.1
      have d2 := hdi.2
      by_cases z : 100000 < min (nvl ch s i) 100000 * 10 + ch (s + i) - 48
      · rw [if_pos (show (100000 : Int32) < _ from nI_lt (a := 100000) z (by omega)), show min (nvl ch s (i + 1)) 100000 = 100000 by rw [nvl]; split <;> omega]
        rfl
      · rw [if_neg (show ¬ (100000 : Int32) < _ from nI_nlt (a := 100000) (by omega) (by omega)), show min (nvl ch s (i + 1)) 100000 = min (nvl ch s i) 100000 * 10 + ch (s + i) - 48 by rw [nvl]; split <;> omega]
    rw [e1, e2, nv_eq, nv_eq, hg, cH_w1, ct_u6, cH_1, ct_3, cH_w1, ct_u3, nI_1, Nat.add_assoc]) (fun K => by
    obtain ⟨g, hg⟩ : ∃ g, g = cH h (ct c (nI (s + nd)) 2 (nI s) (nI (min (nvl ch s nd) 100000))) O Q := ⟨_, rfl⟩
    have g1 : g (0 + 1) = ct c (nI (s + nd)) 2 (nI s) (nI (min (nvl ch s nd) 100000)) := by rw [hg, cH_1]
    rw [← hg]
    unfold b_X3_scanNumber_10
    rw [g1, ct_n _ _ _ _ _ (by omega), c2, ct_3]
    by_cases u : s + nd < len
    · have g2 : g (0 + 1 + 1) (s + nd) = nI (ch (s + nd)) := by rw [hg, cH_2, (hT _ u).1]
      rw [if_neg (nI_ge u (by omega))]
      simp only [if_pos (show ib (nI (s + nd)) 900 from ib_n (by omega) (by omega)), nI_clamp (show s + nd < 2 ^ 31 by omega)]
      rw [g2, (digC g (hT _ u).2).2 (hnd u), Option.bind_some]
      dsimp +instances only
      rw [if_pos rfl]
    · rw [if_pos (nI_le (by omega) (by omega))]) nd 0 FU (by omega) (FU_gt (by omega))
  exact this
/-- digits, the reference -/
theorem num_m (hT2 : ∀ j, j < len → X 111 j = nI (ch j) ∧ ch j ≤ 255) (hl9 : len ≤ 900) (d11 : d 11 = nI len) {nd : Nat} (hsn : s + nd ≤ len) (hd : ∀ q, q < nd → dig (ch (s + q))) (hnd : s + nd < len → ¬ dig (ch (s + nd))) (a k : Int32) : lp (b_X10_token_132 110) FU (mH X (md d (nI s) a k 0) T I Z A) = some (mH X (md d (nI (s + nd)) a k (nI (nvl ch s nd))) T I Z A) := by
  have := lp_for (b := b_X10_token_132 110) (fun i => mH X (md d (nI (s + i)) a k (nI (nvl ch s i))) T I Z A) nd (mH X (md d (nI (s + nd)) a k (nI (nvl ch s nd))) T I Z A) (fun K i hi => by
    have hdi := hd i hi
    have hch := (hT2 (s + i) (by omega)).2
    have hlt := nvl_lt (ch := ch) (s := s) i (fun q hq => hd q (by omega))
    have hh := here_m (T := T) (I := I) (Z := Z) (A := A) hT2 hl9 d11 (p := s + i) (by omega) a k (nI (nvl ch s i))
    rw [if_pos (by omega)] at hh
    unfold b_X10_token_132
    rw [hh, Option.bind_some]
    dsimp +instances only
    rw [(digM _ hch).1 hdi, Option.bind_some]
    dsimp +instances only
    rw [if_neg one_nz, mH_0, md_15]
    have d1 := hdi.1
    have d2 := hdi.2
    by_cases z : nvl ch s i ≤ 99999
    · rw [if_pos (show nI (nvl ch s i) ≤ 99999 from nI_le (b := 99999) z (by omega)), hh, Option.bind_some]
      dsimp +instances only
      have e1 : 10 * nI (nvl ch s i) + nI (ch (s + i)) - 48 = nI (nvl ch s (i + 1)) := by
        rw [show (10 : Int32) = nI 10 from rfl, nI_mul, nI_add, nvl, if_pos z, show 10 * nvl ch s i + (ch (s + i) - 48) = 10 * nvl ch s i + ch (s + i) - 48 by omega]
        exact pk_sub (b := 48) (by omega)
      rw [e1, nv_eq, nv_eq, mH_w0, md_u15, mH_0, md_12, mH_w0, md_u12, nI_1, Nat.add_assoc]
    · rw [if_neg (show ¬ nI (nvl ch s i) ≤ 99999 from nI_ge (a := 99999) (by omega) (by omega)), nv_eq, nv_eq, mH_w0, md_u15, mH_0, md_12, mH_w0, md_u12, nI_1, Nat.add_assoc, show nvl ch s (i + 1) = nvl ch s i by rw [nvl, if_neg z]]) (fun K => by
    have hh := here_m (T := T) (I := I) (Z := Z) (A := A) hT2 hl9 d11 (p := s + nd) hsn a k (nI (nvl ch s nd))
    unfold b_X10_token_132
    rw [hh, Option.bind_some]
    dsimp +instances only
    by_cases u : s + nd < len
    · rw [if_pos u, (digM _ (hT2 _ u).2).2 (hnd u), Option.bind_some]
      dsimp +instances only
      rw [if_pos rfl]
    · rw [if_neg u, digM1, Option.bind_some]
      dsimp +instances only
      rw [if_pos rfl]) nd 0 FU (by omega) (FU_gt (by omega))
  rw [Nat.add_zero, show nvl ch s 0 = 0 from rfl, nI_0] at this
  exact this
end Tn
