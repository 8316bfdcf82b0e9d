/-! What the rows of the class's window are in numbers, and its questions about grid and words. -/
abbrev eRow : Type := Nat → Nat
def bI (b : Bool) : Int := bif b then 1 else 0
theorem bT {b : Bool} (h : b = true) : (1 : Int) = bI b := by rw [h]; rfl
theorem bF {b : Bool} (h : b = false) : (0 : Int) = bI b := by rw [h]; rfl
theorem bI_1 {b : Bool} {x : Int} (h : x = bI b) : (0 ≤ x ∧ x ≤ 1) ∧ ((x = 1 ↔ b = true) ∧ (x = 0 ↔ b = false)) := by cases b <;> simp [bI] at h <;> subst h <;> decide
theorem lf {v v' : Int} {w : eW} (h : v = v') : (some (.inl (some (.inl v)), w) : eRes) = some (.inl (some (eI v')), w) := by rw [h]
theorem lfb {b b' : Bool} {w : eW} (h : b = b') : (some (.inl (some (.inl (bI b))), w) : eRes) = some (.inl (some (eI (bI b'))), w) := by rw [h]
/-- the first k from k on, d of them, with p; else -1 -/
def fnd (p : Nat → Bool) : Nat → Nat → Int
  | 0, _ => -1
  | d + 1, k => bif p k then (k : Int) else fnd p d (k + 1)
def anyN (p : Nat → Bool) : Nat → Bool
  | 0 => false
  | k + 1 => anyN p k || p k
def allN (p : Nat → Bool) : Nat → Bool
  | 0 => true
  | k + 1 => allN p k && p k
def orN (f : Nat → Nat) : Nat → Nat
  | 0 => 0
  | k + 1 => orN f k ||| f k
theorem anyN_iff {p : Nat → Bool} : ∀ {n : Nat}, anyN p n = true ↔ ∃ k, k < n ∧ p k = true
  | 0 => by simp [anyN]
  | n + 1 => by
    simp only [anyN, Bool.or_eq_true, anyN_iff (n := n)]
    constructor
    · rintro (⟨k, h1, h2⟩ | h)
      · exact ⟨k, by omega, h2⟩
      · exact ⟨n, by omega, h⟩
    · rintro ⟨k, h1, h2⟩
      by_cases hk : k = n
      · subst hk; exact Or.inr h2
      · exact Or.inl ⟨k, by omega, h2⟩
theorem allN_iff {p : Nat → Bool} : ∀ {n : Nat}, allN p n = true ↔ ∀ k, k < n → p k = true
  | 0 => by simp [allN]
  | n + 1 => by
    simp only [allN, Bool.and_eq_true, allN_iff (n := n)]
    constructor
    · rintro ⟨h1, h2⟩ k hk
      by_cases h : k = n
      · subst h; exact h2
      · exact h1 k (by omega)
    · intro h
      exact ⟨fun k hk => h k (by omega), h n (by omega)⟩
theorem anyN_F {p : Nat → Bool} {n : Nat} (h : ∀ k, k < n → p k = false) : anyN p n = false := by
  cases he : anyN p n with
  | false => rfl
  | true => obtain ⟨k, h1, h2⟩ := anyN_iff.mp he; rw [h k h1] at h2; cases h2
theorem allN_F {p : Nat → Bool} {n k : Nat} (hk : k < n) (h : p k = false) : allN p n = false := by
  cases he : allN p n with
  | false => rfl
  | true => have := allN_iff.mp he k hk; rw [h] at this; cases this
theorem fnd_T {p : Nat → Bool} {d k : Nat} (h : p k = true) : fnd p (d + 1) k = (k : Int) := by simp [fnd, h]
theorem fnd_F {p : Nat → Bool} {d k : Nat} (h : p k = false) : fnd p (d + 1) k = fnd p d (k + 1) := by simp [fnd, h]
theorem fnd_b {p : Nat → Bool} : ∀ {d k : Nat}, -1 ≤ fnd p d k ∧ fnd p d k < (k + d : Nat)
  | 0, k => by simp only [fnd]; omega
  | d + 1, k => by
    cases h : p k with
    | true => rw [fnd_T h]; omega
    | false => rw [fnd_F h]; have := fnd_b (p := p) (d := d) (k := k + 1); omega
theorem ct_T {p : Nat → Bool} {k : Nat} (h : p k = true) : fb_ct p (k + 1) = fb_ct p k + 1 := by rw [fb_ct_succ, if_pos h]
theorem ct_F {p : Nat → Bool} {k : Nat} (h : p k = false) : fb_ct p (k + 1) = fb_ct p k := by rw [fb_ct_succ, if_neg (by rw [h]; decide)]; omega
theorem bDiv_n {a b : Nat} (ha : a < 2147483648) (h0 : 0 < b) (hb : b < 2147483648) : bDiv (a : Int) (b : Int) = ((a / b : Nat) : Int) := by
  unfold bDiv
  rw [oI_n, oI_n, pk_div ha h0 hb, nI_toInt (Nat.lt_of_le_of_lt (Nat.div_le_self a b) ha)]
theorem bRem_n {a b : Nat} (ha : a < 2147483648) (h0 : 0 < b) (hb : b < 2147483648) : bRem (a : Int) (b : Int) = ((a % b : Nat) : Int) := by
  unfold bRem
  rw [oI_n, oI_n, pk_rem ha h0 hb, nI_toInt (Nat.lt_of_le_of_lt (Nat.mod_le a b) ha)]
theorem ntz_0 (w : eW) : ev m_J_numberOfTrailingZeros 8 [some (eI 0)] [] w = some (.inl (some (eI 0)), w) := xSeg (N := 60) (r := some (.inl (some (eI 0)), w)) rfl rfl
theorem ntz_1 (w : eW) : ev m_J_numberOfTrailingZeros 8 [some (eI 1)] [] w = some (.inl (some (eI 1)), w) := xSeg (N := 60) (r := some (.inl (some (eI 1)), w)) rfl rfl
theorem ntz_2 (w : eW) : ev m_J_numberOfTrailingZeros 8 [some (eI 3)] [] w = some (.inl (some (eI 2)), w) := xSeg (N := 60) (r := some (.inl (some (eI 2)), w)) rfl rfl
theorem ntz_3 (w : eW) : ev m_J_numberOfTrailingZeros 8 [some (eI 7)] [] w = some (.inl (some (eI 3)), w) := xSeg (N := 60) (r := some (.inl (some (eI 3)), w)) rfl rfl
theorem ntz_4 (w : eW) : ev m_J_numberOfTrailingZeros 8 [some (eI 15)] [] w = some (.inl (some (eI 4)), w) := xSeg (N := 60) (r := some (.inl (some (eI 4)), w)) rfl rfl
theorem ntz_5 (w : eW) : ev m_J_numberOfTrailingZeros 8 [some (eI 31)] [] w = some (.inl (some (eI 5)), w) := xSeg (N := 60) (r := some (.inl (some (eI 5)), w)) rfl rfl
theorem ntz_6 (w : eW) : ev m_J_numberOfTrailingZeros 8 [some (eI 63)] [] w = some (.inl (some (eI 6)), w) := xSeg (N := 60) (r := some (.inl (some (eI 6)), w)) rfl rfl
theorem ntz_7 (w : eW) : ev m_J_numberOfTrailingZeros 8 [some (eI 127)] [] w = some (.inl (some (eI 7)), w) := xSeg (N := 60) (r := some (.inl (some (eI 7)), w)) rfl rfl
theorem ntz_8 (w : eW) : ev m_J_numberOfTrailingZeros 8 [some (eI 255)] [] w = some (.inl (some (eI 8)), w) := xSeg (N := 60) (r := some (.inl (some (eI 8)), w)) rfl rfl
theorem ntz_9 (w : eW) : ev m_J_numberOfTrailingZeros 8 [some (eI 511)] [] w = some (.inl (some (eI 9)), w) := xSeg (N := 60) (r := some (.inl (some (eI 9)), w)) rfl rfl
theorem ntz_10 (w : eW) : ev m_J_numberOfTrailingZeros 8 [some (eI 1023)] [] w = some (.inl (some (eI 10)), w) := xSeg (N := 60) (r := some (.inl (some (eI 10)), w)) rfl rfl
theorem ntz_11 (w : eW) : ev m_J_numberOfTrailingZeros 8 [some (eI 2047)] [] w = some (.inl (some (eI 11)), w) := xSeg (N := 60) (r := some (.inl (some (eI 11)), w)) rfl rfl
theorem ntz_12 (w : eW) : ev m_J_numberOfTrailingZeros 8 [some (eI 4095)] [] w = some (.inl (some (eI 12)), w) := xSeg (N := 60) (r := some (.inl (some (eI 12)), w)) rfl rfl
theorem ntz_13 (w : eW) : ev m_J_numberOfTrailingZeros 8 [some (eI 8191)] [] w = some (.inl (some (eI 13)), w) := xSeg (N := 60) (r := some (.inl (some (eI 13)), w)) rfl rfl
theorem ntz_14 (w : eW) : ev m_J_numberOfTrailingZeros 8 [some (eI 16383)] [] w = some (.inl (some (eI 14)), w) := xSeg (N := 60) (r := some (.inl (some (eI 14)), w)) rfl rfl
theorem ntz_15 (w : eW) : ev m_J_numberOfTrailingZeros 8 [some (eI 32767)] [] w = some (.inl (some (eI 15)), w) := xSeg (N := 60) (r := some (.inl (some (eI 15)), w)) rfl rfl
theorem ntz_16 (w : eW) : ev m_J_numberOfTrailingZeros 8 [some (eI 65535)] [] w = some (.inl (some (eI 16)), w) := xSeg (N := 60) (r := some (.inl (some (eI 16)), w)) rfl rfl
theorem ntz_17 (w : eW) : ev m_J_numberOfTrailingZeros 8 [some (eI 131071)] [] w = some (.inl (some (eI 17)), w) := xSeg (N := 60) (r := some (.inl (some (eI 17)), w)) rfl rfl
theorem ntz_18 (w : eW) : ev m_J_numberOfTrailingZeros 8 [some (eI 262143)] [] w = some (.inl (some (eI 18)), w) := xSeg (N := 60) (r := some (.inl (some (eI 18)), w)) rfl rfl
theorem ntz_19 (w : eW) : ev m_J_numberOfTrailingZeros 8 [some (eI 524287)] [] w = some (.inl (some (eI 19)), w) := xSeg (N := 60) (r := some (.inl (some (eI 19)), w)) rfl rfl
theorem ntz_20 (w : eW) : ev m_J_numberOfTrailingZeros 8 [some (eI 1048575)] [] w = some (.inl (some (eI 20)), w) := xSeg (N := 60) (r := some (.inl (some (eI 20)), w)) rfl rfl
theorem ntz_21 (w : eW) : ev m_J_numberOfTrailingZeros 8 [some (eI 2097151)] [] w = some (.inl (some (eI 21)), w) := xSeg (N := 60) (r := some (.inl (some (eI 21)), w)) rfl rfl
theorem ntz_22 (w : eW) : ev m_J_numberOfTrailingZeros 8 [some (eI 4194303)] [] w = some (.inl (some (eI 22)), w) := xSeg (N := 60) (r := some (.inl (some (eI 22)), w)) rfl rfl
theorem ntz_23 (w : eW) : ev m_J_numberOfTrailingZeros 8 [some (eI 8388607)] [] w = some (.inl (some (eI 23)), w) := xSeg (N := 60) (r := some (.inl (some (eI 23)), w)) rfl rfl
theorem ntz_24 (w : eW) : ev m_J_numberOfTrailingZeros 8 [some (eI 16777215)] [] w = some (.inl (some (eI 24)), w) := xSeg (N := 60) (r := some (.inl (some (eI 24)), w)) rfl rfl
theorem ntz_25 (w : eW) : ev m_J_numberOfTrailingZeros 8 [some (eI 33554431)] [] w = some (.inl (some (eI 25)), w) := xSeg (N := 60) (r := some (.inl (some (eI 25)), w)) rfl rfl
theorem ntz_26 (w : eW) : ev m_J_numberOfTrailingZeros 8 [some (eI 67108863)] [] w = some (.inl (some (eI 26)), w) := xSeg (N := 60) (r := some (.inl (some (eI 26)), w)) rfl rfl
theorem ntz_27 (w : eW) : ev m_J_numberOfTrailingZeros 8 [some (eI 134217727)] [] w = some (.inl (some (eI 27)), w) := xSeg (N := 60) (r := some (.inl (some (eI 27)), w)) rfl rfl
theorem ntz_28 (w : eW) : ev m_J_numberOfTrailingZeros 8 [some (eI 268435455)] [] w = some (.inl (some (eI 28)), w) := xSeg (N := 60) (r := some (.inl (some (eI 28)), w)) rfl rfl
theorem ntz_29 (w : eW) : ev m_J_numberOfTrailingZeros 8 [some (eI 536870911)] [] w = some (.inl (some (eI 29)), w) := xSeg (N := 60) (r := some (.inl (some (eI 29)), w)) rfl rfl
theorem ntz_all (w : eW) : ∀ t : Nat, t < 30 → ev m_J_numberOfTrailingZeros 8 [some (eI ((2 ^ t - 1 : Nat) : Int))] [] w = some (.inl (some (eI (t : Int))), w)
  | 0, _ => ntz_0 w
  | 1, _ => ntz_1 w
  | 2, _ => ntz_2 w
  | 3, _ => ntz_3 w
  | 4, _ => ntz_4 w
  | 5, _ => ntz_5 w
  | 6, _ => ntz_6 w
  | 7, _ => ntz_7 w
  | 8, _ => ntz_8 w
  | 9, _ => ntz_9 w
  | 10, _ => ntz_10 w
  | 11, _ => ntz_11 w
  | 12, _ => ntz_12 w
  | 13, _ => ntz_13 w
  | 14, _ => ntz_14 w
  | 15, _ => ntz_15 w
  | 16, _ => ntz_16 w
  | 17, _ => ntz_17 w
  | 18, _ => ntz_18 w
  | 19, _ => ntz_19 w
  | 20, _ => ntz_20 w
  | 21, _ => ntz_21 w
  | 22, _ => ntz_22 w
  | 23, _ => ntz_23 w
  | 24, _ => ntz_24 w
  | 25, _ => ntz_25 w
  | 26, _ => ntz_26 w
  | 27, _ => ntz_27 w
  | 28, _ => ntz_28 w
  | 29, _ => ntz_29 w
  | n + 30, h => absurd h (by omega)
theorem bAnd_comm (a b : Int) : bAnd a b = bAnd b a := by unfold bAnd; rw [Int32.and_comm]
theorem low_n {m : Nat} (hm : m < 1073741824) {t : Nat} (h1 : m.testBit t = true) (h2 : ∀ i, i < t → m.testBit i = false) : nDiff (m - 1) m = 2 ^ t - 1 ∧ t < 30 ∧ ∀ i, (m &&& (m - 1)).testBit i = (m.testBit i && !decide (i = t)) := by
  have h0 : m ≠ 0 := fun e => by subst e; simp at h1
  obtain ⟨t', g1, g2, g3⟩ := low_bit h0
  have ht : t' = t := by
    rcases Nat.lt_trichotomy t' t with h | h | h
    · have := h2 t' h; rw [g1] at this; cases this
    · exact h
    · have := g2 t h; rw [h1] at this; cases this
  subst ht
  have h30 : t' < 30 := by
    rcases Nat.lt_or_ge t' 30 with h | h
    · exact h
    · have := Nat.testBit_lt_two_pow (x := m) (i := t') (Nat.lt_of_lt_of_le hm (show 1073741824 ≤ 2 ^ t' from Nat.pow_le_pow_right (n := 2) (i := 30) (by decide) h))
      rw [g1] at this; cases this
  refine ⟨?_, h30, fun i => ?_⟩
  · apply Nat.eq_of_testBit_eq
    intro i
    rw [nDiff_tb _ _ _ (by omega), g3 i, Nat.testBit_two_pow_sub_one]
    by_cases hi : i < t'
    · rw [if_pos hi, g2 i hi]; simp [hi]
    · rw [if_neg hi]
      by_cases he : i = t'
      · rw [if_pos he]; simp [hi]
      · rw [if_neg he]; simp [hi]
  · rw [Nat.testBit_and, g3 i]
    by_cases hi : i < t'
    · rw [if_pos hi, g2 i hi]; rfl
    · rw [if_neg hi]
      by_cases he : i = t'
      · rw [if_pos he]; simp [he]
      · rw [if_neg he]; simp [he]
theorem c_ntz {x : Int} {m t : Nat} {w : eW} (hx : x = (m : Int)) (hm : m < 1073741824) (h1 : m.testBit t = true) (h2 : ∀ i, i < t → m.testBit i = false) : ev m_J_numberOfTrailingZeros 0 [some (eI x)] [] w = some (.inl (some (eI (t : Int))), w) := by
  have h0 : m ≠ 0 := fun e => by subst e; simp at h1
  have hl := low_n hm h1 h2
  have he : bAnd (bXor x (-1)) (x - 1) = ((2 ^ t - 1 : Nat) : Int) := by
    rw [bAnd_comm, hx, show ((m : Nat) : Int) - 1 = ((m - 1 : Nat) : Int) by omega, bNot_n (by omega) _ (by omega), hl.1]
  refine xSeg (N := 8) (r := ev m_J_numberOfTrailingZeros 8 [some (eI (bAnd (bXor x (-1)) (x - 1)))] [] w) rfl ?_
  rw [he]
  exact ntz_all w t hl.2.1
