/-! The class's window narrows: by singles, and to the end. -/
/-- the words of the single slots before k, and those that come twice -/
def onN (o : Nat → Nat) : Nat → Nat
  | 0 => 0
  | k + 1 => bif sg1 o k then onN o k ||| o k else onN o k
def twN (o : Nat → Nat) : Nat → Nat
  | 0 => 0
  | k + 1 => bif sg1 o k then twN o k ||| (onN o k &&& o k) else twN o k
theorem onN_tb {o : Nat → Nat} {w : Nat} : ∀ {n : Nat}, (onN o n).testBit w = anyN (fun j => sg1 o j && (o j).testBit w) n
  | 0 => by simp [onN, anyN]
  | n + 1 => by
    show (bif sg1 o n then onN o n ||| o n else onN o n).testBit w = (anyN _ n || _)
    dsimp only
    cases h : sg1 o n with
    | true => rw [cond_true, Nat.testBit_or, onN_tb, Bool.true_and]
    | false => rw [cond_false, onN_tb, Bool.false_and, Bool.or_false]
theorem twN_tb {o : Nat → Nat} {w : Nat} : ∀ {n : Nat}, (twN o n).testBit w = anyN (fun j => sg1 o j && (o j).testBit w && anyN (fun i => sg1 o i && (o i).testBit w) j) n
  | 0 => by simp [twN, anyN]
  | n + 1 => by
    show (bif sg1 o n then twN o n ||| (onN o n &&& o n) else twN o n).testBit w = (anyN _ n || _)
    dsimp only
    cases h : sg1 o n with
    | true =>
      rw [cond_true, Nat.testBit_or, Nat.testBit_and, twN_tb, onN_tb]
      rw [Bool.true_and, Bool.and_comm (anyN _ n)]
    | false => rw [cond_false, twN_tb, Bool.false_and, Bool.false_and, Bool.or_false]
theorem onN_lt {o : Nat → Nat} : ∀ {n : Nat}, (∀ k, k < n → o k < 1073741824) → onN o n < 1073741824 ∧ twN o n < 1073741824
  | 0, _ => by show 0 < 1073741824 ∧ 0 < 1073741824; omega
  | n + 1, h => by
    have h1 := onN_lt (o := o) (n := n) (fun k hk => h k (by omega))
    have h2 := h n (by omega)
    have h3 : onN o n ||| o n < 1073741824 := Nat.or_lt_two_pow (n := 30) h1.1 h2
    have h4 : (onN o n &&& o n) < 1073741824 := Nat.lt_of_le_of_lt Nat.and_le_left h1.1
    have h5 : twN o n ||| (onN o n &&& o n) < 1073741824 := Nat.or_lt_two_pow (n := 30) h1.2 h4
    constructor
    · show (bif sg1 o n then onN o n ||| o n else onN o n) < _
      cases sg1 o n
      · exact h1.1
      · exact h3
    · show (bif sg1 o n then twN o n ||| (onN o n &&& o n) else twN o n) < _
      cases sg1 o n
      · exact h1.2
      · exact h5
theorem sg_eq {o : Nat → Nat} {n k : Nat} (hk : k < n) (ho : ∀ k, k < n → o k < 1073741824) : nDiff (o k) (bif sg1 o k then twN o n else onN o n) = sgR n o k := by
  have h0 := ho k hk
  refine eqb (Nat.lt_of_le_of_lt Nat.and_le_left h0) mkM_30 (fun w hw => ?_)
  rw [nDiff_tb _ _ _ (by omega)]
  unfold sgR
  rw [mkM_tb, decide_eq_true hw, Bool.true_and]
  cases hb : (o k).testBit w with
  | false => rfl
  | true =>
    rw [Bool.true_and, Bool.true_and]
    refine congrArg not ?_
    cases hs : sg1 o k with
    | true =>
      rw [cond_true, twN_tb, Bool.eq_iff_iff, anyN_iff, anyN_iff]
      constructor
      · rintro ⟨j, hj, h⟩
        simp only [Bool.and_eq_true, anyN_iff] at h
        obtain ⟨⟨a1, a2⟩, i, hi, a3, a4⟩ := h
        by_cases hjk : j = k
        · exact ⟨i, by omega, by simp only [Bool.and_eq_true]; exact ⟨decide_eq_true (by omega), a3, a4⟩⟩
        · exact ⟨j, hj, by simp only [Bool.and_eq_true]; exact ⟨decide_eq_true hjk, a1, a2⟩⟩
      · rintro ⟨j, hj, h⟩
        simp only [Bool.and_eq_true, decide_eq_true_eq] at h
        obtain ⟨a1, a2, a3⟩ := h
        rcases Nat.lt_or_gt_of_ne a1 with h | h
        · exact ⟨k, hk, by simp only [Bool.and_eq_true, anyN_iff]; exact ⟨⟨hs, hb⟩, j, h, a2, a3⟩⟩
        · exact ⟨j, hj, by simp only [Bool.and_eq_true, anyN_iff]; exact ⟨⟨a2, a3⟩, k, h, hs, hb⟩⟩
    | false =>
      rw [cond_false, onN_tb, Bool.eq_iff_iff, anyN_iff, anyN_iff]
      constructor
      · rintro ⟨j, hj, h⟩
        refine ⟨j, hj, ?_⟩
        have hjk : j ≠ k := fun e => by
          subst e
          rw [hs] at h
          cases h
        rw [decide_eq_true hjk, Bool.true_and]
        exact h
      · rintro ⟨j, hj, h⟩
        simp only [Bool.and_eq_true] at h
        exact ⟨j, hj, by simp only [Bool.and_eq_true]; exact h.2⟩
