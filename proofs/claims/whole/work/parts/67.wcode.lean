/-! Words as numbers. -/
def dN : Nat → Nat → Nat
  | 0, _ => 0
  | d + 1, q => if q = 0 then 0 else dN d (q / 32) + 1
def vN : Nat → Nat → Bool
  | 0, _ => true
  | d + 1, q => decide (q = 0) || (decide (1 ≤ q % 32 ∧ q % 32 ≤ 26) && vN d (q / 32))
theorem dN_st : ∀ {d q : Nat}, q < 32 ^ d → dN (d + 1) q = dN d q ∧ vN (d + 1) q = vN d q
  | 0, q, h => by
    rw [Nat.pow_zero] at h
    obtain rfl : q = 0 := by omega
    exact ⟨rfl, rfl⟩
  | d + 1, q, h => by
    have h2 : q / 32 < 32 ^ d := by rw [Nat.pow_succ] at h; exact Nat.div_lt_of_lt_mul (by omega)
    obtain ⟨h3, h4⟩ := dN_st h2
    constructor
    · show (if q = 0 then 0 else dN (d + 1) (q / 32) + 1) = (if q = 0 then 0 else dN d (q / 32) + 1)
      rw [h3]
    · show (decide (q = 0) || (decide (1 ≤ q % 32 ∧ q % 32 ≤ 26) && vN (d + 1) (q / 32))) = (decide (q = 0) || (decide (1 ≤ q % 32 ∧ q % 32 ≤ 26) && vN d (q / 32)))
      rw [h4]
theorem dN_step {d q' : Nat} (h : q' < 32 ^ (d + 1)) : dN (d + 1) q' = (if q' = 0 then 0 else dN (d + 1) (q' / 32) + 1) ∧ vN (d + 1) q' = (decide (q' = 0) || (decide (1 ≤ q' % 32 ∧ q' % 32 ≤ 26) && vN (d + 1) (q' / 32))) := by
  have h2 : q' / 32 < 32 ^ d := by rw [Nat.pow_succ] at h; exact Nat.div_lt_of_lt_mul (by omega)
  obtain ⟨h3, h4⟩ := dN_st h2
  rw [h3, h4]
  exact ⟨rfl, rfl⟩
theorem vN_div {d q : Nat} (h : q < 32 ^ (d + 1)) (hv : vN (d + 1) q = true) : vN (d + 1) (q / 32) = true := by
  rw [(dN_step h).2] at hv
  rcases Bool.or_eq_true_iff.mp hv with h1 | h1
  · have := of_decide_eq_true h1
    subst this
    rfl
  · exact (Bool.and_eq_true_iff.mp h1).2
theorem vN_divp {d q : Nat} (h : q < 32 ^ (d + 1)) (hv : vN (d + 1) q = true) : ∀ j, vN (d + 1) (q / 32 ^ j) = true
  | 0 => by rw [Nat.pow_zero, Nat.div_one]; exact hv
  | j + 1 => by
    rw [Nat.pow_succ, ← Nat.div_div_eq_div_mul]
    exact vN_div (Nat.lt_of_le_of_lt (Nat.div_le_self _ _) h) (vN_divp h hv j)
theorem dN_le : ∀ {d q : Nat}, dN d q ≤ d
  | 0, _ => Nat.le_refl _
  | d + 1, q => by
    show (if q = 0 then 0 else dN d (q / 32) + 1) ≤ d + 1
    split
    · omega
    · have := dN_le (d := d) (q := q / 32)
      omega
theorem dN_up : ∀ {d q : Nat}, q < 32 ^ d → q < 32 ^ dN d q
  | 0, q, h => h
  | d + 1, q, h => by
    have h2 : q / 32 < 32 ^ d := by rw [Nat.pow_succ] at h; exact Nat.div_lt_of_lt_mul (by omega)
    show q < 32 ^ (if q = 0 then 0 else dN d (q / 32) + 1)
    by_cases hq : q = 0
    · rw [if_pos hq, hq]; decide
    · rw [if_neg hq, Nat.pow_succ]
      have h3 := dN_up h2
      have h4 := Nat.div_add_mod q 32
      have h5 := Nat.mod_lt q (show 0 < 32 by decide)
      generalize 32 ^ dN d (q / 32) = X at h3
      omega
/-- every digit is a letter -/
theorem vN_dig : ∀ {d q : Nat}, q < 32 ^ d → vN d q = true → ∀ j, j < dN d q → 1 ≤ q / 32 ^ j % 32 ∧ q / 32 ^ j % 32 ≤ 26
  | 0, q, h, hv, j, hj => absurd hj (Nat.not_lt_zero j)
  | d + 1, q, h, hv, j, hj => by
    have h2 : q / 32 < 32 ^ d := by rw [Nat.pow_succ] at h; exact Nat.div_lt_of_lt_mul (by omega)
    have hv2 : (decide (q = 0) || (decide (1 ≤ q % 32 ∧ q % 32 ≤ 26) && vN d (q / 32))) = true := hv
    have hj2 : j < (if q = 0 then 0 else dN d (q / 32) + 1) := hj
    by_cases hq : q = 0
    · rw [if_pos hq] at hj2; omega
    · rw [if_neg hq] at hj2
      rw [decide_eq_false hq, Bool.false_or] at hv2
      have hv3 := Bool.and_eq_true_iff.mp hv2
      cases j with
      | zero => rw [Nat.pow_zero, Nat.div_one]; exact of_decide_eq_true hv3.1
      | succ j =>
        rw [Nat.pow_succ, Nat.mul_comm, ← Nat.div_div_eq_div_mul]
        exact vN_dig h2 hv3.2 j (by omega)
/-- how many letters the number tells, 0 if it is no word -/
def loN (cd : Nat) : Nat := bif vN 7 cd then (if 2 ≤ dN 7 cd ∧ dN 7 cd ≤ 6 then dN 7 cd else 0) else 0
/-- the number of a word of L letters -/
def cdOk (cd L : Nat) : Prop := 2 ≤ L ∧ L ≤ 6 ∧ (cd < 1073741824 ∧ cd < 32 ^ L) ∧ ∀ i, i < L → 1 ≤ cd / 32 ^ (L - 1 - i) % 32 ∧ cd / 32 ^ (L - 1 - i) % 32 ≤ 26
theorem loN_ok {cd : Nat} (h : cd < 2147483648) (h0 : loN cd ≠ 0) : cdOk cd (loN cd) := by
  have h35 : cd < 32 ^ 7 := Nat.lt_of_lt_of_le h (by decide)
  have hv : vN 7 cd = true := by
    cases hb : vN 7 cd with
    | true => rfl
    | false => unfold loN at h0; rw [hb] at h0; exact absurd rfl h0
  have hd : 2 ≤ dN 7 cd ∧ dN 7 cd ≤ 6 := by
    by_cases hc : 2 ≤ dN 7 cd ∧ dN 7 cd ≤ 6
    · exact hc
    · unfold loN at h0; rw [hv, cond_true, if_neg hc] at h0; exact absurd rfl h0
  have he : loN cd = dN 7 cd := by unfold loN; rw [hv, cond_true, if_pos hd]
  rw [he]
  have hu := dN_up h35
  refine ⟨hd.1, hd.2, ⟨Nat.lt_of_lt_of_le hu (show 32 ^ dN 7 cd ≤ 32 ^ 6 from Nat.pow_le_pow_right (by decide) hd.2), hu⟩, fun i hi => vN_dig h35 hv _ (by omega)⟩
set_option maxRecDepth 100000
theorem n_lettersOf {x : Int} {cd : Nat} {w : eW} (hx : x = (cd : Int)) (h : cd < 2147483648) : ev m_M_lettersOf 0 [some (eI x)] [] w = some (.inl (some (eI ((loN cd : Nat) : Int))), w) := by
  have hl : ∀ d : Nat, ∀ (q : Nat) (s v : Int), q < 32 ^ d → q < 2147483648 → v = (q : Int) → (0 ≤ s ∧ s ≤ 7) → s + (d : Int) = 7 → ev m_M_lettersOf 4 [some (eI x), some (eI s), some (eI v)] [] w = some (.inl (some (eI ((bif vN d q then (if 2 ≤ s + (dN d q : Int) ∧ s + (dN d q : Int) ≤ 6 then s + (dN d q : Int) else 0) else 0 : Int)))), w) := by
    intro d
    induction d with
    | zero =>
      intro q s v hq hq2 hv hs hsd
      rw [Nat.pow_zero] at hq
      obtain rfl : q = 0 := by omega
      have e1 : vN 0 0 = true := rfl
      have e2 : dN 0 0 = 0 := rfl
      rw [e1, e2, cond_true]
      refine xLtF (N := 2) (x := 0) (y := v) (A := ev m_M_lettersOf 8 [some (eI x), some (eI s), some (eI v)] [] (w.1, w.2)) (B := ev m_M_lettersOf 33 [some (eI x), some (eI s), some (eI v)] [] (w.1, w.2)) rfl (show wr 0 = 0 by decide) (wr_id (by omega) (by omega)) (by omega) ?_
      refine xCallI (N := 4) (v := bI (decide (2 ≤ s ∧ s ≤ 6))) (M2 := m_M_lettersOf) (pc2 := 37) (ls2 := [some (eI x), some (eI s), some (eI v)]) (st2 := []) (y := m_M_isBetween) (as := [some (eI s), some (eI 2), some (eI 6)]) (w2 := (w.1, w.2)) rfl (n_between (by omega) (by omega) (by omega)) (fun r37 hr37 => ?_)
      have hb := bI_1 hr37
      refine xEq (N := 1) (x := r37) (y := 0) (A := ev m_M_lettersOf 47 [some (eI x), some (eI s), some (eI v)] [] (w.1, w.2)) (B := ev m_M_lettersOf 43 [some (eI x), some (eI s), some (eI v)] [] (w.1, w.2)) rfl (wr_id (by omega) (by omega)) (show wr 0 = 0 by decide) (fun h40 => ?_) (fun h40 => ?_)
      · refine xSeg (N := 2) (r := some (.inl (some (eI 0)), (w.1, w.2))) rfl ?_
        first | exact lf (by rw [if_pos (by have h9 := of_decide_eq_true (hb.2.1.mp (by omega)); omega)]; omega) | exact lf (by rw [if_neg (by have h9 := of_decide_eq_false (hb.2.2.mp (by omega)); omega)])
      · refine xSeg (N := 3) (r := some (.inl (some (eI s)), (w.1, w.2))) rfl ?_
        first | exact lf (by rw [if_pos (by have h9 := of_decide_eq_true (hb.2.1.mp (by omega)); omega)]; omega) | exact lf (by rw [if_neg (by have h9 := of_decide_eq_false (hb.2.2.mp (by omega)); omega)])
    | succ d ih =>
      intro q s v hq hq2 hv hs hsd
      have hq3 : q / 32 < 32 ^ d := by rw [Nat.pow_succ] at hq; exact Nat.div_lt_of_lt_mul (by omega)
      have e1 : vN (d + 1) q = (decide (q = 0) || (decide (1 ≤ q % 32 ∧ q % 32 ≤ 26) && vN d (q / 32))) := rfl
      have e2 : dN (d + 1) q = if q = 0 then 0 else dN d (q / 32) + 1 := rfl
      by_cases h0 : q = 0
      · rw [e1, e2, decide_eq_true h0, Bool.true_or, cond_true, if_pos h0]
        refine xLtF (N := 2) (x := 0) (y := v) (A := ev m_M_lettersOf 8 [some (eI x), some (eI s), some (eI v)] [] (w.1, w.2)) (B := ev m_M_lettersOf 33 [some (eI x), some (eI s), some (eI v)] [] (w.1, w.2)) rfl (show wr 0 = 0 by decide) (wr_id (by omega) (by omega)) (by omega) ?_
        refine xCallI (N := 4) (v := bI (decide (2 ≤ s ∧ s ≤ 6))) (M2 := m_M_lettersOf) (pc2 := 37) (ls2 := [some (eI x), some (eI s), some (eI v)]) (st2 := []) (y := m_M_isBetween) (as := [some (eI s), some (eI 2), some (eI 6)]) (w2 := (w.1, w.2)) rfl (n_between (by omega) (by omega) (by omega)) (fun r37 hr37 => ?_)
        have hb := bI_1 hr37
        refine xEq (N := 1) (x := r37) (y := 0) (A := ev m_M_lettersOf 47 [some (eI x), some (eI s), some (eI v)] [] (w.1, w.2)) (B := ev m_M_lettersOf 43 [some (eI x), some (eI s), some (eI v)] [] (w.1, w.2)) rfl (wr_id (by omega) (by omega)) (show wr 0 = 0 by decide) (fun h40 => ?_) (fun h40 => ?_)
        · refine xSeg (N := 2) (r := some (.inl (some (eI 0)), (w.1, w.2))) rfl ?_
          first | exact lf (by rw [if_pos (by have h9 := of_decide_eq_true (hb.2.1.mp (by omega)); omega)]; omega) | exact lf (by rw [if_neg (by have h9 := of_decide_eq_false (hb.2.2.mp (by omega)); omega)])
        · refine xSeg (N := 3) (r := some (.inl (some (eI s)), (w.1, w.2))) rfl ?_
          first | exact lf (by rw [if_pos (by have h9 := of_decide_eq_true (hb.2.1.mp (by omega)); omega)]; omega) | exact lf (by rw [if_neg (by have h9 := of_decide_eq_false (hb.2.2.mp (by omega)); omega)])
      · have hand : bAnd v 31 = ((q % 32 : Nat) : Int) := by rw [hv, show (31 : Int) = ((31 : Nat) : Int) from rfl, bAnd_n (by omega), show (31 : Nat) = 2 ^ 5 - 1 from rfl, Nat.and_two_pow_sub_one_eq_mod]
        have hshr : bShr v 5 = ((q / 32 : Nat) : Int) := by rw [hv, show (5 : Int) = ((5 : Nat) : Int) from rfl, bShr_n (by omega) (by decide), Nat.shiftRight_eq_div_pow]
        rw [e1, e2, decide_eq_false h0, Bool.false_or, if_neg h0]
        have h9 := ih (q / 32) (s + 1) (((q / 32 : Nat)) : Int) hq3 (by omega) rfl (by omega) (by omega)
        refine xLtT (N := 2) (x := 0) (y := v) (A := ev m_M_lettersOf 8 [some (eI x), some (eI s), some (eI v)] [] (w.1, w.2)) (B := ev m_M_lettersOf 33 [some (eI x), some (eI s), some (eI v)] [] (w.1, w.2)) rfl (show wr 0 = 0 by decide) (wr_id (by omega) (by omega)) (by omega) ?_
        refine xTop (N := 3) (pc2 := 12) (ls2 := [some (eI x), some (eI s), some (eI v)]) (a := bAnd v 31) (b := ((q % 32 : Nat) : Int)) (st2 := []) (w2 := (w.1, w.2)) rfl hand (fun u hu => ?_)
        refine xCallI (N := 3) (v := bI (decide (1 ≤ u ∧ u ≤ 26))) (M2 := m_M_lettersOf) (pc2 := 15) (ls2 := [some (eI x), some (eI s), some (eI v)]) (st2 := []) (y := m_M_isBetween) (as := [some (eI u), some (eI 1), some (eI 26)]) (w2 := (w.1, w.2)) rfl (n_between (by omega) (by omega) (by omega)) (fun r15 hr15 => ?_)
        have hb := bI_1 hr15
        refine xEq (N := 1) (x := r15) (y := 0) (A := ev m_M_lettersOf 21 [some (eI x), some (eI s), some (eI v)] [] (w.1, w.2)) (B := ev m_M_lettersOf 23 [some (eI x), some (eI s), some (eI v)] [] (w.1, w.2)) rfl (wr_id (by omega) (by omega)) (show wr 0 = 0 by decide) (fun h18 => ?_) (fun h18 => ?_)
        · refine xSeg (N := 2) (r := some (.inl (some (eI 0)), (w.1, w.2))) rfl ?_
          exact lf (by rw [show decide (1 ≤ q % 32 ∧ q % 32 ≤ 26) = false from decide_eq_false (by have h8 := of_decide_eq_false (hb.2.2.mp (by omega)); omega)]; rfl)
        · refine xTop (N := 3) (pc2 := 26) (ls2 := [some (eI x), some (eI s), some (eI v)]) (a := bShr v 5) (b := ((q / 32 : Nat) : Int)) (st2 := []) (w2 := (w.1, w.2)) rfl hshr (fun v2 hv2 => ?_)
          refine xSeg (N := 3) (r := ev m_M_lettersOf 4 [some (eI x), some (eI (s + 1)), some (eI v2)] [] (w.1, w.2)) rfl ?_
          rw [hv2, h9, show decide (1 ≤ q % 32 ∧ q % 32 ≤ 26) = true from decide_eq_true (by have h8 := of_decide_eq_true (hb.2.1.mp (by omega)); omega), Bool.true_and, show s + 1 + (dN d (q / 32) : Int) = s + ((dN d (q / 32) + 1 : Nat) : Int) by omega]
  have h0 := hl 7 cd 0 x (Nat.lt_of_lt_of_le h (by decide)) h hx (by omega) rfl
  have he : (bif vN 7 cd then (if 2 ≤ 0 + (dN 7 cd : Int) ∧ 0 + (dN 7 cd : Int) ≤ 6 then 0 + (dN 7 cd : Int) else 0) else 0 : Int) = ((loN cd : Nat) : Int) := by
    unfold loN
    cases vN 7 cd with
    | false => rfl
    | true =>
      rw [cond_true, cond_true]
      by_cases hc : 2 ≤ dN 7 cd ∧ dN 7 cd ≤ 6
      · rw [if_pos hc, if_pos (by omega)]; omega
      · rw [if_neg hc, if_neg (by omega)]; rfl
  rw [he] at h0
  refine xSeg (N := 4) (r := ev m_M_lettersOf 4 [some (eI x), some (eI 0), some (eI x)] [] (w.1, w.2)) rfl ?_
  exact h0
theorem n_lettersNeg {x : Int} {w : eW} (hx : x < 0) (h : -2147483648 ≤ x) : ev m_M_lettersOf 0 [some (eI x)] [] w = some (.inl (some (eI 0)), w) := by
  refine xLtF (N := 6) (x := 0) (y := x) (A := ev m_M_lettersOf 8 [some (eI x), some (eI 0), some (eI x)] [] (w.1, w.2)) (B := ev m_M_lettersOf 33 [some (eI x), some (eI 0), some (eI x)] [] (w.1, w.2)) rfl (show wr 0 = 0 by decide) (wr_id (by omega) (by omega)) (by omega) ?_
  refine xCallI (N := 4) (v := bI (decide (2 ≤ 0 ∧ 0 ≤ 6))) (M2 := m_M_lettersOf) (pc2 := 37) (ls2 := [some (eI x), some (eI 0), some (eI x)]) (st2 := []) (y := m_M_isBetween) (as := [some (eI 0), some (eI 2), some (eI 6)]) (w2 := (w.1, w.2)) rfl (n_between (by omega) (by omega) (by omega)) (fun r37 hr37 => ?_)
  have hb := bI_1 hr37
  refine xEq (N := 1) (x := r37) (y := 0) (A := ev m_M_lettersOf 47 [some (eI x), some (eI 0), some (eI x)] [] (w.1, w.2)) (B := ev m_M_lettersOf 43 [some (eI x), some (eI 0), some (eI x)] [] (w.1, w.2)) rfl (wr_id (by omega) (by omega)) (show wr 0 = 0 by decide) (fun h40 => ?_) (fun h40 => ?_)
  · refine xSeg (N := 2) (r := some (.inl (some (eI 0)), (w.1, w.2))) rfl ?_
    rfl
  · refine xSeg (N := 3) (r := some (.inl (some (eI 0)), (w.1, w.2))) rfl ?_
    rfl
