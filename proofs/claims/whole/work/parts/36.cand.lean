/-! The class's questions about candidates. -/
theorem b_tb {x y : Int} {m w : Nat} (hx : x = (m : Int)) (hm : m < 1073741824) (hy : y = (w : Int)) (hw : w < 32) : bAnd (bShr x y) 1 = bI (m.testBit w) := by
  rw [hx, hy, bShr_n (by omega) hw, show (1 : Int) = ((1 : Nat) : Int) from rfl, bAnd_n (Nat.lt_of_le_of_lt (Nat.shiftRight_le m w) (by omega))]
  cases h : m.testBit w with
  | true => rw [(shr1_tb m w).mpr h]; rfl
  | false =>
    have h2 : ¬ ((m >>> w) &&& 1 = 1) := fun e => by rw [(shr1_tb m w).mp e] at h; cases h
    rw [Nat.and_one_is_mod] at h2 ⊢
    rw [show (m >>> w) % 2 = 0 by omega]
    rfl
theorem orN_tail {F : Nat → Nat} {a : Nat} : ∀ {b : Nat}, a ≤ b → (∀ i, a ≤ i → i < b → F i = 0) → orN F b = orN F a
  | 0, h, _ => by rw [show a = 0 by omega]
  | b + 1, h, h2 => by
    by_cases hab : a = b + 1
    · rw [hab]
    · show orN F b ||| F b = _
      rw [h2 b (by omega) (by omega), Nat.or_zero]
      exact orN_tail (by omega) (fun i h3 h4 => h2 i h3 (by omega))
theorem orN_lt {F : Nat → Nat} {q : Nat} : ∀ {n : Nat}, (∀ i, i < n → F i < 2 ^ q) → orN F n < 2 ^ q
  | 0, _ => Nat.two_pow_pos q
  | n + 1, h => Nat.or_lt_two_pow (orN_lt (fun i hi => h i (by omega))) (h n (by omega))
theorem orN_cong {F G : Nat → Nat} : ∀ {n : Nat}, (∀ i, i < n → F i = G i) → orN F n = orN G n
  | 0, _ => rfl
  | n + 1, h => by show orN F n ||| F n = orN G n ||| G n; rw [orN_cong (fun i hi => h i (by omega)), h n (by omega)]
theorem orN_tb {F : Nat → Nat} {i : Nat} : ∀ {n : Nat}, (orN F n).testBit i = anyN (fun k => (F k).testBit i) n
  | 0 => by simp [orN, anyN]
  | n + 1 => by show (orN F n ||| F n).testBit i = (anyN _ n || _); rw [Nat.testBit_or, orN_tb]
theorem pc_le (n m : Nat) : pc n m ≤ n := by rw [pc_ct]; exact fb_ct_le _ _
theorem pc_low {m t : Nat} (hm : m < 1073741824) (h1 : m.testBit t = true) (h2 : ∀ i, i < t → m.testBit i = false) : pc 30 (m &&& (m - 1)) + 1 = pc 30 m := by
  obtain ⟨_, h3, h4⟩ := low_n hm h1 h2
  rw [pc_ct, pc_ct]
  have h5 := fb_ct_upd (fun i => m.testBit i) false h3
  simp only [h1, if_true] at h5
  rw [fb_ct_cong (q := fun k => if k = t then false else m.testBit k) (fun k _ => by
    rw [h4 k]
    by_cases hk : k = t
    · rw [if_pos hk]; simp [hk]
    · rw [if_neg hk]; simp [hk])]
  simpa using h5
theorem pc_0 {m : Nat} (hm : m < 1073741824) (h : pc 30 m = 0) : ∀ i, m.testBit i = false := by
  intro i
  by_cases hi : i < 30
  · rw [pc_ct] at h
    exact fb_ct_zero.mp h i hi
  · exact Nat.testBit_lt_two_pow (Nat.lt_of_lt_of_le hm (show 1073741824 ≤ 2 ^ i from Nat.pow_le_pow_right (n := 2) (i := 30) (by decide) (by omega)))
theorem pc_zero {m : Nat} (hm : m < 1073741824) : pc 30 m = 0 ↔ m = 0 := by
  constructor
  · intro h
    apply Nat.eq_of_testBit_eq
    intro i
    rw [pc_0 hm h i, Nat.zero_testBit]
  · intro h; subst h; decide
theorem low_get {r : Nat} (hr : r < 1073741824) (h : pc 30 r ≠ 0) : ∃ t, r.testBit t = true ∧ (∀ i, i < t → r.testBit i = false) := by
  obtain ⟨t, h1, h2, _⟩ := low_bit (m := r) (fun e => h ((pc_zero hr).mpr e))
  exact ⟨t, h1, h2⟩
/-- one more bit of the mask is done -/
theorem bits_step {m0 r j t d : Nat} {F : Nat → Nat} (hr : r < 1073741824) (hj : ∀ i, r.testBit i = (decide (j ≤ i) && m0.testBit i)) (hF : ∀ i, m0.testBit i = false → F i = 0) (hd : pc 30 r = d + 1) (h1 : r.testBit t = true) (h2 : ∀ i, i < t → r.testBit i = false) : t < 30 ∧ j ≤ t ∧ m0.testBit t = true ∧ orN F (t + 1) = (orN F j ||| F t) ∧ (∀ i, (r &&& (r - 1)).testBit i = (decide (t + 1 ≤ i) && m0.testBit i)) ∧ pc 30 (r &&& (r - 1)) = d ∧ (r &&& (r - 1)) < 1073741824 := by
  obtain ⟨_, h3, h4⟩ := low_n hr h1 h2
  have h5 := hj t
  rw [h1] at h5
  have h6 := Bool.and_eq_true_iff.mp h5.symm
  have h7 : j ≤ t := of_decide_eq_true h6.1
  refine ⟨h3, h7, h6.2, ?_, fun i => ?_, ?_, Nat.lt_of_le_of_lt Nat.and_le_left hr⟩
  · show orN F t ||| F t = _
    rw [orN_tail h7 (fun i h8 h9 => hF i (by
      have := hj i
      rw [h2 i h9] at this
      simpa [h8] using this.symm))]
  · rw [h4 i, hj i]
    by_cases hit : t + 1 ≤ i
    · simp [hit, show j ≤ i by omega, show i ≠ t by omega]
    · by_cases hie : i = t
      · subst hie; rw [show decide (i + 1 ≤ i) = false from decide_eq_false (by omega)]; simp
      · have := hj i
        rw [h2 i (by omega)] at this
        rw [← this]
        simp [hit]
  · have := pc_low hr h1 h2
    omega
theorem bits_end {m0 r j : Nat} {F : Nat → Nat} (hm : m0 < 1073741824) (hr : r < 1073741824) (hj30 : j ≤ 30) (hj : ∀ i, r.testBit i = (decide (j ≤ i) && m0.testBit i)) (hF : ∀ i, m0.testBit i = false → F i = 0) (hd : pc 30 r = 0) : orN F 30 = orN F j := by
  refine orN_tail hj30 (fun i h1 h2 => hF i ?_)
  have := hj i
  rw [pc_0 hr hd i] at this
  simpa [h1] using this.symm
theorem i_dec {r : Nat} {x : Int} (hx : x = (r : Int)) (hr : r < 1073741824) (h : pc 30 r ≠ 0) : bAnd x (x - 1) = ((r &&& (r - 1) : Nat) : Int) := by
  have h0 : r ≠ 0 := fun e => h ((pc_zero hr).mpr e)
  rw [hx, show ((r : Nat) : Int) - 1 = ((r - 1 : Nat) : Int) by omega, bAnd_n (by omega)]
theorem i_or {x y : Int} {a t : Nat} (hx : x = (a : Int)) (ha : a < 1073741824) (hy : y = (t : Int)) (ht : t < 30) : bOr x (bShl 1 y) = ((a ||| 2 ^ t : Nat) : Int) := by
  rw [hx, hy, bShl1_n t (by omega), bOr_n (by omega) (Nat.lt_of_lt_of_le (Nat.pow_lt_pow_right (by decide) (show t < 31 by omega)) (by decide))]
set_option maxRecDepth 100000
theorem c_hasCandidate {S : wS} {c : Nat × Nat} {x y : Int} {k w m : Nat} (hx : x = (k : Int)) (hy : y = (w : Int)) (hk : k < 24) (g : S 15 k = (m : Int)) (hm : m < 1073741824) (hw : w < 32) : ev m_W_hasCandidate 0 [some (eR 0), some (eI x), some (eI y)] [] (wC S, c) = some (.inl (some (eI (bI (m.testBit w)))), (wC S, c)) := by
  refine xLd (N := 4) (n := 24) (i := x) (F := fun zq => ev m_W_hasCandidate 6 [some (eR 0), some (eI x), some (eI y)] [eI (S 15 zq)] (wC S, c)) (k := k) rfl (wr_nat (by omega) (by omega)) (by omega) ?_
  refine xTop (N := 4) (pc2 := 10) (ls2 := [some (eR 0), some (eI x), some (eI y)]) (a := bAnd (bShr (S 15 k) y) 1) (b := bI (m.testBit w)) (st2 := []) (w2 := (wC S, c)) rfl (b_tb g hm hy hw) (fun z hz => ?_)
  have hq := bI_1 hz
  refine xEq (N := 2) (x := z) (y := 1) (A := ev m_W_hasCandidate 14 [some (eR 0), some (eI x), some (eI y)] [] (wC S, c)) (B := ev m_W_hasCandidate 18 [some (eR 0), some (eI x), some (eI y)] [] (wC S, c)) rfl (wr_id (by omega) (by omega)) (show wr 1 = 1 by decide) (fun h11 => ?_) (fun h11 => ?_)
  · refine xRb (N := 3) (v := 1) (w2 := (wC S, c)) rfl (by decide) ?_
    first | exact lf (bT (hq.2.1.mp (by omega))) | exact lf (bF (hq.2.2.mp (by omega)))
  · refine xRb (N := 2) (v := 0) (w2 := (wC S, c)) rfl (by decide) ?_
    first | exact lf (bT (hq.2.1.mp (by omega))) | exact lf (bF (hq.2.2.mp (by omega)))
theorem c_hasSingle {S : wS} {c : Nat × Nat} {x : Int} {k m : Nat} (hx : x = (k : Int)) (hk : k < 24) (g : S 15 k = (m : Int)) (hm : m < 1073741824) : ev m_W_hasSingle 0 [some (eR 0), some (eI x)] [] (wC S, c) = some (.inl (some (eI (bI (decide (pc 30 m = 1))))), (wC S, c)) := by
  have hp := pc_le 30 m
  refine xLd (N := 4) (n := 24) (i := x) (F := fun zq => ev m_W_hasSingle 6 [some (eR 0), some (eI x)] [eI (S 15 zq)] (wC S, c)) (k := k) rfl (wr_nat (by omega) (by omega)) (by omega) ?_
  refine xCallI (N := 1) (v := ((pc 30 m : Nat) : Int)) (M2 := m_W_hasSingle) (pc2 := 6) (ls2 := [some (eR 0), some (eI x)]) (st2 := []) (y := m_J_bitCount) (as := [some (eI (S 15 k))]) (w2 := (wC S, c)) rfl (c_bitCount g hm) (fun r6 hr6 => ?_)
  refine xEq (N := 2) (x := r6) (y := 1) (A := ev m_W_hasSingle 13 [some (eR 0), some (eI x)] [] (wC S, c)) (B := ev m_W_hasSingle 17 [some (eR 0), some (eI x)] [] (wC S, c)) rfl (wr_id (by omega) (by omega)) (show wr 1 = 1 by decide) (fun h10 => ?_) (fun h10 => ?_)
  · refine xRb (N := 3) (v := 1) (w2 := (wC S, c)) rfl (by decide) ?_
    first | exact lf (bT (decide_eq_true (by omega))) | exact lf (bF (decide_eq_false (by omega)))
  · refine xRb (N := 2) (v := 0) (w2 := (wC S, c)) rfl (by decide) ?_
    first | exact lf (bT (decide_eq_true (by omega))) | exact lf (bF (decide_eq_false (by omega)))
/-- why a guess is refused -/
def rfs (md : Nat) (b s : Bool) : Nat := if md ≠ 0 then 1 else bif b then (bif s then 3 else 0) else 2
theorem c_refusal {S : wS} {c : Nat × Nat} {x y : Int} {k w md : Nat} {o : Nat → Nat} (hx : x = (k : Int)) (hy : y = (w : Int)) (hk : k < 24) (g3 : S 0 3 = (md : Int)) (hmd : md < 4) (g : S 15 k = (o k : Int)) (hm : o k < 1073741824) (hw : w < 32) : ev m_W_refusal 0 [some (eR 0), some (eI x), some (eI y)] [] (wC S, c) = some (.inl (some (eI ((rfs md ((o k).testBit w) (decide (pc 30 (o k) = 1)) : Nat) : Int))), (wC S, c)) := by
  refine xEq (N := 3) (x := S 0 3) (y := 0) (A := ev m_W_refusal 9 [some (eR 0), some (eI x), some (eI y)] [] (wC S, c)) (B := ev m_W_refusal 7 [some (eR 0), some (eI x), some (eI y)] [] (wC S, c)) rfl (wr_id (by omega) (by omega)) (show wr 0 = 0 by decide) (fun h4 => ?_) (fun h4 => ?_)
  · refine xCallWI (N := 4) (v := bI ((o k).testBit w)) (M2 := m_W_refusal) (pc2 := 12) (ls2 := [some (eR 0), some (eI x), some (eI y)]) (st2 := []) (y := m_W_hasCandidate) (as := [some (eR 0), some (eI x), some (eI y)]) (w2 := (wC S, c)) rfl (c_hasCandidate (m := o k) (w := w) (by omega) (by omega) (by omega) (by omega) (by omega) (by omega)) (fun r12 hr12 => ?_)
    have hq := bI_1 hr12
    refine xEq (N := 1) (x := r12) (y := 0) (A := ev m_W_refusal 18 [some (eR 0), some (eI x), some (eI y)] [] (wC S, c)) (B := ev m_W_refusal 20 [some (eR 0), some (eI x), some (eI y)] [] (wC S, c)) rfl (wr_id (by omega) (by omega)) (show wr 0 = 0 by decide) (fun h15 => ?_) (fun h15 => ?_)
    · refine xSeg (N := 2) (r := some (.inl (some (eI 2)), (wC S, c))) rfl ?_
      exact lf (by unfold rfs; rw [if_neg (by omega), hq.2.2.mp (by omega)]; rfl)
    · refine xCallWI (N := 3) (v := bI (decide (pc 30 (o k) = 1))) (M2 := m_W_refusal) (pc2 := 22) (ls2 := [some (eR 0), some (eI x), some (eI y)]) (st2 := []) (y := m_W_hasSingle) (as := [some (eR 0), some (eI x)]) (w2 := (wC S, c)) rfl (c_hasSingle (m := o k) (by omega) (by omega) (by omega) (by omega)) (fun r22 hr22 => ?_)
      have hq2 := bI_1 hr22
      refine xEq (N := 1) (x := r22) (y := 0) (A := ev m_W_refusal 32 [some (eR 0), some (eI x), some (eI y)] [] (wC S, c)) (B := ev m_W_refusal 28 [some (eR 0), some (eI x), some (eI y)] [] (wC S, c)) rfl (wr_id (by omega) (by omega)) (show wr 0 = 0 by decide) (fun h25 => ?_) (fun h25 => ?_)
      · refine xSeg (N := 2) (r := some (.inl (some (eI 0)), (wC S, c))) rfl ?_
        first | exact lf (by unfold rfs; rw [if_neg (by omega), hq.2.1.mp (by omega), hq2.2.1.mp (by omega)]; rfl) | exact lf (by unfold rfs; rw [if_neg (by omega), hq.2.1.mp (by omega), hq2.2.2.mp (by omega)]; rfl)
      · refine xSeg (N := 3) (r := some (.inl (some (eI 3)), (wC S, c))) rfl ?_
        first | exact lf (by unfold rfs; rw [if_neg (by omega), hq.2.1.mp (by omega), hq2.2.1.mp (by omega)]; rfl) | exact lf (by unfold rfs; rw [if_neg (by omega), hq.2.1.mp (by omega), hq2.2.2.mp (by omega)]; rfl)
  · refine xSeg (N := 2) (r := some (.inl (some (eI 1)), (wC S, c))) rfl ?_
    exact lf (by unfold rfs; rw [if_pos (by omega)]; rfl)
theorem c_findCandidate {S : wS} {c : Nat × Nat} {x i : Int} {k m : Nat} {o : Nat → Nat} (hx : x = (k : Int)) (hk : k < 24) (gm : S 11 0 = (m : Int)) (hm : m ≤ 30) (g : S 15 k = (o k : Int)) (ho : o k < 1073741824) (bi : -2147483648 ≤ i ∧ i < 2147483648) : ev m_W_findCandidate 0 [some (eR 0), some (eI x), some (eI i)] [] (wC S, c) = some (.inl (some (eI (fnd (fun w => (o k).testBit w && decide (((fb_ct (o k).testBit w : Nat) : Int) = i)) m 0))), (wC S, c)) := by
  have hl : ∀ p : Nat, p ≤ m → ∀ s y : Int, s = ((fb_ct (o k).testBit p : Nat) : Int) → y = ((p : Nat) : Int) → ev m_W_findCandidate 5 [some (eR 0), some (eI x), some (eI i), some (eI s), some (eI y)] [] (wC S, c) = some (.inl (some (eI (fnd (fun w => (o k).testBit w && decide (((fb_ct (o k).testBit w : Nat) : Int) = i)) (m - p) p))), (wC S, c)) := by
    refine loop_up ?_ ?_
    · intro s y hs hy
      rw [Nat.sub_self]
      refine xLtF (N := 5) (x := y) (y := S 11 0) (A := ev m_W_findCandidate 17 [some (eR 0), some (eI x), some (eI i), some (eI s), some (eI y)] [] (wC S, c)) (B := ev m_W_findCandidate 44 [some (eR 0), some (eI x), some (eI i), some (eI s), some (eI y)] [] (wC S, c)) rfl (wr_id (by omega) (by omega)) (wr_id (by omega) (by omega)) (by omega) ?_
      refine xSeg (N := 2) (r := some (.inl (some (eI (-1))), (wC S, c))) rfl ?_
      rfl
    · intro p hp ih s y hs hy
      have hc := fb_ct_le (o k).testBit p
      rw [show m - p = (m - (p + 1)) + 1 by omega]
      refine xLtT (N := 5) (x := y) (y := S 11 0) (A := ev m_W_findCandidate 17 [some (eR 0), some (eI x), some (eI i), some (eI s), some (eI y)] [] (wC S, c)) (B := ev m_W_findCandidate 44 [some (eR 0), some (eI x), some (eI i), some (eI s), some (eI y)] [] (wC S, c)) rfl (wr_id (by omega) (by omega)) (wr_id (by omega) (by omega)) (by omega) ?_
      refine xCallWI (N := 4) (v := bI ((o k).testBit p)) (M2 := m_W_findCandidate) (pc2 := 21) (ls2 := [some (eR 0), some (eI x), some (eI i), some (eI s), some (eI y)]) (st2 := []) (y := m_W_hasCandidate) (as := [some (eR 0), some (eI x), some (eI y)]) (w2 := (wC S, c)) rfl (c_hasCandidate (m := o k) (w := p) (by omega) (by omega) (by omega) (by omega) (by omega) (by omega)) (fun r21 hr21 => ?_)
      have hq := bI_1 hr21
      refine xEq (N := 1) (x := r21) (y := 0) (A := ev m_W_findCandidate 38 [some (eR 0), some (eI x), some (eI i), some (eI s), some (eI y)] [] (wC S, c)) (B := ev m_W_findCandidate 27 [some (eR 0), some (eI x), some (eI i), some (eI s), some (eI y)] [] (wC S, c)) rfl (wr_id (by omega) (by omega)) (show wr 0 = 0 by decide) (fun h24 => ?_) (fun h24 => ?_)
      · refine xSeg (N := 2) (r := ev m_W_findCandidate 5 [some (eR 0), some (eI x), some (eI i), some (eI s), some (eI (y + 1))] [] (wC S, c)) rfl ?_
        first | exact (ih _ _ (by rw [ct_F (hq.2.2.mp (by omega))]; exact hs) (by omega)).trans (by rw [fnd_F (by rw [hq.2.2.mp (by omega)]; rfl)]) | exact (ih _ _ (by rw [ct_T (hq.2.1.mp (by omega))]; omega) (by omega)).trans (by rw [fnd_F (by rw [decide_eq_false (by omega), Bool.and_false])])
      · refine xEq (N := 3) (x := s) (y := i) (A := ev m_W_findCandidate 32 [some (eR 0), some (eI x), some (eI i), some (eI s), some (eI y)] [] (wC S, c)) (B := ev m_W_findCandidate 35 [some (eR 0), some (eI x), some (eI i), some (eI s), some (eI y)] [] (wC S, c)) rfl (wr_id (by omega) (by omega)) (wr_id (by omega) (by omega)) (fun h29 => ?_) (fun h29 => ?_)
        · refine xSeg (N := 2) (r := some (.inl (some (eI y)), (wC S, c))) rfl ?_
          rw [fnd_T (by rw [hq.2.1.mp (by omega), decide_eq_true (by omega)]; rfl), hy]
        · refine xSeg (N := 3) (r := ev m_W_findCandidate 5 [some (eR 0), some (eI x), some (eI i), some (eI (s + 1)), some (eI (y + 1))] [] (wC S, c)) rfl ?_
          first | exact (ih _ _ (by rw [ct_F (hq.2.2.mp (by omega))]; exact hs) (by omega)).trans (by rw [fnd_F (by rw [hq.2.2.mp (by omega)]; rfl)]) | exact (ih _ _ (by rw [ct_T (hq.2.1.mp (by omega))]; omega) (by omega)).trans (by rw [fnd_F (by rw [decide_eq_false (by omega), Bool.and_false])])
  refine xSeg (N := 4) (r := ev m_W_findCandidate 5 [some (eR 0), some (eI x), some (eI i), some (eI 0), some (eI 0)] [] (wC S, c)) rfl ?_
  exact hl 0 (Nat.zero_le _) _ _ rfl rfl
theorem c_findEmptySlot {S : wS} {c : Nat × Nat} {n : Nat} {o : Nat → Nat} (gn : S 1 4 = (n : Int)) (hn : n ≤ 24) (go : ∀ k, k < n → S 15 k = (o k : Int) ∧ o k < 1073741824) : ev m_W_findEmptySlot 0 [some (eR 0)] [] (wC S, c) = some (.inl (some (eI (fnd (fun k => decide (o k = 0)) n 0))), (wC S, c)) := by
  have hl : ∀ p : Nat, p ≤ n → ∀ y : Int, y = ((p : Nat) : Int) → ev m_W_findEmptySlot 2 [some (eR 0), some (eI y)] [] (wC S, c) = some (.inl (some (eI (fnd (fun k => decide (o k = 0)) (n - p) p))), (wC S, c)) := by
    refine loop_up ?_ ?_
    · intro y hy
      rw [Nat.sub_self]
      refine xLtF (N := 5) (x := y) (y := S 1 4) (A := ev m_W_findEmptySlot 13 [some (eR 0), some (eI y)] [] (wC S, c)) (B := ev m_W_findEmptySlot 30 [some (eR 0), some (eI y)] [] (wC S, c)) rfl (wr_id (by omega) (by omega)) (wr_id (by omega) (by omega)) (by omega) ?_
      refine xSeg (N := 2) (r := some (.inl (some (eI (-1))), (wC S, c))) rfl ?_
      rfl
    · intro p hp ih y hy
      have hb := go p hp
      rw [show n - p = (n - (p + 1)) + 1 by omega]
      refine xLtT (N := 5) (x := y) (y := S 1 4) (A := ev m_W_findEmptySlot 13 [some (eR 0), some (eI y)] [] (wC S, c)) (B := ev m_W_findEmptySlot 30 [some (eR 0), some (eI y)] [] (wC S, c)) rfl (wr_id (by omega) (by omega)) (wr_id (by omega) (by omega)) (by omega) ?_
      refine xLd (N := 4) (n := 24) (i := y) (F := fun zq => ev m_W_findEmptySlot 19 [some (eR 0), some (eI y)] [eI (S 15 zq)] (wC S, c)) (k := p) rfl (wr_nat (by omega) (by omega)) (by omega) ?_
      refine xEq (N := 1) (x := S 15 p) (y := 0) (A := ev m_W_findEmptySlot 22 [some (eR 0), some (eI y)] [] (wC S, c)) (B := ev m_W_findEmptySlot 24 [some (eR 0), some (eI y)] [] (wC S, c)) rfl (wr_id (by omega) (by omega)) (show wr 0 = 0 by decide) (fun h19 => ?_) (fun h19 => ?_)
      · refine xSeg (N := 2) (r := some (.inl (some (eI y)), (wC S, c))) rfl ?_
        rw [fnd_T (decide_eq_true (by omega)), hy]
      · refine xSeg (N := 2) (r := ev m_W_findEmptySlot 2 [some (eR 0), some (eI (y + 1))] [] (wC S, c)) rfl ?_
        exact (ih _ (by omega)).trans (by rw [fnd_F (decide_eq_false (by omega))])
  refine xSeg (N := 2) (r := ev m_W_findEmptySlot 2 [some (eR 0), some (eI 0)] [] (wC S, c)) rfl ?_
  exact hl 0 (Nat.zero_le _) _ rfl
/-- the slot with the fewest, more than one, and how many -/
def bsA (f : Nat → Nat) : Nat → Int × Nat
  | 0 => (-1, 31)
  | k + 1 => if 1 < f k ∧ f k < (bsA f k).2 then ((k : Int), f k) else bsA f k
theorem bsA_b {f : Nat → Nat} : ∀ {k : Nat}, (bsA f k).2 ≤ 31
  | 0 => Nat.le_refl _
  | k + 1 => by
    have := bsA_b (f := f) (k := k)
    simp only [bsA]
    split
    · dsimp only; omega
    · exact this
theorem bsA_T {f : Nat → Nat} {k : Nat} (h : 1 < f k ∧ f k < (bsA f k).2) : bsA f (k + 1) = ((k : Int), f k) := by simp only [bsA]; rw [if_pos h]
theorem bsA_F {f : Nat → Nat} {k : Nat} (h : ¬ (1 < f k ∧ f k < (bsA f k).2)) : bsA f (k + 1) = bsA f k := by simp only [bsA]; rw [if_neg h]
theorem c_findBestSlot {S : wS} {c : Nat × Nat} {n : Nat} {o : Nat → Nat} (gn : S 1 4 = (n : Int)) (hn : n ≤ 24) (go : ∀ k, k < n → S 15 k = (o k : Int) ∧ o k < 1073741824) : ev m_W_findBestSlot 0 [some (eR 0)] [] (wC S, c) = some (.inl (some (eI (bsA (fun k => pc 30 (o k)) n).1)), (wC S, c)) := by
  have hl : ∀ p : Nat, p ≤ n → ∀ s v y : Int, s = (bsA (fun k => pc 30 (o k)) p).1 → v = (((bsA (fun k => pc 30 (o k)) p).2 : Nat) : Int) → y = ((p : Nat) : Int) → ev m_W_findBestSlot 7 [some (eR 0), some (eI s), some (eI v), some (eI y)] [] (wC S, c) = some (.inl (some (eI (bsA (fun k => pc 30 (o k)) n).1)), (wC S, c)) := by
    refine loop_up ?_ ?_
    · intro s v y hs hv hy
      refine xLtF (N := 5) (x := y) (y := S 1 4) (A := ev m_W_findBestSlot 18 [some (eR 0), some (eI s), some (eI v), some (eI y)] [] (wC S, c)) (B := ev m_W_findBestSlot 52 [some (eR 0), some (eI s), some (eI v), some (eI y)] [] (wC S, c)) rfl (wr_id (by omega) (by omega)) (wr_id (by omega) (by omega)) (by omega) ?_
      refine xSeg (N := 2) (r := some (.inl (some (eI s)), (wC S, c))) rfl ?_
      rw [hs]
    · intro p hp ih s v y hs hv hy
      have hb := go p hp
      have hc := bsA_b (f := fun k => pc 30 (o k)) (k := p)
      have hp2 := pc_le 30 (o p)
      refine xLtT (N := 5) (x := y) (y := S 1 4) (A := ev m_W_findBestSlot 18 [some (eR 0), some (eI s), some (eI v), some (eI y)] [] (wC S, c)) (B := ev m_W_findBestSlot 52 [some (eR 0), some (eI s), some (eI v), some (eI y)] [] (wC S, c)) rfl (wr_id (by omega) (by omega)) (wr_id (by omega) (by omega)) (by omega) ?_
      refine xLd (N := 4) (n := 24) (i := y) (F := fun zq => ev m_W_findBestSlot 24 [some (eR 0), some (eI s), some (eI v), some (eI y)] [eI (S 15 zq)] (wC S, c)) (k := p) rfl (wr_nat (by omega) (by omega)) (by omega) ?_
      refine xCallI (N := 1) (v := ((pc 30 (o p) : Nat) : Int)) (M2 := m_W_findBestSlot) (pc2 := 24) (ls2 := [some (eR 0), some (eI s), some (eI v), some (eI y)]) (st2 := []) (y := m_J_bitCount) (as := [some (eI (S 15 p))]) (w2 := (wC S, c)) rfl (c_bitCount (m := o p) (by omega) (by omega)) (fun r24 hr24 => ?_)
      refine xLt (N := 4) (x := 1) (y := r24) (A := ev m_W_findBestSlot 35 [some (eR 0), some (eI s), some (eI v), some (eI y), some (eI r24)] [] (wC S, c)) (B := ev m_W_findBestSlot 46 [some (eR 0), some (eI s), some (eI v), some (eI y), some (eI r24)] [] (wC S, c)) rfl (show wr 1 = 1 by decide) (wr_id (by omega) (by omega)) (fun h32 => ?_) (fun h32 => ?_)
      · refine xLt (N := 3) (x := r24) (y := v) (A := ev m_W_findBestSlot 41 [some (eR 0), some (eI s), some (eI v), some (eI y), some (eI r24)] [] (wC S, c)) (B := ev m_W_findBestSlot 46 [some (eR 0), some (eI s), some (eI v), some (eI y), some (eI r24)] [] (wC S, c)) rfl (wr_id (by omega) (by omega)) (wr_id (by omega) (by omega)) (fun h38 => ?_) (fun h38 => ?_)
        · refine xSeg (N := 6) (r := ev m_W_findBestSlot 7 [some (eR 0), some (eI y), some (eI r24), some (eI (y + 1)), some (eI r24)] [] (wC S, c)) rfl ?_
          refine xTk 4 (by rfl) rfl ?_
          first | exact ih _ _ _ (by rw [bsA_T (by omega)]; exact hy) (by rw [bsA_T (by omega)]; exact hr24) (by omega) | exact ih _ _ _ (by rw [bsA_F (by omega)]; exact hs) (by rw [bsA_F (by omega)]; exact hv) (by omega)
        · refine xSeg (N := 2) (r := ev m_W_findBestSlot 7 [some (eR 0), some (eI s), some (eI v), some (eI (y + 1)), some (eI r24)] [] (wC S, c)) rfl ?_
          refine xTk 4 (by rfl) rfl ?_
          first | exact ih _ _ _ (by rw [bsA_T (by omega)]; exact hy) (by rw [bsA_T (by omega)]; exact hr24) (by omega) | exact ih _ _ _ (by rw [bsA_F (by omega)]; exact hs) (by rw [bsA_F (by omega)]; exact hv) (by omega)
      · refine xSeg (N := 2) (r := ev m_W_findBestSlot 7 [some (eR 0), some (eI s), some (eI v), some (eI (y + 1)), some (eI r24)] [] (wC S, c)) rfl ?_
        refine xTk 4 (by rfl) rfl ?_
        first | exact ih _ _ _ (by rw [bsA_T (by omega)]; exact hy) (by rw [bsA_T (by omega)]; exact hr24) (by omega) | exact ih _ _ _ (by rw [bsA_F (by omega)]; exact hs) (by rw [bsA_F (by omega)]; exact hv) (by omega)
  refine xSeg (N := 6) (r := ev m_W_findBestSlot 7 [some (eR 0), some (eI (-1)), some (eI 31), some (eI 0)] [] (wC S, c)) rfl ?_
  exact hl 0 (Nat.zero_le _) _ _ _ rfl rfl rfl
/-- the word with the greatest prize, and its prize -/
def bwA (q : Nat → Bool) (f : Nat → Nat) : Nat → Int × Nat
  | 0 => (-1, 0)
  | k + 1 => if q k = true ∧ (bwA q f k).2 < f k then ((k : Int), f k) else bwA q f k
theorem bwA_b {q : Nat → Bool} {f : Nat → Nat} {B : Nat} : ∀ {k : Nat}, (∀ i, i < k → f i ≤ B) → (bwA q f k).2 ≤ B
  | 0, _ => Nat.zero_le _
  | k + 1, h => by
    have := bwA_b (q := q) (f := f) (k := k) (fun i hi => h i (by omega))
    simp only [bwA]
    split
    · exact h k (by omega)
    · exact this
theorem bwA_T {q : Nat → Bool} {f : Nat → Nat} {k : Nat} (h1 : q k = true) (h : (bwA q f k).2 < f k) : bwA q f (k + 1) = ((k : Int), f k) := by simp only [bwA]; rw [if_pos ⟨h1, h⟩]
theorem bwA_F {q : Nat → Bool} {f : Nat → Nat} {k : Nat} (h : q k = false ∨ f k ≤ (bwA q f k).2) : bwA q f (k + 1) = bwA q f k := by
  simp only [bwA]
  rw [if_neg (fun e => by
    rcases h with h | h
    · rw [h] at e; exact absurd e.1 (by decide)
    · omega)]
/-- the prize of a word out of its letters -/
def wpz (hd : Nat → Nat) (L : Nat) (f : Nat → Nat) : Nat := fb_sm (fun p => max 1 (10 - hd (f p))) L
theorem wpz_b (hd : Nat → Nat) {L : Nat} (f : Nat → Nat) (hL : L ≤ 6) : wpz hd L f ≤ 60 := by
  have := fb_sm_bound (f := fun p => max 1 (10 - hd (f p))) (c := 10) (n := L) (fun k _ => by omega)
  unfold wpz
  omega
theorem c_findBestWord {S : wS} {c : Nat × Nat} {x : Int} {k m : Nat} {o wl hd : Nat → Nat} {f : Nat → Nat → Nat} (hx : x = (k : Int)) (hk : k < 24) (gm : S 11 0 = (m : Int)) (hm : m ≤ 30) (g : S 15 k = (o k : Int)) (ho : o k < 1073741824) (g12 : ∀ w, w < m → S 12 w = (wl w : Int) ∧ wl w ≤ 6) (g13 : ∀ w p, w < m → p < wl w → S 13 (w * 6 + p) = (f w p : Int) ∧ f w p < 26) (g14 : ∀ l, l < 26 → S 14 l = (hd l : Int) ∧ hd l ≤ 30) : ev m_W_findBestWord 0 [some (eR 0), some (eI x)] [] (wC S, c) = some (.inl (some (eI (bwA (o k).testBit (fun w => wpz hd (wl w) (f w)) m).1)), (wC S, c)) := by
  have hl : ∀ p : Nat, p ≤ m → ∀ s v y : Int, s = (bwA (o k).testBit (fun w => wpz hd (wl w) (f w)) p).1 → v = (((bwA (o k).testBit (fun w => wpz hd (wl w) (f w)) p).2 : Nat) : Int) → y = ((p : Nat) : Int) → ev m_W_findBestWord 7 [some (eR 0), some (eI x), some (eI s), some (eI v), some (eI y)] [] (wC S, c) = some (.inl (some (eI (bwA (o k).testBit (fun w => wpz hd (wl w) (f w)) m).1)), (wC S, c)) := by
    refine loop_up ?_ ?_
    · intro s v y hs hv hy
      refine xLtF (N := 5) (x := y) (y := S 11 0) (A := ev m_W_findBestWord 19 [some (eR 0), some (eI x), some (eI s), some (eI v), some (eI y)] [] (wC S, c)) (B := ev m_W_findBestWord 61 [some (eR 0), some (eI x), some (eI s), some (eI v), some (eI y)] [] (wC S, c)) rfl (wr_id (by omega) (by omega)) (wr_id (by omega) (by omega)) (by omega) ?_
      refine xSeg (N := 2) (r := some (.inl (some (eI s)), (wC S, c))) rfl ?_
      rw [hs]
    · intro p hp ih s v y hs hv hy
      have hc := bwA_b (q := (o k).testBit) (f := fun w => wpz hd (wl w) (f w)) (B := 60) (k := p) (fun i hi => wpz_b hd (f i) (g12 i (by omega)).2)
      have hp2 := wpz_b hd (f p) (g12 p hp).2
      refine xLtT (N := 5) (x := y) (y := S 11 0) (A := ev m_W_findBestWord 19 [some (eR 0), some (eI x), some (eI s), some (eI v), some (eI y)] [] (wC S, c)) (B := ev m_W_findBestWord 61 [some (eR 0), some (eI x), some (eI s), some (eI v), some (eI y)] [] (wC S, c)) rfl (wr_id (by omega) (by omega)) (wr_id (by omega) (by omega)) (by omega) ?_
      refine xCallWI (N := 4) (v := bI ((o k).testBit p)) (M2 := m_W_findBestWord) (pc2 := 23) (ls2 := [some (eR 0), some (eI x), some (eI s), some (eI v), some (eI y)]) (st2 := []) (y := m_W_hasCandidate) (as := [some (eR 0), some (eI x), some (eI y)]) (w2 := (wC S, c)) rfl (c_hasCandidate (m := o k) (w := p) (by omega) (by omega) (by omega) (by omega) (by omega) (by omega)) (fun r23 hr23 => ?_)
      have hq := bI_1 hr23
      refine xEq (N := 1) (x := r23) (y := 0) (A := ev m_W_findBestWord 55 [some (eR 0), some (eI x), some (eI s), some (eI v), some (eI y)] [] (wC S, c)) (B := ev m_W_findBestWord 29 [some (eR 0), some (eI x), some (eI s), some (eI v), some (eI y)] [] (wC S, c)) rfl (wr_id (by omega) (by omega)) (show wr 0 = 0 by decide) (fun h26 => ?_) (fun h26 => ?_)
      · refine xSeg (N := 2) (r := ev m_W_findBestWord 7 [some (eR 0), some (eI x), some (eI s), some (eI v), some (eI (y + 1))] [] (wC S, c)) rfl ?_
        first | exact ih _ _ _ (by rw [bwA_T (hq.2.1.mp (by omega)) (by omega)]; exact hy) (by rw [bwA_T (hq.2.1.mp (by omega)) (by omega)]; exact hr51) (by omega) | exact ih _ _ _ (by rw [bwA_F (Or.inl (hq.2.2.mp (by omega)))]; exact hs) (by rw [bwA_F (Or.inl (hq.2.2.mp (by omega)))]; exact hv) (by omega) | exact ih _ _ _ (by rw [bwA_F (Or.inr (by omega))]; exact hs) (by rw [bwA_F (Or.inr (by omega))]; exact hv) (by omega)
      · refine xCallWI (N := 4) (v := ((wpz hd (wl p) (f p) : Nat) : Int)) (M2 := m_W_findBestWord) (pc2 := 35) (ls2 := [some (eR 0), some (eI x), some (eI s), some (eI v), some (eI y)]) (st2 := []) (y := m_V_prize) (as := [some (eR 11), some (eI y)]) (w2 := (wC S, c)) rfl (c_prize (L := wl p) (f := f p) (by omega) (by omega) (g12 p (by omega)).1 (g12 p (by omega)).2 (fun q hq => g13 p q (by omega) hq) g14) (fun r35 hr35 => ?_)
        refine xLt (N := 2) (x := v) (y := r35) (A := ev m_W_findBestWord 42 [some (eR 0), some (eI x), some (eI s), some (eI v), some (eI y)] [] (wC S, c)) (B := ev m_W_findBestWord 55 [some (eR 0), some (eI x), some (eI s), some (eI v), some (eI y)] [] (wC S, c)) rfl (wr_id (by omega) (by omega)) (wr_id (by omega) (by omega)) (fun h39 => ?_) (fun h39 => ?_)
        · refine xCallWI (N := 6) (v := ((wpz hd (wl p) (f p) : Nat) : Int)) (M2 := m_W_findBestWord) (pc2 := 51) (ls2 := [some (eR 0), some (eI x), some (eI y), some (eI v), some (eI y)]) (st2 := []) (y := m_V_prize) (as := [some (eR 11), some (eI y)]) (w2 := (wC S, c)) rfl (c_prize (L := wl p) (f := f p) (by omega) (by omega) (g12 p (by omega)).1 (g12 p (by omega)).2 (fun q hq => g13 p q (by omega) hq) g14) (fun r51 hr51 => ?_)
          refine xSeg (N := 3) (r := ev m_W_findBestWord 7 [some (eR 0), some (eI x), some (eI y), some (eI r51), some (eI (y + 1))] [] (wC S, c)) rfl ?_
          first | exact ih _ _ _ (by rw [bwA_T (hq.2.1.mp (by omega)) (by omega)]; exact hy) (by rw [bwA_T (hq.2.1.mp (by omega)) (by omega)]; exact hr51) (by omega) | exact ih _ _ _ (by rw [bwA_F (Or.inl (hq.2.2.mp (by omega)))]; exact hs) (by rw [bwA_F (Or.inl (hq.2.2.mp (by omega)))]; exact hv) (by omega) | exact ih _ _ _ (by rw [bwA_F (Or.inr (by omega))]; exact hs) (by rw [bwA_F (Or.inr (by omega))]; exact hv) (by omega)
        · refine xSeg (N := 2) (r := ev m_W_findBestWord 7 [some (eR 0), some (eI x), some (eI s), some (eI v), some (eI (y + 1))] [] (wC S, c)) rfl ?_
          first | exact ih _ _ _ (by rw [bwA_T (hq.2.1.mp (by omega)) (by omega)]; exact hy) (by rw [bwA_T (hq.2.1.mp (by omega)) (by omega)]; exact hr51) (by omega) | exact ih _ _ _ (by rw [bwA_F (Or.inl (hq.2.2.mp (by omega)))]; exact hs) (by rw [bwA_F (Or.inl (hq.2.2.mp (by omega)))]; exact hv) (by omega) | exact ih _ _ _ (by rw [bwA_F (Or.inr (by omega))]; exact hs) (by rw [bwA_F (Or.inr (by omega))]; exact hv) (by omega)
  refine xSeg (N := 6) (r := ev m_W_findBestWord 7 [some (eR 0), some (eI x), some (eI (-1)), some (eI 0), some (eI 0)] [] (wC S, c)) rfl ?_
  exact hl 0 (Nat.zero_le _) _ _ _ rfl rfl rfl
theorem c_countCandidates {S : wS} {c : Nat × Nat} {n : Nat} {o : Nat → Nat} (gn : S 1 4 = (n : Int)) (hn : n ≤ 24) (go : ∀ k, k < n → S 15 k = (o k : Int) ∧ o k < 1073741824) : ev m_W_countCandidates 0 [some (eR 0)] [] (wC S, c) = some (.inl (some (eI ((fb_sm (fun k => pc 30 (o k)) n : Nat) : Int))), (wC S, c)) := by
  have hl : ∀ p : Nat, p ≤ n → ∀ s y : Int, s = ((fb_sm (fun k => pc 30 (o k)) p : Nat) : Int) → y = ((p : Nat) : Int) → ev m_W_countCandidates 4 [some (eR 0), some (eI s), some (eI y)] [] (wC S, c) = some (.inl (some (eI ((fb_sm (fun k => pc 30 (o k)) n : Nat) : Int))), (wC S, c)) := by
    refine loop_up ?_ ?_
    · intro s y hs hy
      refine xLtF (N := 5) (x := y) (y := S 1 4) (A := ev m_W_countCandidates 15 [some (eR 0), some (eI s), some (eI y)] [] (wC S, c)) (B := ev m_W_countCandidates 33 [some (eR 0), some (eI s), some (eI y)] [] (wC S, c)) rfl (wr_id (by omega) (by omega)) (wr_id (by omega) (by omega)) (by omega) ?_
      refine xSeg (N := 2) (r := some (.inl (some (eI s)), (wC S, c))) rfl ?_
      rw [hs]
    · intro p hp ih s y hs hy
      have hb := go p hp
      have hs2 := fb_sm_succ (fun k => pc 30 (o k)) p
      refine xLtT (N := 5) (x := y) (y := S 1 4) (A := ev m_W_countCandidates 15 [some (eR 0), some (eI s), some (eI y)] [] (wC S, c)) (B := ev m_W_countCandidates 33 [some (eR 0), some (eI s), some (eI y)] [] (wC S, c)) rfl (wr_id (by omega) (by omega)) (wr_id (by omega) (by omega)) (by omega) ?_
      refine xLd (N := 5) (n := 24) (i := y) (F := fun zq => ev m_W_countCandidates 22 [some (eR 0), some (eI s), some (eI y)] [eI (S 15 zq), eI s] (wC S, c)) (k := p) rfl (wr_nat (by omega) (by omega)) (by omega) ?_
      refine xCallI (N := 1) (v := ((pc 30 (o p) : Nat) : Int)) (M2 := m_W_countCandidates) (pc2 := 22) (ls2 := [some (eR 0), some (eI s), some (eI y)]) (st2 := [eI s]) (y := m_J_bitCount) (as := [some (eI (S 15 p))]) (w2 := (wC S, c)) rfl (c_bitCount (m := o p) (by omega) (by omega)) (fun r22 hr22 => ?_)
      refine xSeg (N := 4) (r := ev m_W_countCandidates 4 [some (eR 0), some (eI (s + r22)), some (eI (y + 1))] [] (wC S, c)) rfl ?_
      exact ih _ _ (by rw [hs2]; omega) (by omega)
  refine xSeg (N := 4) (r := ev m_W_countCandidates 4 [some (eR 0), some (eI 0), some (eI 0)] [] (wC S, c)) rfl ?_
  exact hl 0 (Nat.zero_le _) _ _ rfl rfl
