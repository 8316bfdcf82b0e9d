/-! The model drops words. -/
theorem eUp_eUp {f : Nat → Int} {k : Nat} {x y : Int} : eUp (eUp f k x) k y = eUp f k y := by
  funext i
  unfold eUp
  by_cases h : i = k
  · rw [if_pos h, if_pos h]
  · rw [if_neg h, if_neg h, if_neg h]
theorem eUp_at {f : Nat → Int} {k : Nat} {x : Int} : eUp f k x k = x := by unfold eUp; rw [if_pos rfl]
theorem eUp_ne {f : Nat → Int} {k i : Nat} {x : Int} (h : i ≠ k) : eUp f k x i = f i := by unfold eUp; rw [if_neg h]
/-- the row with other candidates -/
def setO (a : eRow) (r : Nat → Nat) : eRow := fun i => if 316 ≤ i ∧ i < 316 + a 3 then r (i - 316) else a i
def oF (r : Nat → Nat) (g : Nat → Int) (k : Nat) : Nat → Int := fun i => if 316 ≤ i ∧ i < 316 + k then (r (i - 316) : Int) else g i
theorem oF_0 {r : Nat → Nat} {g : Nat → Int} : oF r g 0 = g := by funext i; unfold oF; rw [if_neg (by omega)]
theorem oF_step {r : Nat → Nat} {g : Nat → Int} {k : Nat} : eUp (oF r g k) (316 + k) (r k : Int) = oF r g (k + 1) := by
  funext i
  unfold eUp oF
  by_cases hi : i = 316 + k
  · rw [if_pos hi, if_pos (by omega), hi, Nat.add_sub_cancel_left]
  · rw [if_neg hi]
    by_cases h : 316 ≤ i ∧ i < 316 + k
    · rw [if_pos h, if_pos (by omega)]
    · rw [if_neg h, if_neg (by omega)]
theorem oF_lo {r : Nat → Nat} {g : Nat → Int} {k i : Nat} (h : i < 316) : oF r g k i = g i := by unfold oF; rw [if_neg (by omega)]
theorem oF_ge {r : Nat → Nat} {g : Nat → Int} {k i : Nat} (h : 316 + k ≤ i) : oF r g k i = g i := by unfold oF; rw [if_neg (by omega)]
theorem oF_rg {r : Nat → Nat} {g : Nat → Int} {a : eRow} (hg : rg g a) : rg (oF r g (a 3)) (setO a r) := fun i hi => by
  unfold oF setO
  by_cases h : 316 ≤ i ∧ i < 316 + a 3
  · rw [if_pos h, if_pos h]
  · rw [if_neg h, if_neg h]
    exact hg i hi
/-- the words of a slot that are left when those before w are looked at -/
def frW (a : eRow) (k w : Nat) : Nat := mkM (fun v => (op a k).testBit v && (decide (w ≤ v) || allN (fun q => !lk (oth a) (plc a) (lt a) (op a) k q v) (sl a k))) 30
def sup (a : eRow) (k w : Nat) : Bool := allN (fun q => !lk (oth a) (plc a) (lt a) (op a) k q w) (sl a k)
def cr (a : eRow) (k : Nat) : Nat := crR (sl a) (oth a) (plc a) (lt a) (op a) k
theorem frW_tb {a : eRow} {k w v : Nat} (hv : v < 30) : (frW a k w).testBit v = ((op a k).testBit v && (decide (w ≤ v) || sup a k v)) := by
  unfold frW
  rw [mkM_tb, decide_eq_true hv, Bool.true_and]
  rfl
theorem frW_0 {a : eRow} {k : Nat} (h : op a k < 1073741824) : frW a k 0 = op a k := eqb mkM_30 h (fun v hv => by rw [frW_tb hv, decide_eq_true (Nat.zero_le v), Bool.true_or, Bool.and_true])
theorem cr_tb {a : eRow} {k v : Nat} (hv : v < 30) : (cr a k).testBit v = ((op a k).testBit v && sup a k v) := by
  unfold cr crR crP
  rw [mkM_tb, decide_eq_true hv, Bool.true_and]
  rfl
theorem frW_end {a : eRow} {k : Nat} (h : ∀ w, (op a k).testBit w = true → w < a 2) : frW a k (a 2) = cr a k := eqb mkM_30 mkM_30 (fun v hv => by
  rw [frW_tb hv, cr_tb hv]
  cases hb : (op a k).testBit v with
  | false => rfl
  | true => rw [decide_eq_false (by have := h v hb; omega), Bool.false_or])
theorem frW_keep {a : eRow} {k w : Nat} (h : (op a k).testBit w = false ∨ sup a k w = true) : frW a k (w + 1) = frW a k w := eqb mkM_30 mkM_30 (fun v hv => by
  rw [frW_tb hv, frW_tb hv]
  by_cases hvw : v = w
  · subst hvw
    rcases h with h | h
    · rw [h]; rfl
    · rw [h, Bool.or_true, Bool.or_true]
  · by_cases h2 : w ≤ v
    · rw [decide_eq_true h2, decide_eq_true (by omega)]
    · rw [decide_eq_false h2, decide_eq_false (by omega)])
theorem frW_drop {a : eRow} {k w : Nat} (hw : w < 30) (h1 : (op a k).testBit w = true) (h2 : sup a k w = false) : nDiff (frW a k w) (2 ^ w) = frW a k (w + 1) ∧ frW a k (w + 1) ≠ op a k := by
  have h0 : frW a k w < 1073741824 := mkM_30
  constructor
  · refine eqb (Nat.lt_of_le_of_lt Nat.and_le_left h0) mkM_30 (fun v hv => ?_)
    rw [nDiff_tb _ _ _ (by omega), frW_tb hv, frW_tb hv, Nat.testBit_two_pow]
    by_cases hvw : v = w
    · subst hvw
      rw [h2, decide_eq_false (show ¬ v + 1 ≤ v by omega), decide_eq_true (rfl : v = v)]
      cases (op a k).testBit v <;> simp
    · rw [decide_eq_false (show ¬ w = v from fun e => hvw e.symm)]
      by_cases h3 : w ≤ v
      · rw [decide_eq_true h3, decide_eq_true (show w + 1 ≤ v by omega)]; simp
      · rw [decide_eq_false h3, decide_eq_false (show ¬ w + 1 ≤ v by omega)]; simp
  · intro e
    have h3 := frW_tb (a := a) (k := k) (w := w + 1) hw
    rw [e, h1, h2, decide_eq_false (show ¬ w + 1 ≤ w by omega)] at h3
    cases h3
set_option maxRecDepth 100000
theorem n_dropUnsupported {g mk fr P : Nat → Int} {a : eRow} {c : Nat × Nat} (hg : rg g a) (hG : iG a) (hV : iV a) (hO : iO a) : ev m_M_dropUnsupported 0 [some (eR 1), some (eR 0)] [] ([eA 0 964 g, mO P, eA 0 144 mk, eA 0 24 fr], c) = some (.inl (some (eI (bI (anyN (fun k => decide (cr a k ≠ op a k)) (a 3))))), ([eA 0 964 (oF (cr a) g (a 3)), mO P, eA 0 144 (ofF (sl a) (mkf a) mk (a 3) 0), eA 0 24 (cF (cr a) fr (a 3))], c)) := by
  have hn := hG.1.2.2.2.2
  have hm30 := hV.1
  have e3 := hg 3 (by omega)
  have e2 := hg 2 (by omega)
  have hmk : mkOk a (ofF (sl a) (mkf a) mk (a 3) 0) := fun k p hk hp => by
    rw [Nat.mul_comm 6 k]
    exact ofF_at hk hp (by have := (sl_at hG hk).2.2.1; omega)
  have hfm := n_findMasks (P := P) (mk := mk) (fr := fr) (c := c) hg hG hV hO
  generalize ofF (sl a) (mkf a) mk (a 3) 0 = mk2 at hmk hfm
  -- the words of one slot
  have hi : ∀ (k : Nat) (v : Int) (b0 : Bool), k < a 3 → v = (k : Int) → ∀ R : eRes, (∀ s y : Int, s = bI (b0 || decide (cr a k ≠ op a k)) → ev m_M_dropUnsupported 9 [some (eR 1), some (eR 0), some (eI s), some (eI (v + 1))] [] ([eA 0 964 g, mO P, eA 0 144 mk2, eA 0 24 (cF (cr a) fr (k + 1))], c) = R) → ∀ p : Nat, p ≤ a 2 → ∀ s y : Int, s = bI (b0 || decide (frW a k p ≠ op a k)) → y = (p : Int) → ev m_M_dropUnsupported 32 [some (eR 1), some (eR 0), some (eI s), some (eI v), some (eI y)] [] ([eA 0 964 g, mO P, eA 0 144 mk2, eA 0 24 (eUp (cF (cr a) fr k) k (frW a k p : Int))], c) = R := by
    intro k v b0 hk hv R hR
    have hOk := hO k hk
    refine loop_up ?_ ?_
    · intro s y hs hy
      rw [frW_end (fun w hw => (hOk.2 w hw).1)] at hs ⊢
      rw [cF_step]
      refine xLd (N := 4) (n := 964) (i := 2) (F := fun zq => ev m_M_dropUnsupported 37 [some (eR 1), some (eR 0), some (eI s), some (eI v), some (eI y)] [eI (g zq), eI y] ([eA 0 964 g, mO P, eA 0 144 mk2, eA 0 24 (cF (cr a) fr (k + 1))], c)) (k := 2) rfl (show wr 2 = ((2 : Nat) : Int) by decide) (by omega) ?_
      refine xLtF (N := 1) (x := y) (y := g 2) (A := ev m_M_dropUnsupported 40 [some (eR 1), some (eR 0), some (eI s), some (eI v), some (eI y)] [] ([eA 0 964 g, mO P, eA 0 144 mk2, eA 0 24 (cF (cr a) fr (k + 1))], c)) (B := ev m_M_dropUnsupported 84 [some (eR 1), some (eR 0), some (eI s), some (eI v), some (eI y)] [] ([eA 0 964 g, mO P, eA 0 144 mk2, eA 0 24 (cF (cr a) fr (k + 1))], c)) rfl (wr_id (by omega) (by omega)) (wr_id (by omega) (by omega)) (by omega) ?_
      refine xSeg (N := 2) (r := ev m_M_dropUnsupported 9 [some (eR 1), some (eR 0), some (eI s), some (eI (v + 1)), some (eI y)] [] ([eA 0 964 g, mO P, eA 0 144 mk2, eA 0 24 (cF (cr a) fr (k + 1))], c)) rfl ?_
      refine xTk 4 (by rfl) rfl ?_
      exact hR s y hs
    · intro p hp ih s y hs hy
      have hw2 : 2 ^ p < 1073741824 := Nat.pow_lt_pow_right (n := 30) (by decide) (by omega)
      have hfl : frW a k p < 1073741824 := mkM_30
      have hhw := rowRd (V := [eA 0 964 g, mO P, eA 0 144 mk2, eA 0 24 (eUp (cF (cr a) fr k) k (frW a k p : Int))]) (p := 0) (d := c) (n_hasWord (c := (0, 0)) hg hv hy (by omega) hOk.1 (by omega)) rfl rfl
      generalize hFF : (frW a k p : Int) = FF at hhw
      have hat : eUp (cF (cr a) fr k) k FF k = FF := eUp_at
      refine xLd (N := 4) (n := 964) (i := 2) (F := fun zq => ev m_M_dropUnsupported 37 [some (eR 1), some (eR 0), some (eI s), some (eI v), some (eI y)] [eI (g zq), eI y] ([eA 0 964 g, mO P, eA 0 144 mk2, eA 0 24 (eUp (cF (cr a) fr k) k FF)], c)) (k := 2) rfl (show wr 2 = ((2 : Nat) : Int) by decide) (by omega) ?_
      refine xLtT (N := 1) (x := y) (y := g 2) (A := ev m_M_dropUnsupported 40 [some (eR 1), some (eR 0), some (eI s), some (eI v), some (eI y)] [] ([eA 0 964 g, mO P, eA 0 144 mk2, eA 0 24 (eUp (cF (cr a) fr k) k FF)], c)) (B := ev m_M_dropUnsupported 84 [some (eR 1), some (eR 0), some (eI s), some (eI v), some (eI y)] [] ([eA 0 964 g, mO P, eA 0 144 mk2, eA 0 24 (eUp (cF (cr a) fr k) k FF)], c)) rfl (wr_id (by omega) (by omega)) (wr_id (by omega) (by omega)) (by omega) ?_
      refine xCallI (N := 4) (v := bI ((op a k).testBit p)) (M2 := m_M_dropUnsupported) (pc2 := 44) (ls2 := [some (eR 1), some (eR 0), some (eI s), some (eI v), some (eI y)]) (st2 := []) (y := m_M_hasWord) (as := [some (eR 0), some (eI v), some (eI y)]) (w2 := ([eA 0 964 g, mO P, eA 0 144 mk2, eA 0 24 (eUp (cF (cr a) fr k) k FF)], c)) rfl hhw (fun r44 hr44 => ?_)
      have hq := bI_1 hr44
      refine xEq (N := 1) (x := r44) (y := 0) (A := ev m_M_dropUnsupported 78 [some (eR 1), some (eR 0), some (eI s), some (eI v), some (eI y)] [] ([eA 0 964 g, mO P, eA 0 144 mk2, eA 0 24 (eUp (cF (cr a) fr k) k FF)], c)) (B := ev m_M_dropUnsupported 50 [some (eR 1), some (eR 0), some (eI s), some (eI v), some (eI y)] [] ([eA 0 964 g, mO P, eA 0 144 mk2, eA 0 24 (eUp (cF (cr a) fr k) k FF)], c)) rfl (wr_id (by omega) (by omega)) (show wr 0 = 0 by decide) (fun h47 => ?_) (fun h47 => ?_)
      · refine xSeg (N := 2) (r := ev m_M_dropUnsupported 32 [some (eR 1), some (eR 0), some (eI s), some (eI v), some (eI (y + 1))] [] ([eA 0 964 g, mO P, eA 0 144 mk2, eA 0 24 (eUp (cF (cr a) fr k) k FF)], c)) rfl ?_
        first | (rw [eUp_eUp, hu]; exact ih _ _ (bT (by rw [decide_eq_true (frW_drop (by omega) (hq.2.1.mp (by omega)) (hq2.2.2.mp (by omega))).2, Bool.or_true])) (by omega)) | (rw [← hFF, ← frW_keep (Or.inl (hq.2.2.mp (by omega)))]; exact ih _ _ (by rw [frW_keep (Or.inl (hq.2.2.mp (by omega)))]; exact hs) (by omega)) | (rw [← hFF, ← frW_keep (Or.inr (hq2.2.1.mp (by omega)))]; exact ih _ _ (by rw [frW_keep (Or.inr (hq2.2.1.mp (by omega)))]; exact hs) (by omega))
      · obtain ⟨hw1, hw3⟩ := hOk.2 p (hq.2.1.mp (by omega))
        refine xCallWI (N := 5) (v := bI (sup a k p)) (M2 := m_M_dropUnsupported) (pc2 := 55) (ls2 := [some (eR 1), some (eR 0), some (eI s), some (eI v), some (eI y)]) (st2 := []) (y := m_M_isSupported) (as := [some (eR 1), some (eR 0), some (eI v), some (eI y)]) (w2 := ([eA 0 964 g, mO P, eA 0 144 mk2, eA 0 24 (eUp (cF (cr a) fr k) k FF)], c)) rfl (n_isSupported hg hG hV hO hmk hv hy hk hw1 hw3) (fun r55 hr55 => ?_)
        have hq2 := bI_1 hr55
        refine xEq (N := 1) (x := r55) (y := 0) (A := ev m_M_dropUnsupported 61 [some (eR 1), some (eR 0), some (eI s), some (eI v), some (eI y)] [] ([eA 0 964 g, mO P, eA 0 144 mk2, eA 0 24 (eUp (cF (cr a) fr k) k FF)], c)) (B := ev m_M_dropUnsupported 78 [some (eR 1), some (eR 0), some (eI s), some (eI v), some (eI y)] [] ([eA 0 964 g, mO P, eA 0 144 mk2, eA 0 24 (eUp (cF (cr a) fr k) k FF)], c)) rfl (wr_id (by omega) (by omega)) (show wr 0 = 0 by decide) (fun h58 => ?_) (fun h58 => ?_)
        · refine xLd (N := 5) (n := 24) (i := v) (F := fun zq => ev m_M_dropUnsupported 68 [some (eR 1), some (eR 0), some (eI s), some (eI v), some (eI y)] [eI ((eUp (cF (cr a) fr k) k FF) zq), eI v, eR 3] ([eA 0 964 g, mO P, eA 0 144 mk2, eA 0 24 (eUp (cF (cr a) fr k) k FF)], c)) (k := k) rfl (wr_nat (by omega) (by omega)) (by omega) ?_
          refine xTop (N := 6) (pc2 := 75) (ls2 := [some (eR 1), some (eR 0), some (eI s), some (eI v), some (eI y)]) (a := bAnd ((eUp (cF (cr a) fr k) k FF) k) (bXor (bShl 1 y) (-1))) (b := (frW a k (p + 1) : Int)) (st2 := [eI v, eR 3]) (w2 := ([eA 0 964 g, mO P, eA 0 144 mk2, eA 0 24 (eUp (cF (cr a) fr k) k FF)], c)) rfl (by rw [hat, ← hFF, hy, bShl1_n p (by omega), bNot_n (by omega) _ (by omega), (frW_drop (by omega) (hq.2.1.mp (by omega)) (hq2.2.2.mp (by omega))).1]) (fun u hu => ?_)
          refine xLd (N := 1) (n := 24) (i := v) (F := fun zq => ev m_M_dropUnsupported 76 [some (eR 1), some (eR 0), some (eI s), some (eI v), some (eI y)] [] ([eA 0 964 g, mO P, eA 0 144 mk2, eA 0 24 (eUp (eUp (cF (cr a) fr k) k FF) zq u)], c)) (k := k) rfl (wr_nat (by omega) (by omega)) (by omega) ?_
          refine xSeg (N := 4) (r := ev m_M_dropUnsupported 32 [some (eR 1), some (eR 0), some (eI 1), some (eI v), some (eI (y + 1))] [] ([eA 0 964 g, mO P, eA 0 144 mk2, eA 0 24 (eUp (eUp (cF (cr a) fr k) k FF) k u)], c)) rfl ?_
          first | (rw [eUp_eUp, hu]; exact ih _ _ (bT (by rw [decide_eq_true (frW_drop (by omega) (hq.2.1.mp (by omega)) (hq2.2.2.mp (by omega))).2, Bool.or_true])) (by omega)) | (rw [← hFF, ← frW_keep (Or.inl (hq.2.2.mp (by omega)))]; exact ih _ _ (by rw [frW_keep (Or.inl (hq.2.2.mp (by omega)))]; exact hs) (by omega)) | (rw [← hFF, ← frW_keep (Or.inr (hq2.2.1.mp (by omega)))]; exact ih _ _ (by rw [frW_keep (Or.inr (hq2.2.1.mp (by omega)))]; exact hs) (by omega))
        · refine xSeg (N := 2) (r := ev m_M_dropUnsupported 32 [some (eR 1), some (eR 0), some (eI s), some (eI v), some (eI (y + 1))] [] ([eA 0 964 g, mO P, eA 0 144 mk2, eA 0 24 (eUp (cF (cr a) fr k) k FF)], c)) rfl ?_
          first | (rw [eUp_eUp, hu]; exact ih _ _ (bT (by rw [decide_eq_true (frW_drop (by omega) (hq.2.1.mp (by omega)) (hq2.2.2.mp (by omega))).2, Bool.or_true])) (by omega)) | (rw [← hFF, ← frW_keep (Or.inl (hq.2.2.mp (by omega)))]; exact ih _ _ (by rw [frW_keep (Or.inl (hq.2.2.mp (by omega)))]; exact hs) (by omega)) | (rw [← hFF, ← frW_keep (Or.inr (hq2.2.1.mp (by omega)))]; exact ih _ _ (by rw [frW_keep (Or.inr (hq2.2.1.mp (by omega)))]; exact hs) (by omega))
  -- the copy
  have hl2 : ∀ s : Int, s = bI (anyN (fun k => decide (cr a k ≠ op a k)) (a 3)) → ∀ k : Nat, k ≤ a 3 → ∀ v : Int, v = (k : Int) → ev m_M_dropUnsupported 92 [some (eR 1), some (eR 0), some (eI s), some (eI v)] [] ([eA 0 964 (oF (cr a) g k), mO P, eA 0 144 mk2, eA 0 24 (cF (cr a) fr (a 3))], c) = some (.inl (some (eI (bI (anyN (fun k => decide (cr a k ≠ op a k)) (a 3))))), ([eA 0 964 (oF (cr a) g (a 3)), mO P, eA 0 144 mk2, eA 0 24 (cF (cr a) fr (a 3))], c)) := by
    intro s hs
    have hb := bI_1 hs
    refine loop_up ?_ ?_
    · intro v hv
      have e3' : oF (cr a) g (a 3) 3 = (a 3 : Int) := by rw [oF_lo (by omega), e3]
      refine xLd (N := 4) (n := 964) (i := 3) (F := fun zq => ev m_M_dropUnsupported 96 [some (eR 1), some (eR 0), some (eI s), some (eI v)] [eI ((oF (cr a) g (a 3)) zq), eI v] ([eA 0 964 (oF (cr a) g (a 3)), mO P, eA 0 144 mk2, eA 0 24 (cF (cr a) fr (a 3))], c)) (k := 3) rfl (show wr 3 = ((3 : Nat) : Int) by decide) (by omega) ?_
      refine xLtF (N := 1) (x := v) (y := (oF (cr a) g (a 3)) 3) (A := ev m_M_dropUnsupported 99 [some (eR 1), some (eR 0), some (eI s), some (eI v)] [] ([eA 0 964 (oF (cr a) g (a 3)), mO P, eA 0 144 mk2, eA 0 24 (cF (cr a) fr (a 3))], c)) (B := ev m_M_dropUnsupported 118 [some (eR 1), some (eR 0), some (eI s), some (eI v)] [] ([eA 0 964 (oF (cr a) g (a 3)), mO P, eA 0 144 mk2, eA 0 24 (cF (cr a) fr (a 3))], c)) rfl (wr_id (by omega) (by omega)) (wr_id (by omega) (by omega)) (by omega) ?_
      refine xRb (N := 2) (v := s) (w2 := ([eA 0 964 (oF (cr a) g (a 3)), mO P, eA 0 144 mk2, eA 0 24 (cF (cr a) fr (a 3))], c)) rfl (by have h9 := hb.1; rw [wr_id (by omega) (by omega)]; omega) ?_
      rw [hs]
    · intro k hk ih v hv
      have e3' : oF (cr a) g k 3 = (a 3 : Int) := by rw [oF_lo (by omega), e3]
      have hck : cF (cr a) fr (a 3) k = (cr a k : Int) := cF_lt hk
      refine xLd (N := 4) (n := 964) (i := 3) (F := fun zq => ev m_M_dropUnsupported 96 [some (eR 1), some (eR 0), some (eI s), some (eI v)] [eI ((oF (cr a) g k) zq), eI v] ([eA 0 964 (oF (cr a) g k), mO P, eA 0 144 mk2, eA 0 24 (cF (cr a) fr (a 3))], c)) (k := 3) rfl (show wr 3 = ((3 : Nat) : Int) by decide) (by omega) ?_
      refine xLtT (N := 1) (x := v) (y := (oF (cr a) g k) 3) (A := ev m_M_dropUnsupported 99 [some (eR 1), some (eR 0), some (eI s), some (eI v)] [] ([eA 0 964 (oF (cr a) g k), mO P, eA 0 144 mk2, eA 0 24 (cF (cr a) fr (a 3))], c)) (B := ev m_M_dropUnsupported 118 [some (eR 1), some (eR 0), some (eI s), some (eI v)] [] ([eA 0 964 (oF (cr a) g k), mO P, eA 0 144 mk2, eA 0 24 (cF (cr a) fr (a 3))], c)) rfl (wr_id (by omega) (by omega)) (wr_id (by omega) (by omega)) (by omega) ?_
      refine xLd (N := 8) (n := 24) (i := v) (F := fun zq => ev m_M_dropUnsupported 111 [some (eR 1), some (eR 0), some (eI s), some (eI v)] [eI ((cF (cr a) fr (a 3)) zq), eI (316 + v), eR 0] ([eA 0 964 (oF (cr a) g k), mO P, eA 0 144 mk2, eA 0 24 (cF (cr a) fr (a 3))], c)) (k := k) rfl (wr_nat (by omega) (by omega)) (by omega) ?_
      refine xLd (N := 1) (n := 964) (i := 316 + v) (F := fun zq => ev m_M_dropUnsupported 112 [some (eR 1), some (eR 0), some (eI s), some (eI v)] [] ([eA 0 964 (eUp (oF (cr a) g k) zq ((cF (cr a) fr (a 3)) k)), mO P, eA 0 144 mk2, eA 0 24 (cF (cr a) fr (a 3))], c)) (k := 316 + k) rfl (wr_nat (by omega) (by omega)) (by omega) ?_
      refine xSeg (N := 2) (r := ev m_M_dropUnsupported 92 [some (eR 1), some (eR 0), some (eI s), some (eI (v + 1))] [] ([eA 0 964 (eUp (oF (cr a) g k) (316 + k) ((cF (cr a) fr (a 3)) k)), mO P, eA 0 144 mk2, eA 0 24 (cF (cr a) fr (a 3))], c)) rfl ?_
      rw [hck, oF_step]
      exact ih _ (by omega)
  have hl : ∀ k : Nat, k ≤ a 3 → ∀ s v : Int, s = bI (anyN (fun k => decide (cr a k ≠ op a k)) k) → v = ((k : Nat) : Int) → ev m_M_dropUnsupported 9 [some (eR 1), some (eR 0), some (eI s), some (eI v)] [] ([eA 0 964 g, mO P, eA 0 144 mk2, eA 0 24 (cF (cr a) fr k)], c) = some (.inl (some (eI (bI (anyN (fun k => decide (cr a k ≠ op a k)) (a 3))))), ([eA 0 964 (oF (cr a) g (a 3)), mO P, eA 0 144 mk2, eA 0 24 (cF (cr a) fr (a 3))], c)) := by
    refine loop_up ?_ ?_
    · intro s v hs hv
      refine xLd (N := 4) (n := 964) (i := 3) (F := fun zq => ev m_M_dropUnsupported 13 [some (eR 1), some (eR 0), some (eI s), some (eI v)] [eI (g zq), eI v] ([eA 0 964 g, mO P, eA 0 144 mk2, eA 0 24 (cF (cr a) fr (a 3))], c)) (k := 3) rfl (show wr 3 = ((3 : Nat) : Int) by decide) (by omega) ?_
      refine xLtF (N := 1) (x := v) (y := g 3) (A := ev m_M_dropUnsupported 16 [some (eR 1), some (eR 0), some (eI s), some (eI v)] [] ([eA 0 964 g, mO P, eA 0 144 mk2, eA 0 24 (cF (cr a) fr (a 3))], c)) (B := ev m_M_dropUnsupported 90 [some (eR 1), some (eR 0), some (eI s), some (eI v)] [] ([eA 0 964 g, mO P, eA 0 144 mk2, eA 0 24 (cF (cr a) fr (a 3))], c)) rfl (wr_id (by omega) (by omega)) (wr_id (by omega) (by omega)) (by omega) ?_
      refine xSeg (N := 2) (r := ev m_M_dropUnsupported 92 [some (eR 1), some (eR 0), some (eI s), some (eI 0)] [] ([eA 0 964 g, mO P, eA 0 144 mk2, eA 0 24 (cF (cr a) fr (a 3))], c)) rfl ?_
      rw [show ([eA 0 964 g, mO P, eA 0 144 mk2, eA 0 24 (cF (cr a) fr (a 3))] : List eC) = [eA 0 964 (oF (cr a) g 0), mO P, eA 0 144 mk2, eA 0 24 (cF (cr a) fr (a 3))] by rw [oF_0]]
      exact hl2 s hs 0 (Nat.zero_le _) _ rfl
    · intro k hk ih s v hs hv
      have e4 : g (316 + k) = ((frW a k 0 : Nat) : Int) := by rw [frW_0 (hO k hk).1]; exact hg (316 + k) (by omega)
      refine xLd (N := 4) (n := 964) (i := 3) (F := fun zq => ev m_M_dropUnsupported 13 [some (eR 1), some (eR 0), some (eI s), some (eI v)] [eI (g zq), eI v] ([eA 0 964 g, mO P, eA 0 144 mk2, eA 0 24 (cF (cr a) fr k)], c)) (k := 3) rfl (show wr 3 = ((3 : Nat) : Int) by decide) (by omega) ?_
      refine xLtT (N := 1) (x := v) (y := g 3) (A := ev m_M_dropUnsupported 16 [some (eR 1), some (eR 0), some (eI s), some (eI v)] [] ([eA 0 964 g, mO P, eA 0 144 mk2, eA 0 24 (cF (cr a) fr k)], c)) (B := ev m_M_dropUnsupported 90 [some (eR 1), some (eR 0), some (eI s), some (eI v)] [] ([eA 0 964 g, mO P, eA 0 144 mk2, eA 0 24 (cF (cr a) fr k)], c)) rfl (wr_id (by omega) (by omega)) (wr_id (by omega) (by omega)) (by omega) ?_
      refine xLd (N := 8) (n := 964) (i := 316 + v) (F := fun zq => ev m_M_dropUnsupported 28 [some (eR 1), some (eR 0), some (eI s), some (eI v)] [eI (g zq), eI v, eR 3] ([eA 0 964 g, mO P, eA 0 144 mk2, eA 0 24 (cF (cr a) fr k)], c)) (k := 316 + k) rfl (wr_nat (by omega) (by omega)) (by omega) ?_
      refine xLd (N := 1) (n := 24) (i := v) (F := fun zq => ev m_M_dropUnsupported 29 [some (eR 1), some (eR 0), some (eI s), some (eI v)] [] ([eA 0 964 g, mO P, eA 0 144 mk2, eA 0 24 (eUp (cF (cr a) fr k) zq (g (316 + k)))], c)) (k := k) rfl (wr_nat (by omega) (by omega)) (by omega) ?_
      refine xSeg (N := 2) (r := ev m_M_dropUnsupported 32 [some (eR 1), some (eR 0), some (eI s), some (eI v), some (eI 0)] [] ([eA 0 964 g, mO P, eA 0 144 mk2, eA 0 24 (eUp (cF (cr a) fr k) k (g (316 + k)))], c)) rfl ?_
      rw [e4]
      exact hi k v _ hk hv _ (fun s2 y2 h2 => ih _ _ h2 (by omega)) 0 (Nat.zero_le _) _ _ (by rw [frW_0 (hO k hk).1, decide_eq_false (by omega), Bool.or_false]; exact hs) rfl
  have h0 := hl 0 (Nat.zero_le _) 0 0 rfl rfl
  rw [cF_0] at h0
  refine xCallWV (N := 5) (M2 := m_M_dropUnsupported) (pc2 := 4) (ls2 := [some (eR 1), some (eR 0), some (eI 0)]) (st2 := []) (y := m_M_findMasks) (as := [some (eR 1), some (eR 0)]) (w2 := ([eA 0 964 g, mO P, eA 0 144 mk, eA 0 24 fr], c)) rfl hfm ?_
  refine xSeg (N := 2) (r := ev m_M_dropUnsupported 9 [some (eR 1), some (eR 0), some (eI 0), some (eI 0)] [] ([eA 0 964 g, mO P, eA 0 144 mk2, eA 0 24 fr], c)) rfl ?_
  exact h0
def gnN (o : Nat → Nat) (k : Nat) : Nat → Nat
  | 0 => 0
  | j + 1 => bif decide (j ≠ k) && sg1 o j then gnN o k j ||| o j else gnN o k j
theorem gnN_tb {o : Nat → Nat} {k w : Nat} : ∀ {n : Nat}, (gnN o k n).testBit w = anyN (fun j => decide (j ≠ k) && (sg1 o j && (o j).testBit w)) n
  | 0 => by simp [gnN, anyN]
  | n + 1 => by
    show (bif decide (n ≠ k) && sg1 o n then gnN o k n ||| o n else gnN o k n).testBit w = (anyN (fun j => decide (j ≠ k) && (sg1 o j && (o j).testBit w)) n || (decide (n ≠ k) && (sg1 o n && (o n).testBit w)))
    cases h : (decide (n ≠ k) && sg1 o n) with
    | true => rw [cond_true, Nat.testBit_or, gnN_tb, ← Bool.and_assoc (decide (n ≠ k)), h, Bool.true_and]
    | false => rw [cond_false, gnN_tb, ← Bool.and_assoc (decide (n ≠ k)), h, Bool.false_and, Bool.or_false]
theorem gnN_lt {o : Nat → Nat} {k : Nat} : ∀ {n : Nat}, (∀ j, j < n → o j < 1073741824) → gnN o k n < 1073741824
  | 0, _ => by show 0 < 1073741824; omega
  | n + 1, h => by
    have h1 := gnN_lt (o := o) (k := k) (n := n) (fun j hj => h j (by omega))
    have h2 : gnN o k n ||| o n < 1073741824 := Nat.or_lt_two_pow (n := 30) h1 (h n (by omega))
    show (bif decide (n ≠ k) && sg1 o n then gnN o k n ||| o n else gnN o k n) < _
    cases (decide (n ≠ k) && sg1 o n)
    · exact h1
    · exact h2
theorem gn_sg {o : Nat → Nat} {n k : Nat} (hk : k < n) (ho : ∀ k, k < n → o k < 1073741824) : nDiff (o k) (gnN o k n) = sgR n o k := by
  have h0 := ho k hk
  refine eqb (Nat.lt_of_le_of_lt Nat.and_le_left h0) mkM_30 (fun w hw => ?_)
  rw [nDiff_tb _ _ _ (by omega), gnN_tb]
  unfold sgR
  rw [mkM_tb, decide_eq_true hw, Bool.true_and]
theorem bOr_1 {s : Int} {b : Bool} (h : s = bI b) : bOr s 1 = bI (b || true) := by rw [h]; cases b <;> decide
theorem bOr_0 {s : Int} {b : Bool} (h : s = bI b) : bOr s 0 = bI (b || false) := by rw [h]; cases b <;> decide
def sg (a : eRow) (k : Nat) : Nat := sgR (a 3) (op a) k
theorem n_dropDoubles {g mk fr P : Nat → Int} {a : eRow} {c : Nat × Nat} (hg : rg g a) (hn : a 3 ≤ 24) (hO : ∀ k, k < a 3 → op a k < 1073741824) : ev m_M_dropDoubles 0 [some (eR 1), some (eR 0)] [] ([eA 0 964 g, mO P, eA 0 144 mk, eA 0 24 fr], c) = some (.inl (some (eI (bI (anyN (fun k => decide (sg a k ≠ op a k)) (a 3))))), ([eA 0 964 (oF (sg a) g (a 3)), mO P, eA 0 144 mk, eA 0 24 (cF (sg a) fr (a 3))], c)) := by
  have e3 := hg 3 (by omega)
  have hsg : ∀ k, k < a 3 → nDiff (op a k) (gnN (op a) k (a 3)) = sg a k := fun k hk => gn_sg hk hO
  have hi : ∀ (k : Nat) (v z : Int), k < a 3 → v = (k : Int) → ∀ R : eRes, (∀ q y : Int, ev m_M_dropDoubles 4 [some (eR 1), some (eR 0), some (eI z), some (eI (v + 1))] [] ([eA 0 964 g, mO P, eA 0 144 mk, eA 0 24 (cF (sg a) fr (k + 1))], c) = R) → ∀ p : Nat, p ≤ a 3 → ∀ s y : Int, s = ((gnN (op a) k p : Nat) : Int) → y = (p : Int) → ev m_M_dropDoubles 17 [some (eR 1), some (eR 0), some (eI z), some (eI v), some (eI s), some (eI y)] [] ([eA 0 964 g, mO P, eA 0 144 mk, eA 0 24 (cF (sg a) fr k)], c) = R := by
    intro k v z hk hv R hR
    have hok := hO k hk
    have e4 : g (316 + k) = (op a k : Int) := hg (316 + k) (by omega)
    refine loop_up ?_ ?_
    · intro s y hs hy
      have hgl := gnN_lt (o := op a) (k := k) (n := a 3) hO
      refine xLd (N := 4) (n := 964) (i := 3) (F := fun zq => ev m_M_dropDoubles 22 [some (eR 1), some (eR 0), some (eI z), some (eI v), some (eI s), some (eI y)] [eI (g zq), eI y] ([eA 0 964 g, mO P, eA 0 144 mk, eA 0 24 (cF (sg a) fr k)], c)) (k := 3) rfl (show wr 3 = ((3 : Nat) : Int) by decide) (by omega) ?_
      refine xLtF (N := 1) (x := y) (y := g 3) (A := ev m_M_dropDoubles 25 [some (eR 1), some (eR 0), some (eI z), some (eI v), some (eI s), some (eI y)] [] ([eA 0 964 g, mO P, eA 0 144 mk, eA 0 24 (cF (sg a) fr k)], c)) (B := ev m_M_dropDoubles 60 [some (eR 1), some (eR 0), some (eI z), some (eI v), some (eI s), some (eI y)] [] ([eA 0 964 g, mO P, eA 0 144 mk, eA 0 24 (cF (sg a) fr k)], c)) rfl (wr_id (by omega) (by omega)) (wr_id (by omega) (by omega)) (by omega) ?_
      refine xLd (N := 8) (n := 964) (i := 316 + v) (F := fun zq => ev m_M_dropDoubles 72 [some (eR 1), some (eR 0), some (eI z), some (eI v), some (eI s), some (eI y)] [eI (g zq), eI v, eR 3] ([eA 0 964 g, mO P, eA 0 144 mk, eA 0 24 (cF (sg a) fr k)], c)) (k := 316 + k) rfl (wr_nat (by omega) (by omega)) (by omega) ?_
      refine xTop (N := 4) (pc2 := 77) (ls2 := [some (eR 1), some (eR 0), some (eI z), some (eI v), some (eI s), some (eI y)]) (a := bAnd (g (316 + k)) (bXor s (-1))) (b := ((sg a k : Nat) : Int)) (st2 := [eI v, eR 3]) (w2 := ([eA 0 964 g, mO P, eA 0 144 mk, eA 0 24 (cF (sg a) fr k)], c)) rfl (by rw [e4, hs, bNot_n (by omega) _ (by omega), hsg k hk]) (fun u hu => ?_)
      refine xLd (N := 1) (n := 24) (i := v) (F := fun zq => ev m_M_dropDoubles 78 [some (eR 1), some (eR 0), some (eI z), some (eI v), some (eI s), some (eI y)] [] ([eA 0 964 g, mO P, eA 0 144 mk, eA 0 24 (eUp (cF (sg a) fr k) zq u)], c)) (k := k) rfl (wr_nat (by omega) (by omega)) (by omega) ?_
      refine xSeg (N := 2) (r := ev m_M_dropDoubles 4 [some (eR 1), some (eR 0), some (eI z), some (eI (v + 1)), some (eI s), some (eI y)] [] ([eA 0 964 g, mO P, eA 0 144 mk, eA 0 24 (eUp (cF (sg a) fr k) k u)], c)) rfl ?_
      refine xTk 4 (by rfl) rfl ?_
      rw [hu, cF_step]
      exact hR s y
    · intro p hp ih s y hs hy
      have hop := hO p hp
      have hgl := gnN_lt (o := op a) (k := k) (n := p) (fun j hj => hO j (by omega))
      have e5 : g (316 + p) = (op a p : Int) := hg (316 + p) (by omega)
      have hst : gnN (op a) k (p + 1) = bif decide (p ≠ k) && sg1 (op a) p then gnN (op a) k p ||| op a p else gnN (op a) k p := rfl
      have hct := rowRd (V := [eA 0 964 g, mO P, eA 0 144 mk, eA 0 24 (cF (sg a) fr k)]) (p := 0) (d := c) (n_countOf (c := (0, 0)) hg hy (by omega) hop) rfl rfl
      have hpl := pc_le 30 (op a p)
      refine xLd (N := 4) (n := 964) (i := 3) (F := fun zq => ev m_M_dropDoubles 22 [some (eR 1), some (eR 0), some (eI z), some (eI v), some (eI s), some (eI y)] [eI (g zq), eI y] ([eA 0 964 g, mO P, eA 0 144 mk, eA 0 24 (cF (sg a) fr k)], c)) (k := 3) rfl (show wr 3 = ((3 : Nat) : Int) by decide) (by omega) ?_
      refine xLtT (N := 1) (x := y) (y := g 3) (A := ev m_M_dropDoubles 25 [some (eR 1), some (eR 0), some (eI z), some (eI v), some (eI s), some (eI y)] [] ([eA 0 964 g, mO P, eA 0 144 mk, eA 0 24 (cF (sg a) fr k)], c)) (B := ev m_M_dropDoubles 60 [some (eR 1), some (eR 0), some (eI z), some (eI v), some (eI s), some (eI y)] [] ([eA 0 964 g, mO P, eA 0 144 mk, eA 0 24 (cF (sg a) fr k)], c)) rfl (wr_id (by omega) (by omega)) (wr_id (by omega) (by omega)) (by omega) ?_
      refine xEq (N := 3) (x := y) (y := v) (A := ev m_M_dropDoubles 54 [some (eR 1), some (eR 0), some (eI z), some (eI v), some (eI s), some (eI y)] [] ([eA 0 964 g, mO P, eA 0 144 mk, eA 0 24 (cF (sg a) fr k)], c)) (B := ev m_M_dropDoubles 31 [some (eR 1), some (eR 0), some (eI z), some (eI v), some (eI s), some (eI y)] [] ([eA 0 964 g, mO P, eA 0 144 mk, eA 0 24 (cF (sg a) fr k)], c)) rfl (wr_id (by omega) (by omega)) (wr_id (by omega) (by omega)) (fun h28 => ?_) (fun h28 => ?_)
      · refine xSeg (N := 2) (r := ev m_M_dropDoubles 17 [some (eR 1), some (eR 0), some (eI z), some (eI v), some (eI s), some (eI (y + 1))] [] ([eA 0 964 g, mO P, eA 0 144 mk, eA 0 24 (cF (sg a) fr k)], c)) rfl ?_
        first | exact ih _ _ (by rw [hst, decide_eq_true (show p ≠ k by omega), show sg1 (op a) p = true from decide_eq_true (by omega)]; exact hs2) (by omega) | exact ih _ _ (by rw [hst, show sg1 (op a) p = false from decide_eq_false (by omega), Bool.and_false]; exact hs) (by omega) | exact ih _ _ (by rw [hst, decide_eq_false (show ¬ p ≠ k by omega), Bool.false_and]; exact hs) (by omega)
      · refine xCallI (N := 3) (v := ((pc 30 (op a p) : Nat) : Int)) (M2 := m_M_dropDoubles) (pc2 := 34) (ls2 := [some (eR 1), some (eR 0), some (eI z), some (eI v), some (eI s), some (eI y)]) (st2 := []) (y := m_M_countOf) (as := [some (eR 0), some (eI y)]) (w2 := ([eA 0 964 g, mO P, eA 0 144 mk, eA 0 24 (cF (sg a) fr k)], c)) rfl hct (fun r34 hr34 => ?_)
        refine xEq (N := 2) (x := r34) (y := 1) (A := ev m_M_dropDoubles 41 [some (eR 1), some (eR 0), some (eI z), some (eI v), some (eI s), some (eI y)] [] ([eA 0 964 g, mO P, eA 0 144 mk, eA 0 24 (cF (sg a) fr k)], c)) (B := ev m_M_dropDoubles 54 [some (eR 1), some (eR 0), some (eI z), some (eI v), some (eI s), some (eI y)] [] ([eA 0 964 g, mO P, eA 0 144 mk, eA 0 24 (cF (sg a) fr k)], c)) rfl (wr_id (by omega) (by omega)) (show wr 1 = 1 by decide) (fun h38 => ?_) (fun h38 => ?_)
        · refine xLd (N := 6) (n := 964) (i := 316 + y) (F := fun zq => ev m_M_dropDoubles 51 [some (eR 1), some (eR 0), some (eI z), some (eI v), some (eI s), some (eI y)] [eI (g zq), eI s] ([eA 0 964 g, mO P, eA 0 144 mk, eA 0 24 (cF (sg a) fr k)], c)) (k := 316 + p) rfl (wr_nat (by omega) (by omega)) (by omega) ?_
          refine xTop (N := 1) (pc2 := 52) (ls2 := [some (eR 1), some (eR 0), some (eI z), some (eI v), some (eI s), some (eI y)]) (a := bOr s (g (316 + p))) (b := ((gnN (op a) k p ||| op a p : Nat) : Int)) (st2 := []) (w2 := ([eA 0 964 g, mO P, eA 0 144 mk, eA 0 24 (cF (sg a) fr k)], c)) rfl (by rw [hs, e5, bOr_n (by omega) (by omega)]) (fun s2 hs2 => ?_)
          refine xSeg (N := 3) (r := ev m_M_dropDoubles 17 [some (eR 1), some (eR 0), some (eI z), some (eI v), some (eI s2), some (eI (y + 1))] [] ([eA 0 964 g, mO P, eA 0 144 mk, eA 0 24 (cF (sg a) fr k)], c)) rfl ?_
          first | exact ih _ _ (by rw [hst, decide_eq_true (show p ≠ k by omega), show sg1 (op a) p = true from decide_eq_true (by omega)]; exact hs2) (by omega) | exact ih _ _ (by rw [hst, show sg1 (op a) p = false from decide_eq_false (by omega), Bool.and_false]; exact hs) (by omega) | exact ih _ _ (by rw [hst, decide_eq_false (show ¬ p ≠ k by omega), Bool.false_and]; exact hs) (by omega)
        · refine xSeg (N := 2) (r := ev m_M_dropDoubles 17 [some (eR 1), some (eR 0), some (eI z), some (eI v), some (eI s), some (eI (y + 1))] [] ([eA 0 964 g, mO P, eA 0 144 mk, eA 0 24 (cF (sg a) fr k)], c)) rfl ?_
          first | exact ih _ _ (by rw [hst, decide_eq_true (show p ≠ k by omega), show sg1 (op a) p = true from decide_eq_true (by omega)]; exact hs2) (by omega) | exact ih _ _ (by rw [hst, show sg1 (op a) p = false from decide_eq_false (by omega), Bool.and_false]; exact hs) (by omega) | exact ih _ _ (by rw [hst, decide_eq_false (show ¬ p ≠ k by omega), Bool.false_and]; exact hs) (by omega)
  have hl2 : ∀ k : Nat, k ≤ a 3 → ∀ s v : Int, s = bI (anyN (fun k => decide (sg a k ≠ op a k)) k) → v = (k : Int) → ev m_M_dropDoubles 86 [some (eR 1), some (eR 0), some (eI s), some (eI v)] [] ([eA 0 964 (oF (sg a) g k), mO P, eA 0 144 mk, eA 0 24 (cF (sg a) fr (a 3))], c) = some (.inl (some (eI (bI (anyN (fun k => decide (sg a k ≠ op a k)) (a 3))))), ([eA 0 964 (oF (sg a) g (a 3)), mO P, eA 0 144 mk, eA 0 24 (cF (sg a) fr (a 3))], c)) := by
    refine loop_up ?_ ?_
    · intro s v hs hv
      have hb := bI_1 hs
      have e3' : oF (sg a) g (a 3) 3 = (a 3 : Int) := by rw [oF_lo (by omega), e3]
      refine xLd (N := 4) (n := 964) (i := 3) (F := fun zq => ev m_M_dropDoubles 90 [some (eR 1), some (eR 0), some (eI s), some (eI v)] [eI ((oF (sg a) g (a 3)) zq), eI v] ([eA 0 964 (oF (sg a) g (a 3)), mO P, eA 0 144 mk, eA 0 24 (cF (sg a) fr (a 3))], c)) (k := 3) rfl (show wr 3 = ((3 : Nat) : Int) by decide) (by omega) ?_
      refine xLtF (N := 1) (x := v) (y := (oF (sg a) g (a 3)) 3) (A := ev m_M_dropDoubles 93 [some (eR 1), some (eR 0), some (eI s), some (eI v)] [] ([eA 0 964 (oF (sg a) g (a 3)), mO P, eA 0 144 mk, eA 0 24 (cF (sg a) fr (a 3))], c)) (B := ev m_M_dropDoubles 136 [some (eR 1), some (eR 0), some (eI s), some (eI v)] [] ([eA 0 964 (oF (sg a) g (a 3)), mO P, eA 0 144 mk, eA 0 24 (cF (sg a) fr (a 3))], c)) rfl (wr_id (by omega) (by omega)) (wr_id (by omega) (by omega)) (by omega) ?_
      refine xRb (N := 2) (v := s) (w2 := ([eA 0 964 (oF (sg a) g (a 3)), mO P, eA 0 144 mk, eA 0 24 (cF (sg a) fr (a 3))], c)) rfl (by have h9 := hb.1; rw [wr_id (by omega) (by omega)]; omega) ?_
      rw [hs]
    · intro k hk ih s v hs hv
      have e3' : oF (sg a) g k 3 = (a 3 : Int) := by rw [oF_lo (by omega), e3]
      have e4' : oF (sg a) g k (316 + k) = (op a k : Int) := by rw [oF_ge (Nat.le_refl _)]; exact hg (316 + k) (by omega)
      have hok := hO k hk
      have hsk : sg a k < 1073741824 := mkM_30
      have hck : cF (sg a) fr (a 3) k = (sg a k : Int) := cF_lt hk
      refine xLd (N := 4) (n := 964) (i := 3) (F := fun zq => ev m_M_dropDoubles 90 [some (eR 1), some (eR 0), some (eI s), some (eI v)] [eI ((oF (sg a) g k) zq), eI v] ([eA 0 964 (oF (sg a) g k), mO P, eA 0 144 mk, eA 0 24 (cF (sg a) fr (a 3))], c)) (k := 3) rfl (show wr 3 = ((3 : Nat) : Int) by decide) (by omega) ?_
      refine xLtT (N := 1) (x := v) (y := (oF (sg a) g k) 3) (A := ev m_M_dropDoubles 93 [some (eR 1), some (eR 0), some (eI s), some (eI v)] [] ([eA 0 964 (oF (sg a) g k), mO P, eA 0 144 mk, eA 0 24 (cF (sg a) fr (a 3))], c)) (B := ev m_M_dropDoubles 136 [some (eR 1), some (eR 0), some (eI s), some (eI v)] [] ([eA 0 964 (oF (sg a) g k), mO P, eA 0 144 mk, eA 0 24 (cF (sg a) fr (a 3))], c)) rfl (wr_id (by omega) (by omega)) (wr_id (by omega) (by omega)) (by omega) ?_
      refine xLd (N := 6) (n := 964) (i := 316 + v) (F := fun zq => ev m_M_dropDoubles 101 [some (eR 1), some (eR 0), some (eI s), some (eI v)] [eI ((oF (sg a) g k) zq), eI s] ([eA 0 964 (oF (sg a) g k), mO P, eA 0 144 mk, eA 0 24 (cF (sg a) fr (a 3))], c)) (k := 316 + k) rfl (wr_nat (by omega) (by omega)) (by omega) ?_
      refine xLd (N := 4) (n := 24) (i := v) (F := fun zq => ev m_M_dropDoubles 107 [some (eR 1), some (eR 0), some (eI s), some (eI v)] [eI ((cF (sg a) fr (a 3)) zq), eI ((oF (sg a) g k) (316 + k)), eI s] ([eA 0 964 (oF (sg a) g k), mO P, eA 0 144 mk, eA 0 24 (cF (sg a) fr (a 3))], c)) (k := k) rfl (wr_nat (by omega) (by omega)) (by omega) ?_
      refine xEq (N := 1) (x := (oF (sg a) g k) (316 + k)) (y := (cF (sg a) fr (a 3)) k) (A := ev m_M_dropDoubles 114 [some (eR 1), some (eR 0), some (eI s), some (eI v)] [eI s] ([eA 0 964 (oF (sg a) g k), mO P, eA 0 144 mk, eA 0 24 (cF (sg a) fr (a 3))], c)) (B := ev m_M_dropDoubles 110 [some (eR 1), some (eR 0), some (eI s), some (eI v)] [eI s] ([eA 0 964 (oF (sg a) g k), mO P, eA 0 144 mk, eA 0 24 (cF (sg a) fr (a 3))], c)) rfl (wr_id (by omega) (by omega)) (wr_id (by omega) (by omega)) (fun h107 => ?_) (fun h107 => ?_)
      · refine xLd (N := 11) (n := 24) (i := v) (F := fun zq => ev m_M_dropDoubles 129 [some (eR 1), some (eR 0), some (eI (bOr s 0)), some (eI v)] [eI ((cF (sg a) fr (a 3)) zq), eI (316 + v), eR 0] ([eA 0 964 (oF (sg a) g k), mO P, eA 0 144 mk, eA 0 24 (cF (sg a) fr (a 3))], c)) (k := k) rfl (wr_nat (by omega) (by omega)) (by omega) ?_
        refine xLd (N := 1) (n := 964) (i := 316 + v) (F := fun zq => ev m_M_dropDoubles 130 [some (eR 1), some (eR 0), some (eI (bOr s 0)), some (eI v)] [] ([eA 0 964 (eUp (oF (sg a) g k) zq ((cF (sg a) fr (a 3)) k)), mO P, eA 0 144 mk, eA 0 24 (cF (sg a) fr (a 3))], c)) (k := 316 + k) rfl (wr_nat (by omega) (by omega)) (by omega) ?_
        refine xSeg (N := 2) (r := ev m_M_dropDoubles 86 [some (eR 1), some (eR 0), some (eI (bOr s 0)), some (eI (v + 1))] [] ([eA 0 964 (eUp (oF (sg a) g k) (316 + k) ((cF (sg a) fr (a 3)) k)), mO P, eA 0 144 mk, eA 0 24 (cF (sg a) fr (a 3))], c)) rfl ?_
        rw [hck, oF_step]
        first | exact ih _ _ (by rw [bOr_1 hs]; show bI (_ || true) = bI (_ || decide (sg a k ≠ op a k)); rw [decide_eq_true (show sg a k ≠ op a k by omega)]) (by omega) | exact ih _ _ (by rw [bOr_0 hs]; show bI (_ || false) = bI (_ || decide (sg a k ≠ op a k)); rw [decide_eq_false (show ¬ sg a k ≠ op a k by omega)]) (by omega)
      · refine xLd (N := 12) (n := 24) (i := v) (F := fun zq => ev m_M_dropDoubles 129 [some (eR 1), some (eR 0), some (eI (bOr s 1)), some (eI v)] [eI ((cF (sg a) fr (a 3)) zq), eI (316 + v), eR 0] ([eA 0 964 (oF (sg a) g k), mO P, eA 0 144 mk, eA 0 24 (cF (sg a) fr (a 3))], c)) (k := k) rfl (wr_nat (by omega) (by omega)) (by omega) ?_
        refine xLd (N := 1) (n := 964) (i := 316 + v) (F := fun zq => ev m_M_dropDoubles 130 [some (eR 1), some (eR 0), some (eI (bOr s 1)), some (eI v)] [] ([eA 0 964 (eUp (oF (sg a) g k) zq ((cF (sg a) fr (a 3)) k)), mO P, eA 0 144 mk, eA 0 24 (cF (sg a) fr (a 3))], c)) (k := 316 + k) rfl (wr_nat (by omega) (by omega)) (by omega) ?_
        refine xSeg (N := 2) (r := ev m_M_dropDoubles 86 [some (eR 1), some (eR 0), some (eI (bOr s 1)), some (eI (v + 1))] [] ([eA 0 964 (eUp (oF (sg a) g k) (316 + k) ((cF (sg a) fr (a 3)) k)), mO P, eA 0 144 mk, eA 0 24 (cF (sg a) fr (a 3))], c)) rfl ?_
        rw [hck, oF_step]
        first | exact ih _ _ (by rw [bOr_1 hs]; show bI (_ || true) = bI (_ || decide (sg a k ≠ op a k)); rw [decide_eq_true (show sg a k ≠ op a k by omega)]) (by omega) | exact ih _ _ (by rw [bOr_0 hs]; show bI (_ || false) = bI (_ || decide (sg a k ≠ op a k)); rw [decide_eq_false (show ¬ sg a k ≠ op a k by omega)]) (by omega)
  have hl : ∀ k : Nat, k ≤ a 3 → ∀ v : Int, v = ((k : Nat) : Int) → ev m_M_dropDoubles 4 [some (eR 1), some (eR 0), some (eI 0), some (eI v)] [] ([eA 0 964 g, mO P, eA 0 144 mk, eA 0 24 (cF (sg a) fr k)], c) = some (.inl (some (eI (bI (anyN (fun k => decide (sg a k ≠ op a k)) (a 3))))), ([eA 0 964 (oF (sg a) g (a 3)), mO P, eA 0 144 mk, eA 0 24 (cF (sg a) fr (a 3))], c)) := by
    refine loop_up ?_ ?_
    · intro v hv
      refine xLd (N := 4) (n := 964) (i := 3) (F := fun zq => ev m_M_dropDoubles 8 [some (eR 1), some (eR 0), some (eI 0), some (eI v)] [eI (g zq), eI v] ([eA 0 964 g, mO P, eA 0 144 mk, eA 0 24 (cF (sg a) fr (a 3))], c)) (k := 3) rfl (show wr 3 = ((3 : Nat) : Int) by decide) (by omega) ?_
      refine xLtF (N := 1) (x := v) (y := g 3) (A := ev m_M_dropDoubles 11 [some (eR 1), some (eR 0), some (eI 0), some (eI v)] [] ([eA 0 964 g, mO P, eA 0 144 mk, eA 0 24 (cF (sg a) fr (a 3))], c)) (B := ev m_M_dropDoubles 84 [some (eR 1), some (eR 0), some (eI 0), some (eI v)] [] ([eA 0 964 g, mO P, eA 0 144 mk, eA 0 24 (cF (sg a) fr (a 3))], c)) rfl (wr_id (by omega) (by omega)) (wr_id (by omega) (by omega)) (by omega) ?_
      refine xSeg (N := 2) (r := ev m_M_dropDoubles 86 [some (eR 1), some (eR 0), some (eI 0), some (eI 0)] [] ([eA 0 964 g, mO P, eA 0 144 mk, eA 0 24 (cF (sg a) fr (a 3))], c)) rfl ?_
      rw [show ([eA 0 964 g, mO P, eA 0 144 mk, eA 0 24 (cF (sg a) fr (a 3))] : List eC) = [eA 0 964 (oF (sg a) g 0), mO P, eA 0 144 mk, eA 0 24 (cF (sg a) fr (a 3))] by rw [oF_0]]
      exact hl2 0 (Nat.zero_le _) _ _ rfl rfl
    · intro k hk ih v hv
      refine xLd (N := 4) (n := 964) (i := 3) (F := fun zq => ev m_M_dropDoubles 8 [some (eR 1), some (eR 0), some (eI 0), some (eI v)] [eI (g zq), eI v] ([eA 0 964 g, mO P, eA 0 144 mk, eA 0 24 (cF (sg a) fr k)], c)) (k := 3) rfl (show wr 3 = ((3 : Nat) : Int) by decide) (by omega) ?_
      refine xLtT (N := 1) (x := v) (y := g 3) (A := ev m_M_dropDoubles 11 [some (eR 1), some (eR 0), some (eI 0), some (eI v)] [] ([eA 0 964 g, mO P, eA 0 144 mk, eA 0 24 (cF (sg a) fr k)], c)) (B := ev m_M_dropDoubles 84 [some (eR 1), some (eR 0), some (eI 0), some (eI v)] [] ([eA 0 964 g, mO P, eA 0 144 mk, eA 0 24 (cF (sg a) fr k)], c)) rfl (wr_id (by omega) (by omega)) (wr_id (by omega) (by omega)) (by omega) ?_
      refine xSeg (N := 4) (r := ev m_M_dropDoubles 17 [some (eR 1), some (eR 0), some (eI 0), some (eI v), some (eI 0), some (eI 0)] [] ([eA 0 964 g, mO P, eA 0 144 mk, eA 0 24 (cF (sg a) fr k)], c)) rfl ?_
      exact hi k v 0 hk hv _ (fun q y => ih _ (by omega)) 0 (Nat.zero_le _) _ _ rfl rfl
  have h0 := hl 0 (Nat.zero_le _) 0 rfl
  rw [cF_0] at h0
  refine xSeg (N := 4) (r := ev m_M_dropDoubles 4 [some (eR 1), some (eR 0), some (eI 0), some (eI 0)] [] ([eA 0 964 g, mO P, eA 0 144 mk, eA 0 24 fr], c)) rfl ?_
  exact h0
