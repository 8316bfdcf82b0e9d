/-! The model's row in numbers, and the model's questions about words and grid. -/
def rg (g : Nat → Int) (a : eRow) : Prop := ∀ i, i < 964 → g i = (a i : Int)
def sx (a : eRow) (k : Nat) : Nat := a (148 + 4 * k)
def sy (a : eRow) (k : Nat) : Nat := a (148 + 4 * k + 1)
def sl (a : eRow) (k : Nat) : Nat := a (148 + 4 * k + 2)
def sd (a : eRow) (k : Nat) : Nat := a (148 + 4 * k + 3)
/-- the cell at a place of a slot -/
def cel (a : eRow) (k p : Nat) : Nat := 6 * (sy a k + p * sd a k) + (sx a k + p * (1 - sd a k))
/-- the slot that crosses there, and one more; 0 none -/
def oth (a : eRow) (k p : Nat) : Nat := a ((if sd a k = 1 then 244 else 280) + cel a k p)
/-- the place of a cell in a slot -/
def pin (a : eRow) (j e : Nat) : Nat := if sd a j = 1 then e / 6 - sy a j else e % 6 - sx a j
def plc (a : eRow) (k p : Nat) : Nat := pin a (oth a k p - 1) (cel a k p)
def wl (a : eRow) (w : Nat) : Nat := a (118 + w)
def dgt (a : eRow) (w i : Nat) : Nat := a (88 + w) / 32 ^ (wl a w - 1 - i) % 32
def lt (a : eRow) (w i : Nat) : Nat := dgt a w i - 1
def op (a : eRow) (k : Nat) : Nat := a (316 + k)
def hlB (a : eRow) (l w : Nat) : Bool := anyN (fun i => decide (lt a w i = l)) (wl a w)
def hold (a : eRow) (l : Nat) : Nat := fb_ct (hlB a l) (a 2)
theorem hold_le (a : eRow) (l : Nat) : hold a l ≤ a 2 := fb_ct_le _ _
def pz (a : eRow) (l : Nat) : Nat := max 1 (10 - hold a l)
def wp (a : eRow) (w : Nat) : Nat := wpz (hold a) (wl a w) (lt a w)
/-- the words of a row -/
def iV (a : eRow) : Prop := a 2 ≤ 30 ∧ (∀ w, w < a 2 → 2 ≤ wl a w ∧ wl a w ≤ 6 ∧ (a (88 + w) < 1073741824 ∧ a (88 + w) < 32 ^ wl a w) ∧ ∀ i, i < wl a w → 1 ≤ dgt a w i ∧ dgt a w i ≤ 26)
theorem lt_26 {a : eRow} (h : iV a) {w i : Nat} (hw : w < a 2) (hi : i < wl a w) : lt a w i < 26 := by
  have := (h.2 w hw).2.2.2 i hi
  unfold lt
  omega
/-- the grid of a row -/
def iG (a : eRow) : Prop := (2 ≤ a 0 ∧ a 0 ≤ 6 ∧ 2 ≤ a 1 ∧ a 1 ≤ 6 ∧ a 3 ≤ 24) ∧ (∀ e, e < 36 → a (16 + e) ≤ 1 ∧ (a (52 + e) = 0 ∨ (97 ≤ a (52 + e) ∧ a (52 + e) ≤ 122)) ∧ a (244 + e) ≤ a 3 ∧ a (280 + e) ≤ a 3) ∧
  (∀ k, k < a 3 → sd a k ≤ 1 ∧ 2 ≤ sl a k ∧ sl a k ≤ 6 ∧ sx a k < 6 ∧ sy a k < 6 ∧ (sd a k = 0 → sx a k + sl a k ≤ 6) ∧ (sd a k = 1 → sy a k + sl a k ≤ 6)) ∧
  (∀ e, e < 36 → (a (244 + e) ≠ 0 → sd a (a (244 + e) - 1) = 0 ∧ e / 6 = sy a (a (244 + e) - 1) ∧ sx a (a (244 + e) - 1) ≤ e % 6 ∧ e % 6 < sx a (a (244 + e) - 1) + sl a (a (244 + e) - 1)) ∧ (a (280 + e) ≠ 0 → sd a (a (280 + e) - 1) = 1 ∧ e % 6 = sx a (a (280 + e) - 1) ∧ sy a (a (280 + e) - 1) ≤ e / 6 ∧ e / 6 < sy a (a (280 + e) - 1) + sl a (a (280 + e) - 1))) ∧
  (∀ k p, k < a 3 → p < sl a k → a ((if sd a k = 1 then 280 else 244) + cel a k p) = k + 1)
theorem sl_at {a : eRow} (h : iG a) {k : Nat} (hk : k < a 3) : sd a k ≤ 1 ∧ 2 ≤ sl a k ∧ sl a k ≤ 6 ∧ sx a k < 6 ∧ sy a k < 6 ∧ (sd a k = 0 → sx a k + sl a k ≤ 6) ∧ (sd a k = 1 → sy a k + sl a k ≤ 6) := h.2.2.1 k hk
theorem cel_0 {a : eRow} {k p : Nat} (h : sd a k = 0) : cel a k p = 6 * sy a k + (sx a k + p) := by unfold cel; rw [h, Nat.mul_zero, Nat.add_zero, Nat.sub_zero, Nat.mul_one]
theorem cel_1 {a : eRow} {k p : Nat} (h : sd a k = 1) : cel a k p = 6 * (sy a k + p) + sx a k := by unfold cel; rw [h, Nat.mul_one, Nat.sub_self, Nat.mul_zero, Nat.add_zero]
theorem cel_lt {a : eRow} (h : iG a) {k p : Nat} (hk : k < a 3) (hp : p < sl a k) : cel a k p < 36 := by
  obtain ⟨h1, h2, h3, h4, h5, h6, h7⟩ := sl_at h hk
  rcases Nat.lt_or_ge (sd a k) 1 with hd | hd
  · rw [cel_0 (by omega)]; have := h6 (by omega); omega
  · rw [cel_1 (by omega)]; have := h7 (by omega); omega
theorem oth_le {a : eRow} (h : iG a) {k p : Nat} (hk : k < a 3) (hp : p < sl a k) : oth a k p ≤ a 3 := by
  have hc := cel_lt h hk hp
  unfold oth
  split
  · exact (h.2.1 _ hc).2.2.1
  · exact (h.2.1 _ hc).2.2.2
/-- what crosses: the other slot, its place, the same cell, back again -/
theorem cross {a : eRow} (h : iG a) {k p : Nat} (hk : k < a 3) (hp : p < sl a k) (ho : oth a k p ≠ 0) : oth a k p - 1 < a 3 ∧ sd a (oth a k p - 1) + sd a k = 1 ∧ plc a k p < sl a (oth a k p - 1) ∧ cel a (oth a k p - 1) (plc a k p) = cel a k p ∧ oth a (oth a k p - 1) (plc a k p) = k + 1 ∧ (if sd a (oth a k p - 1) = 1 then sy a (oth a k p - 1) ≤ cel a k p / 6 else sx a (oth a k p - 1) ≤ cel a k p % 6) := by
  have hc := cel_lt h hk hp
  have hle := oth_le h hk hp
  obtain ⟨h1, h2, h3, h4, h5, h6, h7⟩ := sl_at h hk
  have hm := h.2.2.2.1 _ hc
  have hb := h.2.2.2.2 k p hk hp
  have hlt : oth a k p - 1 < a 3 := by omega
  rcases Nat.lt_or_ge (sd a k) 1 with hd | hd
  · -- across: the other is down
    have hd0 : sd a k = 0 := by omega
    have he : oth a k p = a (280 + cel a k p) := by unfold oth; rw [if_neg (by omega)]
    rw [← he] at hm
    obtain ⟨g1, g2, g3, g4⟩ := hm.2 ho
    rw [if_neg (by omega)] at hb
    have hpl : plc a k p = cel a k p / 6 - sy a (oth a k p - 1) := by unfold plc pin; rw [if_pos g1]
    have hce : cel a (oth a k p - 1) (plc a k p) = cel a k p := by rw [cel_1 g1, hpl]; omega
    refine ⟨hlt, by omega, by omega, hce, ?_, by rw [if_pos g1]; omega⟩
    unfold oth at hce ⊢
    rw [if_pos (by unfold oth at g1; exact g1), hce]
    exact hb
  · have hd1 : sd a k = 1 := by omega
    have he : oth a k p = a (244 + cel a k p) := by unfold oth; rw [if_pos (by omega)]
    rw [← he] at hm
    obtain ⟨g1, g2, g3, g4⟩ := hm.1 ho
    rw [if_pos (by omega)] at hb
    have hpl : plc a k p = cel a k p % 6 - sx a (oth a k p - 1) := by unfold plc pin; rw [if_neg (by omega)]
    have hce : cel a (oth a k p - 1) (plc a k p) = cel a k p := by rw [cel_0 g1, hpl]; omega
    refine ⟨hlt, by omega, by omega, hce, ?_, by rw [if_neg (by omega)]; omega⟩
    unfold oth at hce ⊢
    rw [if_neg (by unfold oth at g1; omega), hce]
    exact hb
set_option maxRecDepth 100000
theorem dig_n {x y : Int} {m j : Nat} (hx : x = (m : Int)) (hm : m < 1073741824) (hy : y = ((5 * j : Nat) : Int)) (hj : j ≤ 6) : bAnd (bShr x y) 31 = ((m / 32 ^ j % 32 : Nat) : Int) := by
  rw [hx, hy, bShr_n (by omega) (by omega), show (31 : Int) = ((31 : Nat) : Int) from rfl, bAnd_n (Nat.lt_of_le_of_lt (Nat.shiftRight_le m _) (by omega)), show (31 : Nat) = 2 ^ 5 - 1 from rfl, Nat.and_two_pow_sub_one_eq_mod, Nat.shiftRight_eq_div_pow, Nat.pow_mul]
theorem n_letter {g : Nat → Int} {a : eRow} {c : Nat × Nat} {x i : Int} {w p : Nat} (hg : rg g a) (hx : x = (w : Int)) (hi : i = (p : Int)) (hw : w < 30) (hl : wl a w ≤ 6) (hp : p < wl a w) (hc : a (88 + w) < 1073741824) (hd : 1 ≤ dgt a w p) : ev m_M_letter 0 [some (eR 0), some (eI x), some (eI i)] [] ([eA 0 964 g], c) = some (.inl (some (eI ((lt a w p : Nat) : Int))), ([eA 0 964 g], c)) := by
  have e1 := hg (88 + w) (by omega)
  have e2 : g (118 + w) = (wl a w : Int) := hg (118 + w) (by omega)
  have e3 : ((lt a w p : Nat) : Int) = (dgt a w p : Int) - 1 := by unfold lt; omega
  rw [e3]
  refine xLd (N := 5) (n := 964) (i := 88 + x) (F := fun zq => ev m_M_letter 6 [some (eR 0), some (eI x), some (eI i)] [eI (g zq)] ([eA 0 964 g], c)) (k := 88 + w) rfl (wr_nat (by omega) (by omega)) (by omega) ?_
  refine xLd (N := 6) (n := 964) (i := 118 + x) (F := fun zq => ev m_M_letter 13 [some (eR 0), some (eI x), some (eI i)] [eI (g zq), eI 5, eI (g (88 + w))] ([eA 0 964 g], c)) (k := 118 + w) rfl (wr_nat (by omega) (by omega)) (by omega) ?_
  refine xTop (N := 8) (pc2 := 22) (ls2 := [some (eR 0), some (eI x), some (eI i)]) (a := bAnd (bShr (g (88 + w)) (5 * (((g (118 + w)) - 1) - i))) 31) (b := ((dgt a w p : Nat) : Int)) (st2 := []) (w2 := ([eA 0 964 g], c)) rfl (dig_n e1 hc (by omega) (by omega)) (fun z hz => ?_)
  refine xSeg (N := 3) (r := some (.inl (some (eI (z - 1))), ([eA 0 964 g], c))) rfl ?_
  rw [hz]
theorem n_holds {g : Nat → Int} {a : eRow} {c : Nat × Nat} {x z : Int} {w l : Nat} (hg : rg g a) (hV : iV a) (hx : x = (w : Int)) (hz : z = (l : Int)) (hw : w < a 2) (hl : l < 26) : ev m_M_holds 0 [some (eR 0), some (eI x), some (eI z)] [] ([eA 0 964 g], c) = some (.inl (some (eI (bI (anyN (fun i => decide (lt a w i = l)) (wl a w))))), ([eA 0 964 g], c)) := by
  obtain ⟨v1, v2, v3, v4⟩ := hV.2 w hw
  have hm := hV.1
  have e2 : g (118 + w) = (wl a w : Int) := hg (118 + w) (by omega)
  have hl : ∀ p : Nat, p ≤ wl a w → ∀ y : Int, y = (p : Int) → (∀ q, q < p → lt a w q ≠ l) → ev m_M_holds 2 [some (eR 0), some (eI x), some (eI z), some (eI y)] [] ([eA 0 964 g], c) = some (.inl (some (eI (bI (anyN (fun i => decide (lt a w i = l)) (wl a w))))), ([eA 0 964 g], c)) := by
    refine loop_up ?_ ?_
    · intro y hy ha
      refine xLd (N := 6) (n := 964) (i := 118 + x) (F := fun zq => ev m_M_holds 9 [some (eR 0), some (eI x), some (eI z), some (eI y)] [eI (g zq), eI y] ([eA 0 964 g], c)) (k := 118 + w) rfl (wr_nat (by omega) (by omega)) (by omega) ?_
      refine xLtF (N := 1) (x := y) (y := g (118 + w)) (A := ev m_M_holds 12 [some (eR 0), some (eI x), some (eI z), some (eI y)] [] ([eA 0 964 g], c)) (B := ev m_M_holds 30 [some (eR 0), some (eI x), some (eI z), some (eI y)] [] ([eA 0 964 g], c)) rfl (wr_id (by omega) (by omega)) (wr_id (by omega) (by omega)) (by omega) ?_
      refine xRb (N := 2) (v := 0) (w2 := ([eA 0 964 g], c)) rfl (by decide) ?_
      exact lf (bF (anyN_F (fun q hq => decide_eq_false (ha q hq))))
    · intro p hp ih y hy ha
      have hlt := lt_26 hV hw hp
      refine xLd (N := 6) (n := 964) (i := 118 + x) (F := fun zq => ev m_M_holds 9 [some (eR 0), some (eI x), some (eI z), some (eI y)] [eI (g zq), eI y] ([eA 0 964 g], c)) (k := 118 + w) rfl (wr_nat (by omega) (by omega)) (by omega) ?_
      refine xLtT (N := 1) (x := y) (y := g (118 + w)) (A := ev m_M_holds 12 [some (eR 0), some (eI x), some (eI z), some (eI y)] [] ([eA 0 964 g], c)) (B := ev m_M_holds 30 [some (eR 0), some (eI x), some (eI z), some (eI y)] [] ([eA 0 964 g], c)) rfl (wr_id (by omega) (by omega)) (wr_id (by omega) (by omega)) (by omega) ?_
      refine xCallI (N := 4) (v := ((lt a w p : Nat) : Int)) (M2 := m_M_holds) (pc2 := 15) (ls2 := [some (eR 0), some (eI x), some (eI z), some (eI y)]) (st2 := []) (y := m_M_letter) (as := [some (eR 0), some (eI x), some (eI y)]) (w2 := ([eA 0 964 g], c)) rfl (n_letter hg hx hy (by omega) v2 hp v3.1 (v4 p hp).1) (fun r15 hr15 => ?_)
      refine xEq (N := 2) (x := r15) (y := z) (A := ev m_M_holds 22 [some (eR 0), some (eI x), some (eI z), some (eI y)] [] ([eA 0 964 g], c)) (B := ev m_M_holds 24 [some (eR 0), some (eI x), some (eI z), some (eI y)] [] ([eA 0 964 g], c)) rfl (wr_id (by omega) (by omega)) (wr_id (by omega) (by omega)) (fun h19 => ?_) (fun h19 => ?_)
      · refine xRb (N := 2) (v := 1) (w2 := ([eA 0 964 g], c)) rfl (by decide) ?_
        exact lf (bT (anyN_iff.mpr ⟨p, hp, decide_eq_true (by omega)⟩))
      · refine xSeg (N := 2) (r := ev m_M_holds 2 [some (eR 0), some (eI x), some (eI z), some (eI (y + 1))] [] ([eA 0 964 g], c)) rfl ?_
        refine ih _ (by omega) (fun q hq => ?_)
        by_cases hqp : q = p
        · subst hqp; omega
        · exact ha q (by omega)
  refine xSeg (N := 2) (r := ev m_M_holds 2 [some (eR 0), some (eI x), some (eI z), some (eI 0)] [] ([eA 0 964 g], c)) rfl ?_
  exact hl 0 (Nat.zero_le _) _ rfl (fun k hk => absurd hk (by omega))
theorem n_wordsHolding {g : Nat → Int} {a : eRow} {c : Nat × Nat} {z : Int} {l : Nat} (hg : rg g a) (hV : iV a) (hz : z = (l : Int)) (hl : l < 26) : ev m_M_wordsHolding 0 [some (eR 0), some (eI z)] [] ([eA 0 964 g], c) = some (.inl (some (eI ((hold a l : Nat) : Int))), ([eA 0 964 g], c)) := by
  have hm := hV.1
  have e2 := hg 2 (by omega)
  have hl2 : ∀ p : Nat, p ≤ a 2 → ∀ s y : Int, s = ((fb_ct (hlB a l) p : Nat) : Int) → y = ((p : Nat) : Int) → ev m_M_wordsHolding 4 [some (eR 0), some (eI z), some (eI s), some (eI y)] [] ([eA 0 964 g], c) = some (.inl (some (eI ((hold a l : Nat) : Int))), ([eA 0 964 g], c)) := by
    refine loop_up ?_ ?_
    · intro s y hs hy
      refine xLd (N := 4) (n := 964) (i := 2) (F := fun zq => ev m_M_wordsHolding 8 [some (eR 0), some (eI z), some (eI s), some (eI y)] [eI (g zq), eI y] ([eA 0 964 g], c)) (k := 2) rfl (show wr 2 = ((2 : Nat) : Int) by decide) (by omega) ?_
      refine xLtF (N := 1) (x := y) (y := g 2) (A := ev m_M_wordsHolding 11 [some (eR 0), some (eI z), some (eI s), some (eI y)] [] ([eA 0 964 g], c)) (B := ev m_M_wordsHolding 29 [some (eR 0), some (eI z), some (eI s), some (eI y)] [] ([eA 0 964 g], c)) rfl (wr_id (by omega) (by omega)) (wr_id (by omega) (by omega)) (by omega) ?_
      refine xSeg (N := 2) (r := some (.inl (some (eI s)), ([eA 0 964 g], c))) rfl ?_
      rw [hs]; rfl
    · intro p hp ih s y hs hy
      refine xLd (N := 4) (n := 964) (i := 2) (F := fun zq => ev m_M_wordsHolding 8 [some (eR 0), some (eI z), some (eI s), some (eI y)] [eI (g zq), eI y] ([eA 0 964 g], c)) (k := 2) rfl (show wr 2 = ((2 : Nat) : Int) by decide) (by omega) ?_
      refine xLtT (N := 1) (x := y) (y := g 2) (A := ev m_M_wordsHolding 11 [some (eR 0), some (eI z), some (eI s), some (eI y)] [] ([eA 0 964 g], c)) (B := ev m_M_wordsHolding 29 [some (eR 0), some (eI z), some (eI s), some (eI y)] [] ([eA 0 964 g], c)) rfl (wr_id (by omega) (by omega)) (wr_id (by omega) (by omega)) (by omega) ?_
      refine xCallI (N := 4) (v := bI (hlB a l p)) (M2 := m_M_wordsHolding) (pc2 := 14) (ls2 := [some (eR 0), some (eI z), some (eI s), some (eI y)]) (st2 := []) (y := m_M_holds) (as := [some (eR 0), some (eI y), some (eI z)]) (w2 := ([eA 0 964 g], c)) rfl (n_holds hg hV hy hz hp hl) (fun r14 hr14 => ?_)
      have hq := bI_1 hr14
      refine xEq (N := 1) (x := r14) (y := 0) (A := ev m_M_wordsHolding 23 [some (eR 0), some (eI z), some (eI s), some (eI y)] [] ([eA 0 964 g], c)) (B := ev m_M_wordsHolding 20 [some (eR 0), some (eI z), some (eI s), some (eI y)] [] ([eA 0 964 g], c)) rfl (wr_id (by omega) (by omega)) (show wr 0 = 0 by decide) (fun h17 => ?_) (fun h17 => ?_)
      · refine xSeg (N := 2) (r := ev m_M_wordsHolding 4 [some (eR 0), some (eI z), some (eI s), some (eI (y + 1))] [] ([eA 0 964 g], c)) rfl ?_
        first | exact ih _ _ (by rw [ct_T (p := hlB a l) (k := p) (hq.2.1.mp (by omega))]; omega) (by omega) | exact ih _ _ (by rw [ct_F (p := hlB a l) (k := p) (hq.2.2.mp (by omega))]; exact hs) (by omega)
      · refine xSeg (N := 3) (r := ev m_M_wordsHolding 4 [some (eR 0), some (eI z), some (eI (s + 1)), some (eI (y + 1))] [] ([eA 0 964 g], c)) rfl ?_
        first | exact ih _ _ (by rw [ct_T (p := hlB a l) (k := p) (hq.2.1.mp (by omega))]; omega) (by omega) | exact ih _ _ (by rw [ct_F (p := hlB a l) (k := p) (hq.2.2.mp (by omega))]; exact hs) (by omega)
  refine xSeg (N := 4) (r := ev m_M_wordsHolding 4 [some (eR 0), some (eI z), some (eI 0), some (eI 0)] [] ([eA 0 964 g], c)) rfl ?_
  exact hl2 0 (Nat.zero_le _) _ _ rfl rfl
theorem n_prizeFor {g : Nat → Int} {a : eRow} {c : Nat × Nat} {z : Int} {l : Nat} (hg : rg g a) (hV : iV a) (hz : z = (l : Int)) (hl : l < 26) : ev m_M_prizeFor 0 [some (eR 0), some (eI z)] [] ([eA 0 964 g], c) = some (.inl (some (eI ((pz a l : Nat) : Int))), ([eA 0 964 g], c)) := by
  have hm := hV.1
  have hh := hold_le a l
  refine xCallI (N := 4) (v := ((hold a l : Nat) : Int)) (M2 := m_M_prizeFor) (pc2 := 4) (ls2 := [some (eR 0), some (eI z)]) (st2 := [eI 10]) (y := m_M_wordsHolding) (as := [some (eR 0), some (eI z)]) (w2 := ([eA 0 964 g], c)) rfl (n_wordsHolding hg hV hz hl) (fun r4 hr4 => ?_)
  refine xLt (N := 5) (x := 10 - r4) (y := 1) (A := ev m_M_prizeFor 14 [some (eR 0), some (eI z), some (eI (10 - r4))] [] ([eA 0 964 g], c)) (B := ev m_M_prizeFor 18 [some (eR 0), some (eI z), some (eI (10 - r4))] [] ([eA 0 964 g], c)) rfl (wr_id (by omega) (by omega)) (show wr 1 = 1 by decide) (fun h11 => ?_) (fun h11 => ?_)
  · refine xSeg (N := 3) (r := some (.inl (some (eI 1)), ([eA 0 964 g], c))) rfl ?_
    exact lf (by unfold pz; omega)
  · refine xSeg (N := 2) (r := some (.inl (some (eI (10 - r4))), ([eA 0 964 g], c))) rfl ?_
    exact lf (by unfold pz; omega)
theorem n_prize {g : Nat → Int} {a : eRow} {c : Nat × Nat} {x : Int} {w : Nat} (hg : rg g a) (hV : iV a) (hx : x = (w : Int)) (hw : w < a 2) : ev m_M_prize 0 [some (eR 0), some (eI x)] [] ([eA 0 964 g], c) = some (.inl (some (eI ((wp a w : Nat) : Int))), ([eA 0 964 g], c)) := by
  obtain ⟨v1, v2, v3, v4⟩ := hV.2 w hw
  have hm := hV.1
  have e2 : g (118 + w) = (wl a w : Int) := hg (118 + w) (by omega)
  have hl2 : ∀ p : Nat, p ≤ wl a w → ∀ s y : Int, s = ((wpz (hold a) p (lt a w) : Nat) : Int) → y = ((p : Nat) : Int) → ev m_M_prize 4 [some (eR 0), some (eI x), some (eI s), some (eI y)] [] ([eA 0 964 g], c) = some (.inl (some (eI ((wp a w : Nat) : Int))), ([eA 0 964 g], c)) := by
    refine loop_up ?_ ?_
    · intro s y hs hy
      refine xLd (N := 6) (n := 964) (i := 118 + x) (F := fun zq => ev m_M_prize 11 [some (eR 0), some (eI x), some (eI s), some (eI y)] [eI (g zq), eI y] ([eA 0 964 g], c)) (k := 118 + w) rfl (wr_nat (by omega) (by omega)) (by omega) ?_
      refine xLtF (N := 1) (x := y) (y := g (118 + w)) (A := ev m_M_prize 14 [some (eR 0), some (eI x), some (eI s), some (eI y)] [] ([eA 0 964 g], c)) (B := ev m_M_prize 33 [some (eR 0), some (eI x), some (eI s), some (eI y)] [] ([eA 0 964 g], c)) rfl (wr_id (by omega) (by omega)) (wr_id (by omega) (by omega)) (by omega) ?_
      refine xSeg (N := 2) (r := some (.inl (some (eI s)), ([eA 0 964 g], c))) rfl ?_
      rw [hs]; rfl
    · intro p hp ih s y hs hy
      have hlt := lt_26 hV hw hp
      have hs2 : wpz (hold a) (p + 1) (lt a w) = wpz (hold a) p (lt a w) + pz a (lt a w p) := rfl
      refine xLd (N := 6) (n := 964) (i := 118 + x) (F := fun zq => ev m_M_prize 11 [some (eR 0), some (eI x), some (eI s), some (eI y)] [eI (g zq), eI y] ([eA 0 964 g], c)) (k := 118 + w) rfl (wr_nat (by omega) (by omega)) (by omega) ?_
      refine xLtT (N := 1) (x := y) (y := g (118 + w)) (A := ev m_M_prize 14 [some (eR 0), some (eI x), some (eI s), some (eI y)] [] ([eA 0 964 g], c)) (B := ev m_M_prize 33 [some (eR 0), some (eI x), some (eI s), some (eI y)] [] ([eA 0 964 g], c)) rfl (wr_id (by omega) (by omega)) (wr_id (by omega) (by omega)) (by omega) ?_
      refine xCallI (N := 6) (v := ((lt a w p : Nat) : Int)) (M2 := m_M_prize) (pc2 := 19) (ls2 := [some (eR 0), some (eI x), some (eI s), some (eI y)]) (st2 := [eR 0, eI s]) (y := m_M_letter) (as := [some (eR 0), some (eI x), some (eI y)]) (w2 := ([eA 0 964 g], c)) rfl (n_letter hg hx hy (by omega) v2 hp v3.1 (v4 p hp).1) (fun r19 hr19 => ?_)
      refine xCallI (N := 1) (v := ((pz a (lt a w p) : Nat) : Int)) (M2 := m_M_prize) (pc2 := 22) (ls2 := [some (eR 0), some (eI x), some (eI s), some (eI y)]) (st2 := [eI s]) (y := m_M_prizeFor) (as := [some (eR 0), some (eI r19)]) (w2 := ([eA 0 964 g], c)) rfl (n_prizeFor hg hV hr19 hlt) (fun r22 hr22 => ?_)
      refine xSeg (N := 4) (r := ev m_M_prize 4 [some (eR 0), some (eI x), some (eI (s + r22)), some (eI (y + 1))] [] ([eA 0 964 g], c)) rfl ?_
      exact ih _ _ (by rw [hs2]; omega) (by omega)
  refine xSeg (N := 4) (r := ev m_M_prize 4 [some (eR 0), some (eI x), some (eI 0), some (eI 0)] [] ([eA 0 964 g], c)) rfl ?_
  exact hl2 0 (Nat.zero_le _) _ _ rfl rfl
theorem n_wordOf {g : Nat → Int} {a : eRow} {c : Nat × Nat} {z : Int} {cd : Nat} (hg : rg g a) (hV : iV a) (hz : z = (cd : Int)) (hc : cd < 2147483648) : ev m_M_wordOf 0 [some (eR 0), some (eI z)] [] ([eA 0 964 g], c) = some (.inl (some (eI (fnd (fun k => decide (a (88 + k) = cd)) (a 2) 0))), ([eA 0 964 g], c)) := by
  have hm := hV.1
  have e2 := hg 2 (by omega)
  have hl2 : ∀ p : Nat, p ≤ a 2 → ∀ y : Int, y = ((p : Nat) : Int) → ev m_M_wordOf 2 [some (eR 0), some (eI z), some (eI y)] [] ([eA 0 964 g], c) = some (.inl (some (eI (fnd (fun k => decide (a (88 + k) = cd)) (a 2 - p) p))), ([eA 0 964 g], c)) := by
    refine loop_up ?_ ?_
    · intro y hy
      rw [Nat.sub_self]
      refine xLd (N := 4) (n := 964) (i := 2) (F := fun zq => ev m_M_wordOf 6 [some (eR 0), some (eI z), some (eI y)] [eI (g zq), eI y] ([eA 0 964 g], c)) (k := 2) rfl (show wr 2 = ((2 : Nat) : Int) by decide) (by omega) ?_
      refine xLtF (N := 1) (x := y) (y := g 2) (A := ev m_M_wordOf 9 [some (eR 0), some (eI z), some (eI y)] [] ([eA 0 964 g], c)) (B := ev m_M_wordOf 27 [some (eR 0), some (eI z), some (eI y)] [] ([eA 0 964 g], c)) rfl (wr_id (by omega) (by omega)) (wr_id (by omega) (by omega)) (by omega) ?_
      refine xSeg (N := 2) (r := some (.inl (some (eI (-1))), ([eA 0 964 g], c))) rfl ?_
      rfl
    · intro p hp ih y hy
      have e3 := hg (88 + p) (by omega)
      have v3 := (hV.2 p hp).2.2.1
      rw [show a 2 - p = (a 2 - (p + 1)) + 1 by omega]
      refine xLd (N := 4) (n := 964) (i := 2) (F := fun zq => ev m_M_wordOf 6 [some (eR 0), some (eI z), some (eI y)] [eI (g zq), eI y] ([eA 0 964 g], c)) (k := 2) rfl (show wr 2 = ((2 : Nat) : Int) by decide) (by omega) ?_
      refine xLtT (N := 1) (x := y) (y := g 2) (A := ev m_M_wordOf 9 [some (eR 0), some (eI z), some (eI y)] [] ([eA 0 964 g], c)) (B := ev m_M_wordOf 27 [some (eR 0), some (eI z), some (eI y)] [] ([eA 0 964 g], c)) rfl (wr_id (by omega) (by omega)) (wr_id (by omega) (by omega)) (by omega) ?_
      refine xLd (N := 5) (n := 964) (i := 88 + y) (F := fun zq => ev m_M_wordOf 15 [some (eR 0), some (eI z), some (eI y)] [eI (g zq)] ([eA 0 964 g], c)) (k := 88 + p) rfl (wr_nat (by omega) (by omega)) (by omega) ?_
      refine xEq (N := 2) (x := g (88 + p)) (y := z) (A := ev m_M_wordOf 19 [some (eR 0), some (eI z), some (eI y)] [] ([eA 0 964 g], c)) (B := ev m_M_wordOf 21 [some (eR 0), some (eI z), some (eI y)] [] ([eA 0 964 g], c)) rfl (wr_id (by omega) (by omega)) (wr_id (by omega) (by omega)) (fun h16 => ?_) (fun h16 => ?_)
      · refine xSeg (N := 2) (r := some (.inl (some (eI y)), ([eA 0 964 g], c))) rfl ?_
        rw [fnd_T (decide_eq_true (by omega)), hy]
      · refine xSeg (N := 2) (r := ev m_M_wordOf 2 [some (eR 0), some (eI z), some (eI (y + 1))] [] ([eA 0 964 g], c)) rfl ?_
        exact (ih _ (by omega)).trans (by rw [fnd_F (decide_eq_false (by omega))])
  refine xSeg (N := 2) (r := ev m_M_wordOf 2 [some (eR 0), some (eI z), some (eI 0)] [] ([eA 0 964 g], c)) rfl ?_
  exact hl2 0 (Nat.zero_le _) _ rfl
theorem n_between {x l h : Int} {w : eW} (bx : -2147483648 ≤ x ∧ x < 2147483648) (bl : -2147483648 ≤ l ∧ l < 2147483648) (bh : -2147483648 ≤ h ∧ h < 2147483648) : ev m_M_isBetween 0 [some (eI x), some (eI l), some (eI h)] [] w = some (.inl (some (eI (bI (decide (l ≤ x ∧ x ≤ h))))), w) := by
  refine xLt (N := 3) (x := x) (y := l) (A := ev m_M_isBetween 14 [some (eI x), some (eI l), some (eI h)] [] (w.1, w.2)) (B := ev m_M_isBetween 5 [some (eI x), some (eI l), some (eI h)] [] (w.1, w.2)) rfl (wr_id (by omega) (by omega)) (wr_id (by omega) (by omega)) (fun h2 => ?_) (fun h2 => ?_)
  · refine xRb (N := 2) (v := 0) (w2 := (w.1, w.2)) rfl (by decide) ?_
    first | exact lf (bT (decide_eq_true (by omega))) | exact lf (bF (decide_eq_false (by omega)))
  · refine xLt (N := 3) (x := h) (y := x) (A := ev m_M_isBetween 14 [some (eI x), some (eI l), some (eI h)] [] (w.1, w.2)) (B := ev m_M_isBetween 10 [some (eI x), some (eI l), some (eI h)] [] (w.1, w.2)) rfl (wr_id (by omega) (by omega)) (wr_id (by omega) (by omega)) (fun h7 => ?_) (fun h7 => ?_)
    · refine xRb (N := 2) (v := 0) (w2 := (w.1, w.2)) rfl (by decide) ?_
      first | exact lf (bT (decide_eq_true (by omega))) | exact lf (bF (decide_eq_false (by omega)))
    · refine xRb (N := 3) (v := 1) (w2 := (w.1, w.2)) rfl (by decide) ?_
      first | exact lf (bT (decide_eq_true (by omega))) | exact lf (bF (decide_eq_false (by omega)))
theorem n_cellOf {r : Option Nat} {x y : Int} {w : eW} : ev m_M_cellOf 0 [some (.inr (.inl r)), some (eI x), some (eI y)] [] w = some (.inl (some (eI (6 * y + x))), w) := by
  refine xSeg (N := 6) (r := some (.inl (some (eI (6 * y + x))), w)) rfl ?_
  rfl
theorem n_ofSlot {x : Int} {w : eW} : ev m_M_ofSlot 0 [some (eI x)] [] w = some (.inl (some (eI (148 + 4 * x))), w) := by
  refine xSeg (N := 6) (r := some (.inl (some (eI (148 + 4 * x))), w)) rfl ?_
  rfl
