/-! The model: guards and questions. -/
def mZ (P : Nat → Int) : eC := eO 7 [eR 0, eSt 20, eSt 21, eSt 22, eSt 23, eR 2, eR 3, eSt 24, eI (P 8), eI (P 9), eI (P 10), eSt 25, eI (P 12), eI (P 13), eI (P 14), eI (P 15), eI (P 16), eI (P 17), eI (P 18), eI (P 19), eSt 26, eI (P 21)]
set_option maxRecDepth 100000
theorem z_refF {g mk fr P : Nat → Int} {c : Nat × Nat} {z : Int} : ev m_M_refuses 0 [some (eR 1), some (eI 0), some (eI z)] [] ([eA 0 964 g, mZ (eUp P 10 0), eA 0 144 mk, eA 0 24 fr], c) = some (.inl (some (eI 0)), ([eA 0 964 g, mZ (eUp P 10 0), eA 0 144 mk, eA 0 24 fr], c)) := by
  refine xEqT (N := 2) (x := 0) (y := 0) (A := ev m_M_refuses 16 [some (eR 1), some (eI 0), some (eI z)] [] ([eA 0 964 g, mZ (eUp P 10 0), eA 0 144 mk, eA 0 24 fr], c)) (B := ev m_M_refuses 4 [some (eR 1), some (eI 0), some (eI z)] [] ([eA 0 964 g, mZ (eUp P 10 0), eA 0 144 mk, eA 0 24 fr], c)) rfl (show wr 0 = 0 by decide) (show wr 0 = 0 by decide) (by decide) ?_
  refine xEqT (N := 3) (x := 0) (y := 0) (A := ev m_M_refuses 27 [some (eR 1), some (eI 0), some (eI z)] [] ([eA 0 964 g, mZ (eUp P 10 0), eA 0 144 mk, eA 0 24 fr], c)) (B := ev m_M_refuses 23 [some (eR 1), some (eI 0), some (eI z)] [] ([eA 0 964 g, mZ (eUp P 10 0), eA 0 144 mk, eA 0 24 fr], c)) rfl (show wr 0 = 0 by decide) (show wr 0 = 0 by decide) (by decide) ?_
  refine xRb (N := 2) (v := 0) (w2 := ([eA 0 964 g, mZ (eUp P 10 0), eA 0 144 mk, eA 0 24 fr], c)) rfl (by decide) ?_
  rfl
theorem z_refT {g mk fr P : Nat → Int} {c : Nat × Nat} {z : Int} (hz : 1 ≤ z ∧ z ≤ 2) : ev m_M_refuses 0 [some (eR 1), some (eI 1), some (eI z)] [] ([eA 0 964 g, mZ (eUp P 10 0), eA 0 144 mk, eA 0 24 fr], c) = some (.inl (some (eI 1)), ([eA 0 964 g, mZ (eUp P 10 z), eA 0 144 mk, eA 0 24 fr], c)) := by
  refine xEqF (N := 2) (x := 1) (y := 0) (A := ev m_M_refuses 16 [some (eR 1), some (eI 1), some (eI z)] [] ([eA 0 964 g, mZ (eUp P 10 0), eA 0 144 mk, eA 0 24 fr], c)) (B := ev m_M_refuses 4 [some (eR 1), some (eI 1), some (eI z)] [] ([eA 0 964 g, mZ (eUp P 10 0), eA 0 144 mk, eA 0 24 fr], c)) rfl (show wr 1 = 1 by decide) (show wr 0 = 0 by decide) (by decide) ?_
  refine xEqT (N := 3) (x := 0) (y := 0) (A := ev m_M_refuses 11 [some (eR 1), some (eI 1), some (eI z)] [] ([eA 0 964 g, mZ (eUp P 10 0), eA 0 144 mk, eA 0 24 fr], c)) (B := ev m_M_refuses 16 [some (eR 1), some (eI 1), some (eI z)] [] ([eA 0 964 g, mZ (eUp P 10 0), eA 0 144 mk, eA 0 24 fr], c)) rfl (show wr 0 = 0 by decide) (show wr 0 = 0 by decide) (by decide) ?_
  refine xEqF (N := 6) (x := z) (y := 0) (A := ev m_M_refuses 27 [some (eR 1), some (eI 1), some (eI z)] [] ([eA 0 964 g, mZ (eUp (eUp P 10 0) 10 z), eA 0 144 mk, eA 0 24 fr], c)) (B := ev m_M_refuses 23 [some (eR 1), some (eI 1), some (eI z)] [] ([eA 0 964 g, mZ (eUp (eUp P 10 0) 10 z), eA 0 144 mk, eA 0 24 fr], c)) rfl (wr_id (by omega) (by omega)) (show wr 0 = 0 by decide) (by omega) ?_
  refine xRb (N := 3) (v := 1) (w2 := ([eA 0 964 g, mZ (eUp (eUp P 10 0) 10 z), eA 0 144 mk, eA 0 24 fr], c)) rfl (by decide) ?_
  rfl
theorem z_noNum {g mk fr P : Nat → Int} {c : Nat × Nat} {x l h : Int} (bx : -2147483648 ≤ x ∧ x < 2147483648) (bl : -2147483648 ≤ l ∧ l < 2147483648) (bh : -2147483648 ≤ h ∧ h < 2147483648) (hb : l ≤ x ∧ x ≤ h) : ev m_M_noNumber 0 [some (eR 1), some (eI x), some (eI l), some (eI h)] [] ([eA 0 964 g, mZ P, eA 0 144 mk, eA 0 24 fr], c) = some (.inl (some (eI 0)), ([eA 0 964 g, mZ (eUp P 10 0), eA 0 144 mk, eA 0 24 fr], c)) := by
  have hq := n_between (w := ([eA 0 964 g, mZ (eUp P 10 0), eA 0 144 mk, eA 0 24 fr], c)) bx bl bh
  rw [decide_eq_true hb] at hq
  refine xCall (N := 8) (M2 := m_M_noNumber) (pc2 := 9) (ls2 := [some (eR 1), some (eI x), some (eI l), some (eI h)]) (st2 := [eR 1]) (y := m_M_isBetween) (as := [some (eI x), some (eI l), some (eI h)]) (w2 := ([eA 0 964 g, mZ (eUp P 10 0), eA 0 144 mk, eA 0 24 fr], c)) rfl hq ?_
  refine xEqF (N := 1) (x := 1) (y := 0) (A := ev m_M_noNumber 15 [some (eR 1), some (eI x), some (eI l), some (eI h)] [eR 1] ([eA 0 964 g, mZ (eUp P 10 0), eA 0 144 mk, eA 0 24 fr], c)) (B := ev m_M_noNumber 19 [some (eR 1), some (eI x), some (eI l), some (eI h)] [eR 1] ([eA 0 964 g, mZ (eUp P 10 0), eA 0 144 mk, eA 0 24 fr], c)) rfl (show wr 1 = 1 by decide) (show wr 0 = 0 by decide) (by decide) ?_
  refine xCallW (N := 3) (M2 := m_M_noNumber) (pc2 := 21) (ls2 := [some (eR 1), some (eI x), some (eI l), some (eI h)]) (st2 := []) (y := m_M_refuses) (as := [some (eR 1), some (eI 0), some (eI 1)]) (w2 := ([eA 0 964 g, mZ (eUp P 10 0), eA 0 144 mk, eA 0 24 fr], c)) rfl z_refF ?_
  refine xRb (N := 1) (v := 0) (w2 := ([eA 0 964 g, mZ (eUp P 10 0), eA 0 144 mk, eA 0 24 fr], c)) rfl (by decide) ?_
  rfl
theorem z_noNumX {g mk fr P : Nat → Int} {c : Nat × Nat} {x l h : Int} (bx : -2147483648 ≤ x ∧ x < 2147483648) (bl : -2147483648 ≤ l ∧ l < 2147483648) (bh : -2147483648 ≤ h ∧ h < 2147483648) (hb : ¬ (l ≤ x ∧ x ≤ h)) : ev m_M_noNumber 0 [some (eR 1), some (eI x), some (eI l), some (eI h)] [] ([eA 0 964 g, mZ P, eA 0 144 mk, eA 0 24 fr], c) = some (.inl (some (eI 1)), ([eA 0 964 g, mZ (eUp P 10 1), eA 0 144 mk, eA 0 24 fr], c)) := by
  have hq := n_between (w := ([eA 0 964 g, mZ (eUp P 10 0), eA 0 144 mk, eA 0 24 fr], c)) bx bl bh
  rw [decide_eq_false hb] at hq
  refine xCall (N := 8) (M2 := m_M_noNumber) (pc2 := 9) (ls2 := [some (eR 1), some (eI x), some (eI l), some (eI h)]) (st2 := [eR 1]) (y := m_M_isBetween) (as := [some (eI x), some (eI l), some (eI h)]) (w2 := ([eA 0 964 g, mZ (eUp P 10 0), eA 0 144 mk, eA 0 24 fr], c)) rfl hq ?_
  refine xEqT (N := 1) (x := 0) (y := 0) (A := ev m_M_noNumber 15 [some (eR 1), some (eI x), some (eI l), some (eI h)] [eR 1] ([eA 0 964 g, mZ (eUp P 10 0), eA 0 144 mk, eA 0 24 fr], c)) (B := ev m_M_noNumber 19 [some (eR 1), some (eI x), some (eI l), some (eI h)] [eR 1] ([eA 0 964 g, mZ (eUp P 10 0), eA 0 144 mk, eA 0 24 fr], c)) rfl (show wr 0 = 0 by decide) (show wr 0 = 0 by decide) (by decide) ?_
  refine xCallW (N := 4) (M2 := m_M_noNumber) (pc2 := 21) (ls2 := [some (eR 1), some (eI x), some (eI l), some (eI h)]) (st2 := []) (y := m_M_refuses) (as := [some (eR 1), some (eI 1), some (eI 1)]) (w2 := ([eA 0 964 g, mZ (eUp P 10 0), eA 0 144 mk, eA 0 24 fr], c)) rfl (z_refT (by omega)) ?_
  refine xRb (N := 1) (v := 1) (w2 := ([eA 0 964 g, mZ (eUp P 10 1), eA 0 144 mk, eA 0 24 fr], c)) rfl (by decide) ?_
  rfl
theorem z_out {g mk fr P : Nat → Int} {c : Nat × Nat} {x l h : Int} (bx : -2147483648 ≤ x ∧ x < 2147483648) (bl : -2147483648 ≤ l ∧ l < 2147483648) (bh : -2147483648 ≤ h ∧ h < 2147483648) (hb : l ≤ x ∧ x ≤ h) : ev m_M_out 0 [some (eR 1), some (eI x), some (eI l), some (eI h)] [] ([eA 0 964 g, mZ (eUp P 10 0), eA 0 144 mk, eA 0 24 fr], c) = some (.inl (some (eI 0)), ([eA 0 964 g, mZ (eUp P 10 0), eA 0 144 mk, eA 0 24 fr], c)) := by
  have hq := n_between (w := ([eA 0 964 g, mZ (eUp P 10 0), eA 0 144 mk, eA 0 24 fr], c)) bx bl bh
  rw [decide_eq_true hb] at hq
  refine xCall (N := 5) (M2 := m_M_out) (pc2 := 4) (ls2 := [some (eR 1), some (eI x), some (eI l), some (eI h)]) (st2 := [eR 1]) (y := m_M_isBetween) (as := [some (eI x), some (eI l), some (eI h)]) (w2 := ([eA 0 964 g, mZ (eUp P 10 0), eA 0 144 mk, eA 0 24 fr], c)) rfl hq ?_
  refine xEqF (N := 1) (x := 1) (y := 0) (A := ev m_M_out 10 [some (eR 1), some (eI x), some (eI l), some (eI h)] [eR 1] ([eA 0 964 g, mZ (eUp P 10 0), eA 0 144 mk, eA 0 24 fr], c)) (B := ev m_M_out 14 [some (eR 1), some (eI x), some (eI l), some (eI h)] [eR 1] ([eA 0 964 g, mZ (eUp P 10 0), eA 0 144 mk, eA 0 24 fr], c)) rfl (show wr 1 = 1 by decide) (show wr 0 = 0 by decide) (by decide) ?_
  refine xCallW (N := 3) (M2 := m_M_out) (pc2 := 16) (ls2 := [some (eR 1), some (eI x), some (eI l), some (eI h)]) (st2 := []) (y := m_M_refuses) (as := [some (eR 1), some (eI 0), some (eI 2)]) (w2 := ([eA 0 964 g, mZ (eUp P 10 0), eA 0 144 mk, eA 0 24 fr], c)) rfl z_refF ?_
  refine xRb (N := 1) (v := 0) (w2 := ([eA 0 964 g, mZ (eUp P 10 0), eA 0 144 mk, eA 0 24 fr], c)) rfl (by decide) ?_
  rfl
theorem z_outX {g mk fr P : Nat → Int} {c : Nat × Nat} {x l h : Int} (bx : -2147483648 ≤ x ∧ x < 2147483648) (bl : -2147483648 ≤ l ∧ l < 2147483648) (bh : -2147483648 ≤ h ∧ h < 2147483648) (hb : ¬ (l ≤ x ∧ x ≤ h)) : ev m_M_out 0 [some (eR 1), some (eI x), some (eI l), some (eI h)] [] ([eA 0 964 g, mZ (eUp P 10 0), eA 0 144 mk, eA 0 24 fr], c) = some (.inl (some (eI 1)), ([eA 0 964 g, mZ (eUp P 10 2), eA 0 144 mk, eA 0 24 fr], c)) := by
  have hq := n_between (w := ([eA 0 964 g, mZ (eUp P 10 0), eA 0 144 mk, eA 0 24 fr], c)) bx bl bh
  rw [decide_eq_false hb] at hq
  refine xCall (N := 5) (M2 := m_M_out) (pc2 := 4) (ls2 := [some (eR 1), some (eI x), some (eI l), some (eI h)]) (st2 := [eR 1]) (y := m_M_isBetween) (as := [some (eI x), some (eI l), some (eI h)]) (w2 := ([eA 0 964 g, mZ (eUp P 10 0), eA 0 144 mk, eA 0 24 fr], c)) rfl hq ?_
  refine xEqT (N := 1) (x := 0) (y := 0) (A := ev m_M_out 10 [some (eR 1), some (eI x), some (eI l), some (eI h)] [eR 1] ([eA 0 964 g, mZ (eUp P 10 0), eA 0 144 mk, eA 0 24 fr], c)) (B := ev m_M_out 14 [some (eR 1), some (eI x), some (eI l), some (eI h)] [eR 1] ([eA 0 964 g, mZ (eUp P 10 0), eA 0 144 mk, eA 0 24 fr], c)) rfl (show wr 0 = 0 by decide) (show wr 0 = 0 by decide) (by decide) ?_
  refine xCallW (N := 4) (M2 := m_M_out) (pc2 := 16) (ls2 := [some (eR 1), some (eI x), some (eI l), some (eI h)]) (st2 := []) (y := m_M_refuses) (as := [some (eR 1), some (eI 1), some (eI 2)]) (w2 := ([eA 0 964 g, mZ (eUp P 10 0), eA 0 144 mk, eA 0 24 fr], c)) rfl (z_refT (by omega)) ?_
  refine xRb (N := 1) (v := 1) (w2 := ([eA 0 964 g, mZ (eUp P 10 2), eA 0 144 mk, eA 0 24 fr], c)) rfl (by decide) ?_
  rfl
theorem z_noCell {g mk fr P : Nat → Int} {a : eRow} {c : Nat × Nat} (hg : rg g a) (hI : iA a) {x y : Int} {xn yn : Nat} (hx : x = (xn : Int)) (hy : y = (yn : Int)) (h1 : xn < a 0) (h2 : yn < a 1) : ev m_M_noCell 0 [some (eR 1), some (eI x), some (eI y)] [] ([eA 0 964 g, mZ P, eA 0 144 mk, eA 0 24 fr], c) = some (.inl (some (eI (0))), ([eA 0 964 g, mZ (eUp P 10 0), eA 0 144 mk, eA 0 24 fr], c)) := by
  obtain ⟨hG, hV, hO, hT, hM⟩ := hI
  have bG := hG.1
  have bV := hV.1
  have b5 := iT_24 bG.2.2.2.2 hT
  have e0 := hg 0 (by omega)
  have e1 := hg 1 (by omega)
  have e2 := hg 2 (by omega)
  have e3 := hg 3 (by omega)
  have e4 := hg 4 (by omega)
  have e5 := hg 5 (by omega)
  refine xLd (N := 7) (n := 964) (i := 0) (F := fun zq => ev m_M_noCell 9 [some (eR 1), some (eI x), some (eI y)] [eI (g zq), eI 0, eI x, eR 1] ([eA 0 964 g, mZ P, eA 0 144 mk, eA 0 24 fr], c)) (k := 0) rfl (show wr 0 = ((0 : Nat) : Int) by decide) (by omega) ?_
  refine xCallW (N := 3) (M2 := m_M_noCell) (pc2 := 11) (ls2 := [some (eR 1), some (eI x), some (eI y)]) (st2 := []) (y := m_M_noNumber) (as := [some (eR 1), some (eI x), some (eI 0), some (eI ((g 0) - 1))]) (w2 := ([eA 0 964 g, mZ P, eA 0 144 mk, eA 0 24 fr], c)) rfl (z_noNum (P := P) (by omega) (by omega) (by omega) (by omega)) ?_
  refine xEqT (N := 1) (x := 0) (y := 0) (A := ev m_M_noCell 17 [some (eR 1), some (eI x), some (eI y)] [] ([eA 0 964 g, mZ (eUp P 10 0), eA 0 144 mk, eA 0 24 fr], c)) (B := ev m_M_noCell 34 [some (eR 1), some (eI x), some (eI y)] [] ([eA 0 964 g, mZ (eUp P 10 0), eA 0 144 mk, eA 0 24 fr], c)) rfl (show wr 0 = 0 by decide) (show wr 0 = 0 by decide) (by decide) ?_
  refine xLd (N := 7) (n := 964) (i := 1) (F := fun zq => ev m_M_noCell 26 [some (eR 1), some (eI x), some (eI y)] [eI (g zq), eI 0, eI y, eR 1] ([eA 0 964 g, mZ (eUp P 10 0), eA 0 144 mk, eA 0 24 fr], c)) (k := 1) rfl (show wr 1 = ((1 : Nat) : Int) by decide) (by omega) ?_
  refine xCallW (N := 3) (M2 := m_M_noCell) (pc2 := 28) (ls2 := [some (eR 1), some (eI x), some (eI y)]) (st2 := []) (y := m_M_noNumber) (as := [some (eR 1), some (eI y), some (eI 0), some (eI ((g 1) - 1))]) (w2 := ([eA 0 964 g, mZ (eUp P 10 0), eA 0 144 mk, eA 0 24 fr], c)) rfl (z_noNum (P := eUp P 10 0) (by omega) (by omega) (by omega) (by omega)) ?_
  refine xEqT (N := 1) (x := 0) (y := 0) (A := ev m_M_noCell 38 [some (eR 1), some (eI x), some (eI y)] [] ([eA 0 964 g, mZ (eUp (eUp P 10 0) 10 0), eA 0 144 mk, eA 0 24 fr], c)) (B := ev m_M_noCell 34 [some (eR 1), some (eI x), some (eI y)] [] ([eA 0 964 g, mZ (eUp (eUp P 10 0) 10 0), eA 0 144 mk, eA 0 24 fr], c)) rfl (show wr 0 = 0 by decide) (show wr 0 = 0 by decide) (by decide) ?_
  refine xRb (N := 2) (v := 0) (w2 := ([eA 0 964 g, mZ (eUp (eUp P 10 0) 10 0), eA 0 144 mk, eA 0 24 fr], c)) rfl (by decide) ?_
  rfl
theorem z_noCellX {g mk fr P : Nat → Int} {a : eRow} {c : Nat × Nat} (hg : rg g a) (hI : iA a) {x y : Int} (bx : -2147483648 ≤ x ∧ x < 2147483648) (by_ : -2147483648 ≤ y ∧ y < 2147483648) (h : inG (a 0) (a 1) x y = false) : ev m_M_noCell 0 [some (eR 1), some (eI x), some (eI y)] [] ([eA 0 964 g, mZ P, eA 0 144 mk, eA 0 24 fr], c) = some (.inl (some (eI (1))), ([eA 0 964 g, mZ (eUp P 10 1), eA 0 144 mk, eA 0 24 fr], c)) := by
  obtain ⟨hG, hV, hO, hT, hM⟩ := hI
  have bG := hG.1
  have bV := hV.1
  have b5 := iT_24 bG.2.2.2.2 hT
  have e0 := hg 0 (by omega)
  have e1 := hg 1 (by omega)
  have e2 := hg 2 (by omega)
  have e3 := hg 3 (by omega)
  have e4 := hg 4 (by omega)
  have e5 := hg 5 (by omega)
  have hf := of_decide_eq_false h
  by_cases hx : 0 ≤ x ∧ x < (a 0 : Int)
  · refine xLd (N := 7) (n := 964) (i := 0) (F := fun zq => ev m_M_noCell 9 [some (eR 1), some (eI x), some (eI y)] [eI (g zq), eI 0, eI x, eR 1] ([eA 0 964 g, mZ P, eA 0 144 mk, eA 0 24 fr], c)) (k := 0) rfl (show wr 0 = ((0 : Nat) : Int) by decide) (by omega) ?_
    refine xCallW (N := 3) (M2 := m_M_noCell) (pc2 := 11) (ls2 := [some (eR 1), some (eI x), some (eI y)]) (st2 := []) (y := m_M_noNumber) (as := [some (eR 1), some (eI x), some (eI 0), some (eI ((g 0) - 1))]) (w2 := ([eA 0 964 g, mZ P, eA 0 144 mk, eA 0 24 fr], c)) rfl (z_noNum (P := P) (by omega) (by omega) (by omega) (by omega)) ?_
    refine xEqT (N := 1) (x := 0) (y := 0) (A := ev m_M_noCell 17 [some (eR 1), some (eI x), some (eI y)] [] ([eA 0 964 g, mZ (eUp P 10 0), eA 0 144 mk, eA 0 24 fr], c)) (B := ev m_M_noCell 34 [some (eR 1), some (eI x), some (eI y)] [] ([eA 0 964 g, mZ (eUp P 10 0), eA 0 144 mk, eA 0 24 fr], c)) rfl (show wr 0 = 0 by decide) (show wr 0 = 0 by decide) (by decide) ?_
    refine xLd (N := 7) (n := 964) (i := 1) (F := fun zq => ev m_M_noCell 26 [some (eR 1), some (eI x), some (eI y)] [eI (g zq), eI 0, eI y, eR 1] ([eA 0 964 g, mZ (eUp P 10 0), eA 0 144 mk, eA 0 24 fr], c)) (k := 1) rfl (show wr 1 = ((1 : Nat) : Int) by decide) (by omega) ?_
    refine xCallW (N := 3) (M2 := m_M_noCell) (pc2 := 28) (ls2 := [some (eR 1), some (eI x), some (eI y)]) (st2 := []) (y := m_M_noNumber) (as := [some (eR 1), some (eI y), some (eI 0), some (eI ((g 1) - 1))]) (w2 := ([eA 0 964 g, mZ (eUp P 10 0), eA 0 144 mk, eA 0 24 fr], c)) rfl (z_noNumX (P := eUp P 10 0) (by omega) (by omega) (by omega) (by omega)) ?_
    refine xEqF (N := 1) (x := 1) (y := 0) (A := ev m_M_noCell 38 [some (eR 1), some (eI x), some (eI y)] [] ([eA 0 964 g, mZ (eUp (eUp P 10 0) 10 1), eA 0 144 mk, eA 0 24 fr], c)) (B := ev m_M_noCell 34 [some (eR 1), some (eI x), some (eI y)] [] ([eA 0 964 g, mZ (eUp (eUp P 10 0) 10 1), eA 0 144 mk, eA 0 24 fr], c)) rfl (show wr 1 = 1 by decide) (show wr 0 = 0 by decide) (by decide) ?_
    refine xRb (N := 3) (v := 1) (w2 := ([eA 0 964 g, mZ (eUp (eUp P 10 0) 10 1), eA 0 144 mk, eA 0 24 fr], c)) rfl (by decide) ?_
    rfl
  · refine xLd (N := 7) (n := 964) (i := 0) (F := fun zq => ev m_M_noCell 9 [some (eR 1), some (eI x), some (eI y)] [eI (g zq), eI 0, eI x, eR 1] ([eA 0 964 g, mZ P, eA 0 144 mk, eA 0 24 fr], c)) (k := 0) rfl (show wr 0 = ((0 : Nat) : Int) by decide) (by omega) ?_
    refine xCallW (N := 3) (M2 := m_M_noCell) (pc2 := 11) (ls2 := [some (eR 1), some (eI x), some (eI y)]) (st2 := []) (y := m_M_noNumber) (as := [some (eR 1), some (eI x), some (eI 0), some (eI ((g 0) - 1))]) (w2 := ([eA 0 964 g, mZ P, eA 0 144 mk, eA 0 24 fr], c)) rfl (z_noNumX (P := P) (by omega) (by omega) (by omega) (by omega)) ?_
    refine xEqF (N := 1) (x := 1) (y := 0) (A := ev m_M_noCell 17 [some (eR 1), some (eI x), some (eI y)] [] ([eA 0 964 g, mZ (eUp P 10 1), eA 0 144 mk, eA 0 24 fr], c)) (B := ev m_M_noCell 34 [some (eR 1), some (eI x), some (eI y)] [] ([eA 0 964 g, mZ (eUp P 10 1), eA 0 144 mk, eA 0 24 fr], c)) rfl (show wr 1 = 1 by decide) (show wr 0 = 0 by decide) (by decide) ?_
    refine xRb (N := 3) (v := 1) (w2 := ([eA 0 964 g, mZ (eUp P 10 1), eA 0 144 mk, eA 0 24 fr], c)) rfl (by decide) ?_
    rfl
theorem z_noSlot {g mk fr P : Nat → Int} {a : eRow} {c : Nat × Nat} (hg : rg g a) (hI : iA a) {x : Int} {k : Nat} (hx : x = (k : Int)) (h1 : k < a 3) : ev m_M_noSlot 0 [some (eR 1), some (eI x)] [] ([eA 0 964 g, mZ P, eA 0 144 mk, eA 0 24 fr], c) = some (.inl (some (eI (0))), ([eA 0 964 g, mZ (eUp P 10 0), eA 0 144 mk, eA 0 24 fr], c)) := by
  obtain ⟨hG, hV, hO, hT, hM⟩ := hI
  have bG := hG.1
  have bV := hV.1
  have b5 := iT_24 bG.2.2.2.2 hT
  have e0 := hg 0 (by omega)
  have e1 := hg 1 (by omega)
  have e2 := hg 2 (by omega)
  have e3 := hg 3 (by omega)
  have e4 := hg 4 (by omega)
  have e5 := hg 5 (by omega)
  refine xLd (N := 7) (n := 964) (i := 3) (F := fun zq => ev m_M_noSlot 9 [some (eR 1), some (eI x)] [eI (g zq), eI 0, eI x, eR 1] ([eA 0 964 g, mZ P, eA 0 144 mk, eA 0 24 fr], c)) (k := 3) rfl (show wr 3 = ((3 : Nat) : Int) by decide) (by omega) ?_
  refine xCallW (N := 3) (M2 := m_M_noSlot) (pc2 := 11) (ls2 := [some (eR 1), some (eI x)]) (st2 := []) (y := m_M_noNumber) (as := [some (eR 1), some (eI x), some (eI 0), some (eI ((g 3) - 1))]) (w2 := ([eA 0 964 g, mZ P, eA 0 144 mk, eA 0 24 fr], c)) rfl (z_noNum (P := P) (by omega) (by omega) (by omega) (by omega)) ?_
  refine xRb (N := 1) (v := 0) (w2 := ([eA 0 964 g, mZ (eUp P 10 0), eA 0 144 mk, eA 0 24 fr], c)) rfl (by decide) ?_
  rfl
theorem z_noSlotX {g mk fr P : Nat → Int} {a : eRow} {c : Nat × Nat} (hg : rg g a) (hI : iA a) {x : Int} (bx : -2147483648 ≤ x ∧ x < 2147483648) (h : ¬ (0 ≤ x ∧ x < (a 3 : Int))) : ev m_M_noSlot 0 [some (eR 1), some (eI x)] [] ([eA 0 964 g, mZ P, eA 0 144 mk, eA 0 24 fr], c) = some (.inl (some (eI (1))), ([eA 0 964 g, mZ (eUp P 10 1), eA 0 144 mk, eA 0 24 fr], c)) := by
  obtain ⟨hG, hV, hO, hT, hM⟩ := hI
  have bG := hG.1
  have bV := hV.1
  have b5 := iT_24 bG.2.2.2.2 hT
  have e0 := hg 0 (by omega)
  have e1 := hg 1 (by omega)
  have e2 := hg 2 (by omega)
  have e3 := hg 3 (by omega)
  have e4 := hg 4 (by omega)
  have e5 := hg 5 (by omega)
  refine xLd (N := 7) (n := 964) (i := 3) (F := fun zq => ev m_M_noSlot 9 [some (eR 1), some (eI x)] [eI (g zq), eI 0, eI x, eR 1] ([eA 0 964 g, mZ P, eA 0 144 mk, eA 0 24 fr], c)) (k := 3) rfl (show wr 3 = ((3 : Nat) : Int) by decide) (by omega) ?_
  refine xCallW (N := 3) (M2 := m_M_noSlot) (pc2 := 11) (ls2 := [some (eR 1), some (eI x)]) (st2 := []) (y := m_M_noNumber) (as := [some (eR 1), some (eI x), some (eI 0), some (eI ((g 3) - 1))]) (w2 := ([eA 0 964 g, mZ P, eA 0 144 mk, eA 0 24 fr], c)) rfl (z_noNumX (P := P) (by omega) (by omega) (by omega) (by omega)) ?_
  refine xRb (N := 1) (v := 1) (w2 := ([eA 0 964 g, mZ (eUp P 10 1), eA 0 144 mk, eA 0 24 fr], c)) rfl (by decide) ?_
  rfl
theorem z_noWord {g mk fr P : Nat → Int} {a : eRow} {c : Nat × Nat} (hg : rg g a) (hI : iA a) {x : Int} {w : Nat} (hx : x = (w : Int)) (h1 : w < a 2) : ev m_M_noWord 0 [some (eR 1), some (eI x)] [] ([eA 0 964 g, mZ P, eA 0 144 mk, eA 0 24 fr], c) = some (.inl (some (eI (0))), ([eA 0 964 g, mZ (eUp P 10 0), eA 0 144 mk, eA 0 24 fr], c)) := by
  obtain ⟨hG, hV, hO, hT, hM⟩ := hI
  have bG := hG.1
  have bV := hV.1
  have b5 := iT_24 bG.2.2.2.2 hT
  have e0 := hg 0 (by omega)
  have e1 := hg 1 (by omega)
  have e2 := hg 2 (by omega)
  have e3 := hg 3 (by omega)
  have e4 := hg 4 (by omega)
  have e5 := hg 5 (by omega)
  refine xLd (N := 7) (n := 964) (i := 2) (F := fun zq => ev m_M_noWord 9 [some (eR 1), some (eI x)] [eI (g zq), eI 0, eI x, eR 1] ([eA 0 964 g, mZ P, eA 0 144 mk, eA 0 24 fr], c)) (k := 2) rfl (show wr 2 = ((2 : Nat) : Int) by decide) (by omega) ?_
  refine xCallW (N := 3) (M2 := m_M_noWord) (pc2 := 11) (ls2 := [some (eR 1), some (eI x)]) (st2 := []) (y := m_M_noNumber) (as := [some (eR 1), some (eI x), some (eI 0), some (eI ((g 2) - 1))]) (w2 := ([eA 0 964 g, mZ P, eA 0 144 mk, eA 0 24 fr], c)) rfl (z_noNum (P := P) (by omega) (by omega) (by omega) (by omega)) ?_
  refine xRb (N := 1) (v := 0) (w2 := ([eA 0 964 g, mZ (eUp P 10 0), eA 0 144 mk, eA 0 24 fr], c)) rfl (by decide) ?_
  rfl
theorem z_noWordX {g mk fr P : Nat → Int} {a : eRow} {c : Nat × Nat} (hg : rg g a) (hI : iA a) {x : Int} (bx : -2147483648 ≤ x ∧ x < 2147483648) (h : ¬ (0 ≤ x ∧ x < (a 2 : Int))) : ev m_M_noWord 0 [some (eR 1), some (eI x)] [] ([eA 0 964 g, mZ P, eA 0 144 mk, eA 0 24 fr], c) = some (.inl (some (eI (1))), ([eA 0 964 g, mZ (eUp P 10 1), eA 0 144 mk, eA 0 24 fr], c)) := by
  obtain ⟨hG, hV, hO, hT, hM⟩ := hI
  have bG := hG.1
  have bV := hV.1
  have b5 := iT_24 bG.2.2.2.2 hT
  have e0 := hg 0 (by omega)
  have e1 := hg 1 (by omega)
  have e2 := hg 2 (by omega)
  have e3 := hg 3 (by omega)
  have e4 := hg 4 (by omega)
  have e5 := hg 5 (by omega)
  refine xLd (N := 7) (n := 964) (i := 2) (F := fun zq => ev m_M_noWord 9 [some (eR 1), some (eI x)] [eI (g zq), eI 0, eI x, eR 1] ([eA 0 964 g, mZ P, eA 0 144 mk, eA 0 24 fr], c)) (k := 2) rfl (show wr 2 = ((2 : Nat) : Int) by decide) (by omega) ?_
  refine xCallW (N := 3) (M2 := m_M_noWord) (pc2 := 11) (ls2 := [some (eR 1), some (eI x)]) (st2 := []) (y := m_M_noNumber) (as := [some (eR 1), some (eI x), some (eI 0), some (eI ((g 2) - 1))]) (w2 := ([eA 0 964 g, mZ P, eA 0 144 mk, eA 0 24 fr], c)) rfl (z_noNumX (P := P) (by omega) (by omega) (by omega) (by omega)) ?_
  refine xRb (N := 1) (v := 1) (w2 := ([eA 0 964 g, mZ (eUp P 10 1), eA 0 144 mk, eA 0 24 fr], c)) rfl (by decide) ?_
  rfl
theorem z_noLetter {g mk fr P : Nat → Int} {c : Nat × Nat} {x : Int} (h : 97 ≤ x ∧ x ≤ 122) : ev m_M_noLetter 0 [some (eR 1), some (eI x)] [] ([eA 0 964 g, mZ P, eA 0 144 mk, eA 0 24 fr], c) = some (.inl (some (eI 0)), ([eA 0 964 g, mZ (eUp P 10 0), eA 0 144 mk, eA 0 24 fr], c)) := by
  refine xCallW (N := 5) (M2 := m_M_noLetter) (pc2 := 6) (ls2 := [some (eR 1), some (eI x)]) (st2 := []) (y := m_M_noNumber) (as := [some (eR 1), some (eI x), some (eI 97), some (eI 122)]) (w2 := ([eA 0 964 g, mZ P, eA 0 144 mk, eA 0 24 fr], c)) rfl (z_noNum (P := P) (by omega) (by omega) (by omega) (by omega)) ?_
  refine xRb (N := 1) (v := 0) (w2 := ([eA 0 964 g, mZ (eUp P 10 0), eA 0 144 mk, eA 0 24 fr], c)) rfl (by decide) ?_
  rfl
theorem z_noLetterX {g mk fr P : Nat → Int} {c : Nat × Nat} {x : Int} (bx : -2147483648 ≤ x ∧ x < 2147483648) (h : ¬ (97 ≤ x ∧ x ≤ 122)) : ev m_M_noLetter 0 [some (eR 1), some (eI x)] [] ([eA 0 964 g, mZ P, eA 0 144 mk, eA 0 24 fr], c) = some (.inl (some (eI 1)), ([eA 0 964 g, mZ (eUp P 10 1), eA 0 144 mk, eA 0 24 fr], c)) := by
  refine xCallW (N := 5) (M2 := m_M_noLetter) (pc2 := 6) (ls2 := [some (eR 1), some (eI x)]) (st2 := []) (y := m_M_noNumber) (as := [some (eR 1), some (eI x), some (eI 97), some (eI 122)]) (w2 := ([eA 0 964 g, mZ P, eA 0 144 mk, eA 0 24 fr], c)) rfl (z_noNumX (P := P) (by omega) (by omega) (by omega) (by omega)) ?_
  refine xRb (N := 1) (v := 1) (w2 := ([eA 0 964 g, mZ (eUp P 10 1), eA 0 144 mk, eA 0 24 fr], c)) rfl (by decide) ?_
  rfl
theorem z_noGuess {g mk fr P : Nat → Int} {a : eRow} {c : Nat × Nat} (hg : rg g a) (hI : iA a) {x : Int} {k : Nat} (hx : x = (k : Int)) (h1 : k < a 3) {y : Int} {w : Nat} (hy : y = (w : Int)) (h2 : w < a 2) : ev m_M_noGuess 0 [some (eR 1), some (eI x), some (eI y)] [] ([eA 0 964 g, mZ P, eA 0 144 mk, eA 0 24 fr], c) = some (.inl (some (eI (0))), ([eA 0 964 g, mZ (eUp P 10 0), eA 0 144 mk, eA 0 24 fr], c)) := by
  obtain ⟨hG, hV, hO, hT, hM⟩ := hI
  have bG := hG.1
  have bV := hV.1
  have b5 := iT_24 bG.2.2.2.2 hT
  have e0 := hg 0 (by omega)
  have e1 := hg 1 (by omega)
  have e2 := hg 2 (by omega)
  have e3 := hg 3 (by omega)
  have e4 := hg 4 (by omega)
  have e5 := hg 5 (by omega)
  refine xCallW (N := 3) (M2 := m_M_noGuess) (pc2 := 2) (ls2 := [some (eR 1), some (eI x), some (eI y)]) (st2 := []) (y := m_M_noSlot) (as := [some (eR 1), some (eI x)]) (w2 := ([eA 0 964 g, mZ P, eA 0 144 mk, eA 0 24 fr], c)) rfl (z_noSlot hg ⟨hG, hV, hO, hT, hM⟩ hx h1) ?_
  refine xEqT (N := 1) (x := 0) (y := 0) (A := ev m_M_noGuess 8 [some (eR 1), some (eI x), some (eI y)] [] ([eA 0 964 g, mZ (eUp P 10 0), eA 0 144 mk, eA 0 24 fr], c)) (B := ev m_M_noGuess 16 [some (eR 1), some (eI x), some (eI y)] [] ([eA 0 964 g, mZ (eUp P 10 0), eA 0 144 mk, eA 0 24 fr], c)) rfl (show wr 0 = 0 by decide) (show wr 0 = 0 by decide) (by decide) ?_
  refine xCallW (N := 3) (M2 := m_M_noGuess) (pc2 := 10) (ls2 := [some (eR 1), some (eI x), some (eI y)]) (st2 := []) (y := m_M_noWord) (as := [some (eR 1), some (eI y)]) (w2 := ([eA 0 964 g, mZ (eUp P 10 0), eA 0 144 mk, eA 0 24 fr], c)) rfl (z_noWord (P := eUp P 10 0) hg ⟨hG, hV, hO, hT, hM⟩ hy h2) ?_
  refine xEqT (N := 1) (x := 0) (y := 0) (A := ev m_M_noGuess 20 [some (eR 1), some (eI x), some (eI y)] [] ([eA 0 964 g, mZ (eUp (eUp P 10 0) 10 0), eA 0 144 mk, eA 0 24 fr], c)) (B := ev m_M_noGuess 16 [some (eR 1), some (eI x), some (eI y)] [] ([eA 0 964 g, mZ (eUp (eUp P 10 0) 10 0), eA 0 144 mk, eA 0 24 fr], c)) rfl (show wr 0 = 0 by decide) (show wr 0 = 0 by decide) (by decide) ?_
  refine xRb (N := 2) (v := 0) (w2 := ([eA 0 964 g, mZ (eUp (eUp P 10 0) 10 0), eA 0 144 mk, eA 0 24 fr], c)) rfl (by decide) ?_
  rfl
theorem z_noGuessX {g mk fr P : Nat → Int} {a : eRow} {c : Nat × Nat} (hg : rg g a) (hI : iA a) {x : Int} (bx : -2147483648 ≤ x ∧ x < 2147483648) (h : ¬ (0 ≤ x ∧ x < (a 3 : Int))) {y : Int} : ev m_M_noGuess 0 [some (eR 1), some (eI x), some (eI y)] [] ([eA 0 964 g, mZ P, eA 0 144 mk, eA 0 24 fr], c) = some (.inl (some (eI (1))), ([eA 0 964 g, mZ (eUp P 10 1), eA 0 144 mk, eA 0 24 fr], c)) := by
  obtain ⟨hG, hV, hO, hT, hM⟩ := hI
  have bG := hG.1
  have bV := hV.1
  have b5 := iT_24 bG.2.2.2.2 hT
  have e0 := hg 0 (by omega)
  have e1 := hg 1 (by omega)
  have e2 := hg 2 (by omega)
  have e3 := hg 3 (by omega)
  have e4 := hg 4 (by omega)
  have e5 := hg 5 (by omega)
  refine xCallW (N := 3) (M2 := m_M_noGuess) (pc2 := 2) (ls2 := [some (eR 1), some (eI x), some (eI y)]) (st2 := []) (y := m_M_noSlot) (as := [some (eR 1), some (eI x)]) (w2 := ([eA 0 964 g, mZ P, eA 0 144 mk, eA 0 24 fr], c)) rfl (z_noSlotX hg ⟨hG, hV, hO, hT, hM⟩ bx h) ?_
  refine xEqF (N := 1) (x := 1) (y := 0) (A := ev m_M_noGuess 8 [some (eR 1), some (eI x), some (eI y)] [] ([eA 0 964 g, mZ (eUp P 10 1), eA 0 144 mk, eA 0 24 fr], c)) (B := ev m_M_noGuess 16 [some (eR 1), some (eI x), some (eI y)] [] ([eA 0 964 g, mZ (eUp P 10 1), eA 0 144 mk, eA 0 24 fr], c)) rfl (show wr 1 = 1 by decide) (show wr 0 = 0 by decide) (by decide) ?_
  refine xRb (N := 3) (v := 1) (w2 := ([eA 0 964 g, mZ (eUp P 10 1), eA 0 144 mk, eA 0 24 fr], c)) rfl (by decide) ?_
  rfl
theorem z_noGuessY {g mk fr P : Nat → Int} {a : eRow} {c : Nat × Nat} (hg : rg g a) (hI : iA a) {x : Int} {k : Nat} (hx : x = (k : Int)) (h1 : k < a 3) {y : Int} (bx : -2147483648 ≤ y ∧ y < 2147483648) (h : ¬ (0 ≤ y ∧ y < (a 2 : Int))) : ev m_M_noGuess 0 [some (eR 1), some (eI x), some (eI y)] [] ([eA 0 964 g, mZ P, eA 0 144 mk, eA 0 24 fr], c) = some (.inl (some (eI (1))), ([eA 0 964 g, mZ (eUp P 10 1), eA 0 144 mk, eA 0 24 fr], c)) := by
  obtain ⟨hG, hV, hO, hT, hM⟩ := hI
  have bG := hG.1
  have bV := hV.1
  have b5 := iT_24 bG.2.2.2.2 hT
  have e0 := hg 0 (by omega)
  have e1 := hg 1 (by omega)
  have e2 := hg 2 (by omega)
  have e3 := hg 3 (by omega)
  have e4 := hg 4 (by omega)
  have e5 := hg 5 (by omega)
  refine xCallW (N := 3) (M2 := m_M_noGuess) (pc2 := 2) (ls2 := [some (eR 1), some (eI x), some (eI y)]) (st2 := []) (y := m_M_noSlot) (as := [some (eR 1), some (eI x)]) (w2 := ([eA 0 964 g, mZ P, eA 0 144 mk, eA 0 24 fr], c)) rfl (z_noSlot hg ⟨hG, hV, hO, hT, hM⟩ hx h1) ?_
  refine xEqT (N := 1) (x := 0) (y := 0) (A := ev m_M_noGuess 8 [some (eR 1), some (eI x), some (eI y)] [] ([eA 0 964 g, mZ (eUp P 10 0), eA 0 144 mk, eA 0 24 fr], c)) (B := ev m_M_noGuess 16 [some (eR 1), some (eI x), some (eI y)] [] ([eA 0 964 g, mZ (eUp P 10 0), eA 0 144 mk, eA 0 24 fr], c)) rfl (show wr 0 = 0 by decide) (show wr 0 = 0 by decide) (by decide) ?_
  refine xCallW (N := 3) (M2 := m_M_noGuess) (pc2 := 10) (ls2 := [some (eR 1), some (eI x), some (eI y)]) (st2 := []) (y := m_M_noWord) (as := [some (eR 1), some (eI y)]) (w2 := ([eA 0 964 g, mZ (eUp P 10 0), eA 0 144 mk, eA 0 24 fr], c)) rfl (z_noWordX (P := eUp P 10 0) hg ⟨hG, hV, hO, hT, hM⟩ bx h) ?_
  refine xEqF (N := 1) (x := 1) (y := 0) (A := ev m_M_noGuess 20 [some (eR 1), some (eI x), some (eI y)] [] ([eA 0 964 g, mZ (eUp (eUp P 10 0) 10 1), eA 0 144 mk, eA 0 24 fr], c)) (B := ev m_M_noGuess 16 [some (eR 1), some (eI x), some (eI y)] [] ([eA 0 964 g, mZ (eUp (eUp P 10 0) 10 1), eA 0 144 mk, eA 0 24 fr], c)) rfl (show wr 1 = 1 by decide) (show wr 0 = 0 by decide) (by decide) ?_
  refine xRb (N := 3) (v := 1) (w2 := ([eA 0 964 g, mZ (eUp (eUp P 10 0) 10 1), eA 0 144 mk, eA 0 24 fr], c)) rfl (by decide) ?_
  rfl
theorem z_isBlocked {g mk fr P : Nat → Int} {a : eRow} {c : Nat × Nat} (hg : rg g a) (hI : iA a) {x y : Int} {xn yn : Nat} (hx : x = (xn : Int)) (hy : y = (yn : Int)) (h1 : xn < a 0) (h2 : yn < a 1) : ev m_M_isBlocked 0 [some (eR 1), some (eI x), some (eI y)] [] ([eA 0 964 g, mZ P, eA 0 144 mk, eA 0 24 fr], c) = some (.inl (some (eI (((a (16 + (6 * yn + xn)) : Nat) : Int)))), ([eA 0 964 g, mZ (eUp P 10 0), eA 0 144 mk, eA 0 24 fr], c)) := by
  obtain ⟨hG, hV, hO, hT, hM⟩ := hI
  have bG := hG.1
  have bV := hV.1
  have b5 := iT_24 bG.2.2.2.2 hT
  have e0 := hg 0 (by omega)
  have e1 := hg 1 (by omega)
  have e2 := hg 2 (by omega)
  have e3 := hg 3 (by omega)
  have e4 := hg 4 (by omega)
  have e5 := hg 5 (by omega)
  have hb := hg (16 + (6 * yn + xn)) (by omega)
  have hb1 := (hG.2.1 (6 * yn + xn) (by omega)).1
  refine xCallW (N := 4) (M2 := m_M_isBlocked) (pc2 := 3) (ls2 := [some (eR 1), some (eI x), some (eI y)]) (st2 := []) (y := m_M_noCell) (as := [some (eR 1), some (eI x), some (eI y)]) (w2 := ([eA 0 964 g, mZ P, eA 0 144 mk, eA 0 24 fr], c)) rfl (z_noCell hg ⟨hG, hV, hO, hT, hM⟩ hx hy h1 h2) ?_
  refine xEqT (N := 1) (x := 0) (y := 0) (A := ev m_M_isBlocked 11 [some (eR 1), some (eI x), some (eI y)] [] ([eA 0 964 g, mZ (eUp P 10 0), eA 0 144 mk, eA 0 24 fr], c)) (B := ev m_M_isBlocked 9 [some (eR 1), some (eI x), some (eI y)] [] ([eA 0 964 g, mZ (eUp P 10 0), eA 0 144 mk, eA 0 24 fr], c)) rfl (show wr 0 = 0 by decide) (show wr 0 = 0 by decide) (by decide) ?_
  refine xCallI (N := 8) (v := 6 * y + x) (M2 := m_M_isBlocked) (pc2 := 23) (ls2 := [some (eR 1), some (eI x), some (eI y)]) (st2 := [eI 16, eR 0]) (y := m_M_cellOf) (as := [some (eR 0), some (eI x), some (eI y)]) (w2 := ([eA 0 964 g, mZ (eUp P 10 0), eA 0 144 mk, eA 0 24 fr], c)) rfl n_cellOf (fun r23 hr23 => ?_)
  refine xLd (N := 2) (n := 964) (i := 16 + r23) (F := fun zq => ev m_M_isBlocked 28 [some (eR 1), some (eI x), some (eI y)] [eI (g zq)] ([eA 0 964 g, mZ (eUp P 10 0), eA 0 144 mk, eA 0 24 fr], c)) (k := 16 + (6 * yn + xn)) rfl (wr_nat (by omega) (by omega)) (by omega) ?_
  refine xEq (N := 2) (x := g (16 + (6 * yn + xn))) (y := 1) (A := ev m_M_isBlocked 32 [some (eR 1), some (eI x), some (eI y)] [] ([eA 0 964 g, mZ (eUp P 10 0), eA 0 144 mk, eA 0 24 fr], c)) (B := ev m_M_isBlocked 36 [some (eR 1), some (eI x), some (eI y)] [] ([eA 0 964 g, mZ (eUp P 10 0), eA 0 144 mk, eA 0 24 fr], c)) rfl (wr_id (by omega) (by omega)) (show wr 1 = 1 by decide) (fun h29 => ?_) (fun h29 => ?_)
  · refine xRb (N := 3) (v := 1) (w2 := ([eA 0 964 g, mZ (eUp P 10 0), eA 0 144 mk, eA 0 24 fr], c)) rfl (by decide) ?_
    exact lf (by omega)
  · refine xRb (N := 2) (v := 0) (w2 := ([eA 0 964 g, mZ (eUp P 10 0), eA 0 144 mk, eA 0 24 fr], c)) rfl (by decide) ?_
    exact lf (by omega)
theorem z_givenLetter {g mk fr P : Nat → Int} {a : eRow} {c : Nat × Nat} (hg : rg g a) (hI : iA a) {x y : Int} {xn yn : Nat} (hx : x = (xn : Int)) (hy : y = (yn : Int)) (h1 : xn < a 0) (h2 : yn < a 1) : ev m_M_givenLetter 0 [some (eR 1), some (eI x), some (eI y)] [] ([eA 0 964 g, mZ P, eA 0 144 mk, eA 0 24 fr], c) = some (.inl (some (eI (((a (52 + (6 * yn + xn)) : Nat) : Int)))), ([eA 0 964 g, mZ (eUp P 10 0), eA 0 144 mk, eA 0 24 fr], c)) := by
  obtain ⟨hG, hV, hO, hT, hM⟩ := hI
  have bG := hG.1
  have bV := hV.1
  have b5 := iT_24 bG.2.2.2.2 hT
  have e0 := hg 0 (by omega)
  have e1 := hg 1 (by omega)
  have e2 := hg 2 (by omega)
  have e3 := hg 3 (by omega)
  have e4 := hg 4 (by omega)
  have e5 := hg 5 (by omega)
  have hb := hg (52 + (6 * yn + xn)) (by omega)
  refine xCallW (N := 4) (M2 := m_M_givenLetter) (pc2 := 3) (ls2 := [some (eR 1), some (eI x), some (eI y)]) (st2 := []) (y := m_M_noCell) (as := [some (eR 1), some (eI x), some (eI y)]) (w2 := ([eA 0 964 g, mZ P, eA 0 144 mk, eA 0 24 fr], c)) rfl (z_noCell hg ⟨hG, hV, hO, hT, hM⟩ hx hy h1 h2) ?_
  refine xEqT (N := 1) (x := 0) (y := 0) (A := ev m_M_givenLetter 11 [some (eR 1), some (eI x), some (eI y)] [] ([eA 0 964 g, mZ (eUp P 10 0), eA 0 144 mk, eA 0 24 fr], c)) (B := ev m_M_givenLetter 9 [some (eR 1), some (eI x), some (eI y)] [] ([eA 0 964 g, mZ (eUp P 10 0), eA 0 144 mk, eA 0 24 fr], c)) rfl (show wr 0 = 0 by decide) (show wr 0 = 0 by decide) (by decide) ?_
  refine xCallI (N := 8) (v := 6 * y + x) (M2 := m_M_givenLetter) (pc2 := 23) (ls2 := [some (eR 1), some (eI x), some (eI y)]) (st2 := [eI 52, eR 0]) (y := m_M_cellOf) (as := [some (eR 0), some (eI x), some (eI y)]) (w2 := ([eA 0 964 g, mZ (eUp P 10 0), eA 0 144 mk, eA 0 24 fr], c)) rfl n_cellOf (fun r23 hr23 => ?_)
  refine xLd (N := 2) (n := 964) (i := 52 + r23) (F := fun zq => ev m_M_givenLetter 28 [some (eR 1), some (eI x), some (eI y)] [eI (g zq)] ([eA 0 964 g, mZ (eUp P 10 0), eA 0 144 mk, eA 0 24 fr], c)) (k := 52 + (6 * yn + xn)) rfl (wr_nat (by omega) (by omega)) (by omega) ?_
  refine xSeg (N := 1) (r := some (.inl (some (eI (g (52 + (6 * yn + xn))))), ([eA 0 964 g, mZ (eUp P 10 0), eA 0 144 mk, eA 0 24 fr], c))) rfl ?_
  exact lf hb
theorem z_isBlockedX {g mk fr P : Nat → Int} {a : eRow} {c : Nat × Nat} (hg : rg g a) (hI : iA a) {x y : Int} (bx : -2147483648 ≤ x ∧ x < 2147483648) (by_ : -2147483648 ≤ y ∧ y < 2147483648) (h : inG (a 0) (a 1) x y = false) : ev m_M_isBlocked 0 [some (eR 1), some (eI x), some (eI y)] [] ([eA 0 964 g, mZ P, eA 0 144 mk, eA 0 24 fr], c) = some (.inl (some (eI (0))), ([eA 0 964 g, mZ (eUp P 10 1), eA 0 144 mk, eA 0 24 fr], c)) := by
  obtain ⟨hG, hV, hO, hT, hM⟩ := hI
  have bG := hG.1
  have bV := hV.1
  have b5 := iT_24 bG.2.2.2.2 hT
  have e0 := hg 0 (by omega)
  have e1 := hg 1 (by omega)
  have e2 := hg 2 (by omega)
  have e3 := hg 3 (by omega)
  have e4 := hg 4 (by omega)
  have e5 := hg 5 (by omega)
  refine xCallW (N := 4) (M2 := m_M_isBlocked) (pc2 := 3) (ls2 := [some (eR 1), some (eI x), some (eI y)]) (st2 := []) (y := m_M_noCell) (as := [some (eR 1), some (eI x), some (eI y)]) (w2 := ([eA 0 964 g, mZ P, eA 0 144 mk, eA 0 24 fr], c)) rfl (z_noCellX hg ⟨hG, hV, hO, hT, hM⟩ bx by_ h) ?_
  refine xEqF (N := 1) (x := 1) (y := 0) (A := ev m_M_isBlocked 11 [some (eR 1), some (eI x), some (eI y)] [] ([eA 0 964 g, mZ (eUp P 10 1), eA 0 144 mk, eA 0 24 fr], c)) (B := ev m_M_isBlocked 9 [some (eR 1), some (eI x), some (eI y)] [] ([eA 0 964 g, mZ (eUp P 10 1), eA 0 144 mk, eA 0 24 fr], c)) rfl (show wr 1 = 1 by decide) (show wr 0 = 0 by decide) (by decide) ?_
  refine xRb (N := 2) (v := 0) (w2 := ([eA 0 964 g, mZ (eUp P 10 1), eA 0 144 mk, eA 0 24 fr], c)) rfl (by decide) ?_
  rfl
theorem z_givenLetterX {g mk fr P : Nat → Int} {a : eRow} {c : Nat × Nat} (hg : rg g a) (hI : iA a) {x y : Int} (bx : -2147483648 ≤ x ∧ x < 2147483648) (by_ : -2147483648 ≤ y ∧ y < 2147483648) (h : inG (a 0) (a 1) x y = false) : ev m_M_givenLetter 0 [some (eR 1), some (eI x), some (eI y)] [] ([eA 0 964 g, mZ P, eA 0 144 mk, eA 0 24 fr], c) = some (.inl (some (eI (0))), ([eA 0 964 g, mZ (eUp P 10 1), eA 0 144 mk, eA 0 24 fr], c)) := by
  obtain ⟨hG, hV, hO, hT, hM⟩ := hI
  have bG := hG.1
  have bV := hV.1
  have b5 := iT_24 bG.2.2.2.2 hT
  have e0 := hg 0 (by omega)
  have e1 := hg 1 (by omega)
  have e2 := hg 2 (by omega)
  have e3 := hg 3 (by omega)
  have e4 := hg 4 (by omega)
  have e5 := hg 5 (by omega)
  refine xCallW (N := 4) (M2 := m_M_givenLetter) (pc2 := 3) (ls2 := [some (eR 1), some (eI x), some (eI y)]) (st2 := []) (y := m_M_noCell) (as := [some (eR 1), some (eI x), some (eI y)]) (w2 := ([eA 0 964 g, mZ P, eA 0 144 mk, eA 0 24 fr], c)) rfl (z_noCellX hg ⟨hG, hV, hO, hT, hM⟩ bx by_ h) ?_
  refine xEqF (N := 1) (x := 1) (y := 0) (A := ev m_M_givenLetter 11 [some (eR 1), some (eI x), some (eI y)] [] ([eA 0 964 g, mZ (eUp P 10 1), eA 0 144 mk, eA 0 24 fr], c)) (B := ev m_M_givenLetter 9 [some (eR 1), some (eI x), some (eI y)] [] ([eA 0 964 g, mZ (eUp P 10 1), eA 0 144 mk, eA 0 24 fr], c)) rfl (show wr 1 = 1 by decide) (show wr 0 = 0 by decide) (by decide) ?_
  refine xSeg (N := 2) (r := some (.inl (some (eI 0)), ([eA 0 964 g, mZ (eUp P 10 1), eA 0 144 mk, eA 0 24 fr], c))) rfl ?_
  rfl
theorem z_slotAt0 {g mk fr P : Nat → Int} {a : eRow} {c : Nat × Nat} (hg : rg g a) (hI : iA a) {x y : Int} {xn yn : Nat} (hx : x = (xn : Int)) (hy : y = (yn : Int)) (h1 : xn < a 0) (h2 : yn < a 1) {z : Int} (hz : z = 0) : ev m_M_slotAt 0 [some (eR 1), some (eI x), some (eI y), some (eI z)] [] ([eA 0 964 g, mZ P, eA 0 144 mk, eA 0 24 fr], c) = some (.inl (some (eI (((a (244 + (6 * yn + xn)) : Nat) : Int) - 1))), ([eA 0 964 g, mZ (eUp P 10 0), eA 0 144 mk, eA 0 24 fr], c)) := by
  obtain ⟨hG, hV, hO, hT, hM⟩ := hI
  have bG := hG.1
  have bV := hV.1
  have b5 := iT_24 bG.2.2.2.2 hT
  have e0 := hg 0 (by omega)
  have e1 := hg 1 (by omega)
  have e2 := hg 2 (by omega)
  have e3 := hg 3 (by omega)
  have e4 := hg 4 (by omega)
  have e5 := hg 5 (by omega)
  have hb := hg (244 + (6 * yn + xn)) (by omega)
  refine xCallW (N := 4) (M2 := m_M_slotAt) (pc2 := 3) (ls2 := [some (eR 1), some (eI x), some (eI y), some (eI z)]) (st2 := []) (y := m_M_noCell) (as := [some (eR 1), some (eI x), some (eI y)]) (w2 := ([eA 0 964 g, mZ P, eA 0 144 mk, eA 0 24 fr], c)) rfl (z_noCell hg ⟨hG, hV, hO, hT, hM⟩ hx hy h1 h2) ?_
  refine xEqT (N := 1) (x := 0) (y := 0) (A := ev m_M_slotAt 11 [some (eR 1), some (eI x), some (eI y), some (eI z)] [] ([eA 0 964 g, mZ (eUp P 10 0), eA 0 144 mk, eA 0 24 fr], c)) (B := ev m_M_slotAt 9 [some (eR 1), some (eI x), some (eI y), some (eI z)] [] ([eA 0 964 g, mZ (eUp P 10 0), eA 0 144 mk, eA 0 24 fr], c)) rfl (show wr 0 = 0 by decide) (show wr 0 = 0 by decide) (by decide) ?_
  refine xEqT (N := 4) (x := z) (y := 0) (A := ev m_M_slotAt 25 [some (eR 1), some (eI x), some (eI y), some (eI z)] [eR 0] ([eA 0 964 g, mZ (eUp P 10 0), eA 0 144 mk, eA 0 24 fr], c)) (B := ev m_M_slotAt 19 [some (eR 1), some (eI x), some (eI y), some (eI z)] [eR 0] ([eA 0 964 g, mZ (eUp P 10 0), eA 0 144 mk, eA 0 24 fr], c)) rfl (wr_id (by omega) (by omega)) (show wr 0 = 0 by decide) (by omega) ?_
  refine xCallI (N := 6) (v := 6 * y + x) (M2 := m_M_slotAt) (pc2 := 34) (ls2 := [some (eR 1), some (eI x), some (eI y), some (eI z)]) (st2 := [eI 244, eR 0]) (y := m_M_cellOf) (as := [some (eR 0), some (eI x), some (eI y)]) (w2 := ([eA 0 964 g, mZ (eUp P 10 0), eA 0 144 mk, eA 0 24 fr], c)) rfl n_cellOf (fun r34 hr34 => ?_)
  refine xLd (N := 2) (n := 964) (i := 244 + r34) (F := fun zq => ev m_M_slotAt 39 [some (eR 1), some (eI x), some (eI y), some (eI z)] [eI (g zq)] ([eA 0 964 g, mZ (eUp P 10 0), eA 0 144 mk, eA 0 24 fr], c)) (k := 244 + (6 * yn + xn)) rfl (wr_nat (by omega) (by omega)) (by omega) ?_
  refine xSeg (N := 3) (r := some (.inl (some (eI ((g (244 + (6 * yn + xn))) - 1))), ([eA 0 964 g, mZ (eUp P 10 0), eA 0 144 mk, eA 0 24 fr], c))) rfl ?_
  exact lf (by rw [hb])
theorem z_slotAt1 {g mk fr P : Nat → Int} {a : eRow} {c : Nat × Nat} (hg : rg g a) (hI : iA a) {x y : Int} {xn yn : Nat} (hx : x = (xn : Int)) (hy : y = (yn : Int)) (h1 : xn < a 0) (h2 : yn < a 1) {z : Int} (hz : z = 1) : ev m_M_slotAt 0 [some (eR 1), some (eI x), some (eI y), some (eI z)] [] ([eA 0 964 g, mZ P, eA 0 144 mk, eA 0 24 fr], c) = some (.inl (some (eI (((a (280 + (6 * yn + xn)) : Nat) : Int) - 1))), ([eA 0 964 g, mZ (eUp P 10 0), eA 0 144 mk, eA 0 24 fr], c)) := by
  obtain ⟨hG, hV, hO, hT, hM⟩ := hI
  have bG := hG.1
  have bV := hV.1
  have b5 := iT_24 bG.2.2.2.2 hT
  have e0 := hg 0 (by omega)
  have e1 := hg 1 (by omega)
  have e2 := hg 2 (by omega)
  have e3 := hg 3 (by omega)
  have e4 := hg 4 (by omega)
  have e5 := hg 5 (by omega)
  have hb := hg (280 + (6 * yn + xn)) (by omega)
  refine xCallW (N := 4) (M2 := m_M_slotAt) (pc2 := 3) (ls2 := [some (eR 1), some (eI x), some (eI y), some (eI z)]) (st2 := []) (y := m_M_noCell) (as := [some (eR 1), some (eI x), some (eI y)]) (w2 := ([eA 0 964 g, mZ P, eA 0 144 mk, eA 0 24 fr], c)) rfl (z_noCell hg ⟨hG, hV, hO, hT, hM⟩ hx hy h1 h2) ?_
  refine xEqT (N := 1) (x := 0) (y := 0) (A := ev m_M_slotAt 11 [some (eR 1), some (eI x), some (eI y), some (eI z)] [] ([eA 0 964 g, mZ (eUp P 10 0), eA 0 144 mk, eA 0 24 fr], c)) (B := ev m_M_slotAt 9 [some (eR 1), some (eI x), some (eI y), some (eI z)] [] ([eA 0 964 g, mZ (eUp P 10 0), eA 0 144 mk, eA 0 24 fr], c)) rfl (show wr 0 = 0 by decide) (show wr 0 = 0 by decide) (by decide) ?_
  refine xEqF (N := 4) (x := z) (y := 0) (A := ev m_M_slotAt 25 [some (eR 1), some (eI x), some (eI y), some (eI z)] [eR 0] ([eA 0 964 g, mZ (eUp P 10 0), eA 0 144 mk, eA 0 24 fr], c)) (B := ev m_M_slotAt 19 [some (eR 1), some (eI x), some (eI y), some (eI z)] [eR 0] ([eA 0 964 g, mZ (eUp P 10 0), eA 0 144 mk, eA 0 24 fr], c)) rfl (wr_id (by omega) (by omega)) (show wr 0 = 0 by decide) (by omega) ?_
  refine xCallI (N := 7) (v := 6 * y + x) (M2 := m_M_slotAt) (pc2 := 34) (ls2 := [some (eR 1), some (eI x), some (eI y), some (eI z)]) (st2 := [eI 280, eR 0]) (y := m_M_cellOf) (as := [some (eR 0), some (eI x), some (eI y)]) (w2 := ([eA 0 964 g, mZ (eUp P 10 0), eA 0 144 mk, eA 0 24 fr], c)) rfl n_cellOf (fun r34 hr34 => ?_)
  refine xLd (N := 2) (n := 964) (i := 280 + r34) (F := fun zq => ev m_M_slotAt 39 [some (eR 1), some (eI x), some (eI y), some (eI z)] [eI (g zq)] ([eA 0 964 g, mZ (eUp P 10 0), eA 0 144 mk, eA 0 24 fr], c)) (k := 280 + (6 * yn + xn)) rfl (wr_nat (by omega) (by omega)) (by omega) ?_
  refine xSeg (N := 3) (r := some (.inl (some (eI ((g (280 + (6 * yn + xn))) - 1))), ([eA 0 964 g, mZ (eUp P 10 0), eA 0 144 mk, eA 0 24 fr], c))) rfl ?_
  exact lf (by rw [hb])
theorem z_slotAtX {g mk fr P : Nat → Int} {a : eRow} {c : Nat × Nat} (hg : rg g a) (hI : iA a) {x y : Int} (bx : -2147483648 ≤ x ∧ x < 2147483648) (by_ : -2147483648 ≤ y ∧ y < 2147483648) (h : inG (a 0) (a 1) x y = false) {z : Int} : ev m_M_slotAt 0 [some (eR 1), some (eI x), some (eI y), some (eI z)] [] ([eA 0 964 g, mZ P, eA 0 144 mk, eA 0 24 fr], c) = some (.inl (some (eI (0))), ([eA 0 964 g, mZ (eUp P 10 1), eA 0 144 mk, eA 0 24 fr], c)) := by
  obtain ⟨hG, hV, hO, hT, hM⟩ := hI
  have bG := hG.1
  have bV := hV.1
  have b5 := iT_24 bG.2.2.2.2 hT
  have e0 := hg 0 (by omega)
  have e1 := hg 1 (by omega)
  have e2 := hg 2 (by omega)
  have e3 := hg 3 (by omega)
  have e4 := hg 4 (by omega)
  have e5 := hg 5 (by omega)
  refine xCallW (N := 4) (M2 := m_M_slotAt) (pc2 := 3) (ls2 := [some (eR 1), some (eI x), some (eI y), some (eI z)]) (st2 := []) (y := m_M_noCell) (as := [some (eR 1), some (eI x), some (eI y)]) (w2 := ([eA 0 964 g, mZ P, eA 0 144 mk, eA 0 24 fr], c)) rfl (z_noCellX hg ⟨hG, hV, hO, hT, hM⟩ bx by_ h) ?_
  refine xEqF (N := 1) (x := 1) (y := 0) (A := ev m_M_slotAt 11 [some (eR 1), some (eI x), some (eI y), some (eI z)] [] ([eA 0 964 g, mZ (eUp P 10 1), eA 0 144 mk, eA 0 24 fr], c)) (B := ev m_M_slotAt 9 [some (eR 1), some (eI x), some (eI y), some (eI z)] [] ([eA 0 964 g, mZ (eUp P 10 1), eA 0 144 mk, eA 0 24 fr], c)) rfl (show wr 1 = 1 by decide) (show wr 0 = 0 by decide) (by decide) ?_
  refine xSeg (N := 2) (r := some (.inl (some (eI 0)), ([eA 0 964 g, mZ (eUp P 10 1), eA 0 144 mk, eA 0 24 fr], c))) rfl ?_
  rfl
theorem z_firstX {g mk fr P : Nat → Int} {a : eRow} {c : Nat × Nat} (hg : rg g a) (hI : iA a) {x : Int} {k : Nat} (hx : x = (k : Int)) (h1 : k < a 3) : ev m_M_firstX 0 [some (eR 1), some (eI x)] [] ([eA 0 964 g, mZ P, eA 0 144 mk, eA 0 24 fr], c) = some (.inl (some (eI (((sx a k : Nat) : Int)))), ([eA 0 964 g, mZ (eUp P 10 0), eA 0 144 mk, eA 0 24 fr], c)) := by
  obtain ⟨hG, hV, hO, hT, hM⟩ := hI
  have bG := hG.1
  have bV := hV.1
  have b5 := iT_24 bG.2.2.2.2 hT
  have e0 := hg 0 (by omega)
  have e1 := hg 1 (by omega)
  have e2 := hg 2 (by omega)
  have e3 := hg 3 (by omega)
  have e4 := hg 4 (by omega)
  have e5 := hg 5 (by omega)
  have hb := hg (148 + 4 * k + 0) (by omega)
  refine xCallW (N := 3) (M2 := m_M_firstX) (pc2 := 2) (ls2 := [some (eR 1), some (eI x)]) (st2 := []) (y := m_M_noSlot) (as := [some (eR 1), some (eI x)]) (w2 := ([eA 0 964 g, mZ P, eA 0 144 mk, eA 0 24 fr], c)) rfl (z_noSlot hg ⟨hG, hV, hO, hT, hM⟩ hx h1) ?_
  refine xEqT (N := 1) (x := 0) (y := 0) (A := ev m_M_firstX 10 [some (eR 1), some (eI x)] [] ([eA 0 964 g, mZ (eUp P 10 0), eA 0 144 mk, eA 0 24 fr], c)) (B := ev m_M_firstX 8 [some (eR 1), some (eI x)] [] ([eA 0 964 g, mZ (eUp P 10 0), eA 0 144 mk, eA 0 24 fr], c)) rfl (show wr 0 = 0 by decide) (show wr 0 = 0 by decide) (by decide) ?_
  refine xCallI (N := 4) (v := 148 + 4 * x) (M2 := m_M_firstX) (pc2 := 15) (ls2 := [some (eR 1), some (eI x)]) (st2 := [eR 0]) (y := m_M_ofSlot) (as := [some (eI x)]) (w2 := ([eA 0 964 g, mZ (eUp P 10 0), eA 0 144 mk, eA 0 24 fr], c)) rfl n_ofSlot (fun r15 hr15 => ?_)
  refine xLd (N := 3) (n := 964) (i := r15 + 0) (F := fun zq => ev m_M_firstX 21 [some (eR 1), some (eI x)] [eI (g zq)] ([eA 0 964 g, mZ (eUp P 10 0), eA 0 144 mk, eA 0 24 fr], c)) (k := (148 + 4 * k) + 0) rfl (wr_nat (by omega) (by omega)) (by omega) ?_
  refine xSeg (N := 1) (r := some (.inl (some (eI (g ((148 + 4 * k) + 0)))), ([eA 0 964 g, mZ (eUp P 10 0), eA 0 144 mk, eA 0 24 fr], c))) rfl ?_
  exact lf hb
theorem z_firstY {g mk fr P : Nat → Int} {a : eRow} {c : Nat × Nat} (hg : rg g a) (hI : iA a) {x : Int} {k : Nat} (hx : x = (k : Int)) (h1 : k < a 3) : ev m_M_firstY 0 [some (eR 1), some (eI x)] [] ([eA 0 964 g, mZ P, eA 0 144 mk, eA 0 24 fr], c) = some (.inl (some (eI (((sy a k : Nat) : Int)))), ([eA 0 964 g, mZ (eUp P 10 0), eA 0 144 mk, eA 0 24 fr], c)) := by
  obtain ⟨hG, hV, hO, hT, hM⟩ := hI
  have bG := hG.1
  have bV := hV.1
  have b5 := iT_24 bG.2.2.2.2 hT
  have e0 := hg 0 (by omega)
  have e1 := hg 1 (by omega)
  have e2 := hg 2 (by omega)
  have e3 := hg 3 (by omega)
  have e4 := hg 4 (by omega)
  have e5 := hg 5 (by omega)
  have hb := hg (148 + 4 * k + 1) (by omega)
  refine xCallW (N := 3) (M2 := m_M_firstY) (pc2 := 2) (ls2 := [some (eR 1), some (eI x)]) (st2 := []) (y := m_M_noSlot) (as := [some (eR 1), some (eI x)]) (w2 := ([eA 0 964 g, mZ P, eA 0 144 mk, eA 0 24 fr], c)) rfl (z_noSlot hg ⟨hG, hV, hO, hT, hM⟩ hx h1) ?_
  refine xEqT (N := 1) (x := 0) (y := 0) (A := ev m_M_firstY 10 [some (eR 1), some (eI x)] [] ([eA 0 964 g, mZ (eUp P 10 0), eA 0 144 mk, eA 0 24 fr], c)) (B := ev m_M_firstY 8 [some (eR 1), some (eI x)] [] ([eA 0 964 g, mZ (eUp P 10 0), eA 0 144 mk, eA 0 24 fr], c)) rfl (show wr 0 = 0 by decide) (show wr 0 = 0 by decide) (by decide) ?_
  refine xCallI (N := 4) (v := 148 + 4 * x) (M2 := m_M_firstY) (pc2 := 15) (ls2 := [some (eR 1), some (eI x)]) (st2 := [eR 0]) (y := m_M_ofSlot) (as := [some (eI x)]) (w2 := ([eA 0 964 g, mZ (eUp P 10 0), eA 0 144 mk, eA 0 24 fr], c)) rfl n_ofSlot (fun r15 hr15 => ?_)
  refine xLd (N := 3) (n := 964) (i := r15 + 1) (F := fun zq => ev m_M_firstY 21 [some (eR 1), some (eI x)] [eI (g zq)] ([eA 0 964 g, mZ (eUp P 10 0), eA 0 144 mk, eA 0 24 fr], c)) (k := (148 + 4 * k) + 1) rfl (wr_nat (by omega) (by omega)) (by omega) ?_
  refine xSeg (N := 1) (r := some (.inl (some (eI (g ((148 + 4 * k) + 1)))), ([eA 0 964 g, mZ (eUp P 10 0), eA 0 144 mk, eA 0 24 fr], c))) rfl ?_
  exact lf hb
theorem z_lengthOf {g mk fr P : Nat → Int} {a : eRow} {c : Nat × Nat} (hg : rg g a) (hI : iA a) {x : Int} {k : Nat} (hx : x = (k : Int)) (h1 : k < a 3) : ev m_M_lengthOf 0 [some (eR 1), some (eI x)] [] ([eA 0 964 g, mZ P, eA 0 144 mk, eA 0 24 fr], c) = some (.inl (some (eI (((sl a k : Nat) : Int)))), ([eA 0 964 g, mZ (eUp P 10 0), eA 0 144 mk, eA 0 24 fr], c)) := by
  obtain ⟨hG, hV, hO, hT, hM⟩ := hI
  have bG := hG.1
  have bV := hV.1
  have b5 := iT_24 bG.2.2.2.2 hT
  have e0 := hg 0 (by omega)
  have e1 := hg 1 (by omega)
  have e2 := hg 2 (by omega)
  have e3 := hg 3 (by omega)
  have e4 := hg 4 (by omega)
  have e5 := hg 5 (by omega)
  have hb := hg (148 + 4 * k + 2) (by omega)
  refine xCallW (N := 3) (M2 := m_M_lengthOf) (pc2 := 2) (ls2 := [some (eR 1), some (eI x)]) (st2 := []) (y := m_M_noSlot) (as := [some (eR 1), some (eI x)]) (w2 := ([eA 0 964 g, mZ P, eA 0 144 mk, eA 0 24 fr], c)) rfl (z_noSlot hg ⟨hG, hV, hO, hT, hM⟩ hx h1) ?_
  refine xEqT (N := 1) (x := 0) (y := 0) (A := ev m_M_lengthOf 10 [some (eR 1), some (eI x)] [] ([eA 0 964 g, mZ (eUp P 10 0), eA 0 144 mk, eA 0 24 fr], c)) (B := ev m_M_lengthOf 8 [some (eR 1), some (eI x)] [] ([eA 0 964 g, mZ (eUp P 10 0), eA 0 144 mk, eA 0 24 fr], c)) rfl (show wr 0 = 0 by decide) (show wr 0 = 0 by decide) (by decide) ?_
  refine xCallI (N := 4) (v := 148 + 4 * x) (M2 := m_M_lengthOf) (pc2 := 15) (ls2 := [some (eR 1), some (eI x)]) (st2 := [eR 0]) (y := m_M_ofSlot) (as := [some (eI x)]) (w2 := ([eA 0 964 g, mZ (eUp P 10 0), eA 0 144 mk, eA 0 24 fr], c)) rfl n_ofSlot (fun r15 hr15 => ?_)
  refine xLd (N := 3) (n := 964) (i := r15 + 2) (F := fun zq => ev m_M_lengthOf 21 [some (eR 1), some (eI x)] [eI (g zq)] ([eA 0 964 g, mZ (eUp P 10 0), eA 0 144 mk, eA 0 24 fr], c)) (k := (148 + 4 * k) + 2) rfl (wr_nat (by omega) (by omega)) (by omega) ?_
  refine xSeg (N := 1) (r := some (.inl (some (eI (g ((148 + 4 * k) + 2)))), ([eA 0 964 g, mZ (eUp P 10 0), eA 0 144 mk, eA 0 24 fr], c))) rfl ?_
  exact lf hb
theorem z_isDown {g mk fr P : Nat → Int} {a : eRow} {c : Nat × Nat} (hg : rg g a) (hI : iA a) {x : Int} {k : Nat} (hx : x = (k : Int)) (h1 : k < a 3) : ev m_M_isDown 0 [some (eR 1), some (eI x)] [] ([eA 0 964 g, mZ P, eA 0 144 mk, eA 0 24 fr], c) = some (.inl (some (eI (((sd a k : Nat) : Int)))), ([eA 0 964 g, mZ (eUp P 10 0), eA 0 144 mk, eA 0 24 fr], c)) := by
  obtain ⟨hG, hV, hO, hT, hM⟩ := hI
  have bG := hG.1
  have bV := hV.1
  have b5 := iT_24 bG.2.2.2.2 hT
  have e0 := hg 0 (by omega)
  have e1 := hg 1 (by omega)
  have e2 := hg 2 (by omega)
  have e3 := hg 3 (by omega)
  have e4 := hg 4 (by omega)
  have e5 := hg 5 (by omega)
  have hb : g (148 + 4 * k + 3) = ((sd a k : Nat) : Int) := hg (148 + 4 * k + 3) (by omega)
  have hb1 := (sl_at hG h1).1
  refine xCallW (N := 3) (M2 := m_M_isDown) (pc2 := 2) (ls2 := [some (eR 1), some (eI x)]) (st2 := []) (y := m_M_noSlot) (as := [some (eR 1), some (eI x)]) (w2 := ([eA 0 964 g, mZ P, eA 0 144 mk, eA 0 24 fr], c)) rfl (z_noSlot hg ⟨hG, hV, hO, hT, hM⟩ hx h1) ?_
  refine xEqT (N := 1) (x := 0) (y := 0) (A := ev m_M_isDown 10 [some (eR 1), some (eI x)] [] ([eA 0 964 g, mZ (eUp P 10 0), eA 0 144 mk, eA 0 24 fr], c)) (B := ev m_M_isDown 8 [some (eR 1), some (eI x)] [] ([eA 0 964 g, mZ (eUp P 10 0), eA 0 144 mk, eA 0 24 fr], c)) rfl (show wr 0 = 0 by decide) (show wr 0 = 0 by decide) (by decide) ?_
  refine xCallI (N := 4) (v := 148 + 4 * x) (M2 := m_M_isDown) (pc2 := 15) (ls2 := [some (eR 1), some (eI x)]) (st2 := [eR 0]) (y := m_M_ofSlot) (as := [some (eI x)]) (w2 := ([eA 0 964 g, mZ (eUp P 10 0), eA 0 144 mk, eA 0 24 fr], c)) rfl n_ofSlot (fun r15 hr15 => ?_)
  refine xLd (N := 3) (n := 964) (i := r15 + 3) (F := fun zq => ev m_M_isDown 21 [some (eR 1), some (eI x)] [eI (g zq)] ([eA 0 964 g, mZ (eUp P 10 0), eA 0 144 mk, eA 0 24 fr], c)) (k := (148 + 4 * k) + 3) rfl (wr_nat (by omega) (by omega)) (by omega) ?_
  refine xEq (N := 2) (x := g ((148 + 4 * k) + 3)) (y := 1) (A := ev m_M_isDown 25 [some (eR 1), some (eI x)] [] ([eA 0 964 g, mZ (eUp P 10 0), eA 0 144 mk, eA 0 24 fr], c)) (B := ev m_M_isDown 29 [some (eR 1), some (eI x)] [] ([eA 0 964 g, mZ (eUp P 10 0), eA 0 144 mk, eA 0 24 fr], c)) rfl (wr_id (by omega) (by omega)) (show wr 1 = 1 by decide) (fun h22 => ?_) (fun h22 => ?_)
  · refine xRb (N := 3) (v := 1) (w2 := ([eA 0 964 g, mZ (eUp P 10 0), eA 0 144 mk, eA 0 24 fr], c)) rfl (by decide) ?_
    exact lf (by omega)
  · refine xRb (N := 2) (v := 0) (w2 := ([eA 0 964 g, mZ (eUp P 10 0), eA 0 144 mk, eA 0 24 fr], c)) rfl (by decide) ?_
    exact lf (by omega)
theorem z_crossingCount {g mk fr P : Nat → Int} {a : eRow} {c : Nat × Nat} (hg : rg g a) (hI : iA a) {x : Int} {k : Nat} (hx : x = (k : Int)) (h1 : k < a 3) : ev m_M_crossingCount 0 [some (eR 1), some (eI x)] [] ([eA 0 964 g, mZ P, eA 0 144 mk, eA 0 24 fr], c) = some (.inl (some (eI (((fb_ct (fun p => decide (oth a k p ≠ 0)) (sl a k) : Nat) : Int)))), ([eA 0 964 g, mZ (eUp P 10 0), eA 0 144 mk, eA 0 24 fr], c)) := by
  obtain ⟨hG, hV, hO, hT, hM⟩ := hI
  have bG := hG.1
  have bV := hV.1
  have b5 := iT_24 bG.2.2.2.2 hT
  have e0 := hg 0 (by omega)
  have e1 := hg 1 (by omega)
  have e2 := hg 2 (by omega)
  have e3 := hg 3 (by omega)
  have e4 := hg 4 (by omega)
  have e5 := hg 5 (by omega)
  have hb := n_crossings (c := (0, 0)) hg hG hx h1
  generalize ((fb_ct (fun p => decide (oth a k p ≠ 0)) (sl a k) : Nat) : Int) = zr at hb ⊢
  refine xCallW (N := 3) (M2 := m_M_crossingCount) (pc2 := 2) (ls2 := [some (eR 1), some (eI x)]) (st2 := []) (y := m_M_noSlot) (as := [some (eR 1), some (eI x)]) (w2 := ([eA 0 964 g, mZ P, eA 0 144 mk, eA 0 24 fr], c)) rfl (z_noSlot hg ⟨hG, hV, hO, hT, hM⟩ hx h1) ?_
  refine xEqT (N := 1) (x := 0) (y := 0) (A := ev m_M_crossingCount 10 [some (eR 1), some (eI x)] [] ([eA 0 964 g, mZ (eUp P 10 0), eA 0 144 mk, eA 0 24 fr], c)) (B := ev m_M_crossingCount 8 [some (eR 1), some (eI x)] [] ([eA 0 964 g, mZ (eUp P 10 0), eA 0 144 mk, eA 0 24 fr], c)) rfl (show wr 0 = 0 by decide) (show wr 0 = 0 by decide) (by decide) ?_
  refine xCall (N := 4) (M2 := m_M_crossingCount) (pc2 := 15) (ls2 := [some (eR 1), some (eI x)]) (st2 := []) (y := m_M_crossings) (as := [some (eR 0), some (eI x)]) (w2 := ([eA 0 964 g, mZ (eUp P 10 0), eA 0 144 mk, eA 0 24 fr], c)) rfl (rowRd hb rfl rfl) ?_
  refine xSeg (N := 1) (r := some (.inl (some (eI zr)), ([eA 0 964 g, mZ (eUp P 10 0), eA 0 144 mk, eA 0 24 fr], c))) rfl ?_
  rfl
theorem z_candidateCount {g mk fr P : Nat → Int} {a : eRow} {c : Nat × Nat} (hg : rg g a) (hI : iA a) {x : Int} {k : Nat} (hx : x = (k : Int)) (h1 : k < a 3) : ev m_M_candidateCount 0 [some (eR 1), some (eI x)] [] ([eA 0 964 g, mZ P, eA 0 144 mk, eA 0 24 fr], c) = some (.inl (some (eI (((pc 30 (op a k) : Nat) : Int)))), ([eA 0 964 g, mZ (eUp P 10 0), eA 0 144 mk, eA 0 24 fr], c)) := by
  obtain ⟨hG, hV, hO, hT, hM⟩ := hI
  have bG := hG.1
  have bV := hV.1
  have b5 := iT_24 bG.2.2.2.2 hT
  have e0 := hg 0 (by omega)
  have e1 := hg 1 (by omega)
  have e2 := hg 2 (by omega)
  have e3 := hg 3 (by omega)
  have e4 := hg 4 (by omega)
  have e5 := hg 5 (by omega)
  have hb := n_countOf (c := (0, 0)) hg hx (by omega) (hO k h1).1
  generalize ((pc 30 (op a k) : Nat) : Int) = zr at hb ⊢
  refine xCallW (N := 3) (M2 := m_M_candidateCount) (pc2 := 2) (ls2 := [some (eR 1), some (eI x)]) (st2 := []) (y := m_M_noSlot) (as := [some (eR 1), some (eI x)]) (w2 := ([eA 0 964 g, mZ P, eA 0 144 mk, eA 0 24 fr], c)) rfl (z_noSlot hg ⟨hG, hV, hO, hT, hM⟩ hx h1) ?_
  refine xEqT (N := 1) (x := 0) (y := 0) (A := ev m_M_candidateCount 10 [some (eR 1), some (eI x)] [] ([eA 0 964 g, mZ (eUp P 10 0), eA 0 144 mk, eA 0 24 fr], c)) (B := ev m_M_candidateCount 8 [some (eR 1), some (eI x)] [] ([eA 0 964 g, mZ (eUp P 10 0), eA 0 144 mk, eA 0 24 fr], c)) rfl (show wr 0 = 0 by decide) (show wr 0 = 0 by decide) (by decide) ?_
  refine xCall (N := 4) (M2 := m_M_candidateCount) (pc2 := 15) (ls2 := [some (eR 1), some (eI x)]) (st2 := []) (y := m_M_countOf) (as := [some (eR 0), some (eI x)]) (w2 := ([eA 0 964 g, mZ (eUp P 10 0), eA 0 144 mk, eA 0 24 fr], c)) rfl (rowRd hb rfl rfl) ?_
  refine xSeg (N := 1) (r := some (.inl (some (eI zr)), ([eA 0 964 g, mZ (eUp P 10 0), eA 0 144 mk, eA 0 24 fr], c))) rfl ?_
  rfl
theorem z_bestWord {g mk fr P : Nat → Int} {a : eRow} {c : Nat × Nat} (hg : rg g a) (hI : iA a) {x : Int} {k : Nat} (hx : x = (k : Int)) (h1 : k < a 3) : ev m_M_bestWord 0 [some (eR 1), some (eI x)] [] ([eA 0 964 g, mZ P, eA 0 144 mk, eA 0 24 fr], c) = some (.inl (some (eI ((bwA (op a k).testBit (wp a) (a 2)).1))), ([eA 0 964 g, mZ (eUp P 10 0), eA 0 144 mk, eA 0 24 fr], c)) := by
  obtain ⟨hG, hV, hO, hT, hM⟩ := hI
  have bG := hG.1
  have bV := hV.1
  have b5 := iT_24 bG.2.2.2.2 hT
  have e0 := hg 0 (by omega)
  have e1 := hg 1 (by omega)
  have e2 := hg 2 (by omega)
  have e3 := hg 3 (by omega)
  have e4 := hg 4 (by omega)
  have e5 := hg 5 (by omega)
  have hb := n_bestOf (c := (0, 0)) hg hV hx (by omega) (hO k h1).1
  generalize (bwA (op a k).testBit (wp a) (a 2)).1 = zr at hb ⊢
  refine xCallW (N := 3) (M2 := m_M_bestWord) (pc2 := 2) (ls2 := [some (eR 1), some (eI x)]) (st2 := []) (y := m_M_noSlot) (as := [some (eR 1), some (eI x)]) (w2 := ([eA 0 964 g, mZ P, eA 0 144 mk, eA 0 24 fr], c)) rfl (z_noSlot hg ⟨hG, hV, hO, hT, hM⟩ hx h1) ?_
  refine xEqT (N := 1) (x := 0) (y := 0) (A := ev m_M_bestWord 10 [some (eR 1), some (eI x)] [] ([eA 0 964 g, mZ (eUp P 10 0), eA 0 144 mk, eA 0 24 fr], c)) (B := ev m_M_bestWord 8 [some (eR 1), some (eI x)] [] ([eA 0 964 g, mZ (eUp P 10 0), eA 0 144 mk, eA 0 24 fr], c)) rfl (show wr 0 = 0 by decide) (show wr 0 = 0 by decide) (by decide) ?_
  refine xCall (N := 4) (M2 := m_M_bestWord) (pc2 := 15) (ls2 := [some (eR 1), some (eI x)]) (st2 := []) (y := m_M_bestOf) (as := [some (eR 0), some (eI x)]) (w2 := ([eA 0 964 g, mZ (eUp P 10 0), eA 0 144 mk, eA 0 24 fr], c)) rfl (rowRd hb rfl rfl) ?_
  refine xSeg (N := 1) (r := some (.inl (some (eI zr)), ([eA 0 964 g, mZ (eUp P 10 0), eA 0 144 mk, eA 0 24 fr], c))) rfl ?_
  rfl
theorem z_firstXX {g mk fr P : Nat → Int} {a : eRow} {c : Nat × Nat} (hg : rg g a) (hI : iA a) {x : Int} (bx : -2147483648 ≤ x ∧ x < 2147483648) (h : ¬ (0 ≤ x ∧ x < (a 3 : Int))) : ev m_M_firstX 0 [some (eR 1), some (eI x)] [] ([eA 0 964 g, mZ P, eA 0 144 mk, eA 0 24 fr], c) = some (.inl (some (eI (0))), ([eA 0 964 g, mZ (eUp P 10 1), eA 0 144 mk, eA 0 24 fr], c)) := by
  obtain ⟨hG, hV, hO, hT, hM⟩ := hI
  have bG := hG.1
  have bV := hV.1
  have b5 := iT_24 bG.2.2.2.2 hT
  have e0 := hg 0 (by omega)
  have e1 := hg 1 (by omega)
  have e2 := hg 2 (by omega)
  have e3 := hg 3 (by omega)
  have e4 := hg 4 (by omega)
  have e5 := hg 5 (by omega)
  refine xCallW (N := 3) (M2 := m_M_firstX) (pc2 := 2) (ls2 := [some (eR 1), some (eI x)]) (st2 := []) (y := m_M_noSlot) (as := [some (eR 1), some (eI x)]) (w2 := ([eA 0 964 g, mZ P, eA 0 144 mk, eA 0 24 fr], c)) rfl (z_noSlotX hg ⟨hG, hV, hO, hT, hM⟩ bx h) ?_
  refine xEqF (N := 1) (x := 1) (y := 0) (A := ev m_M_firstX 10 [some (eR 1), some (eI x)] [] ([eA 0 964 g, mZ (eUp P 10 1), eA 0 144 mk, eA 0 24 fr], c)) (B := ev m_M_firstX 8 [some (eR 1), some (eI x)] [] ([eA 0 964 g, mZ (eUp P 10 1), eA 0 144 mk, eA 0 24 fr], c)) rfl (show wr 1 = 1 by decide) (show wr 0 = 0 by decide) (by decide) ?_
  refine xSeg (N := 2) (r := some (.inl (some (eI 0)), ([eA 0 964 g, mZ (eUp P 10 1), eA 0 144 mk, eA 0 24 fr], c))) rfl ?_
  rfl
theorem z_firstYX {g mk fr P : Nat → Int} {a : eRow} {c : Nat × Nat} (hg : rg g a) (hI : iA a) {x : Int} (bx : -2147483648 ≤ x ∧ x < 2147483648) (h : ¬ (0 ≤ x ∧ x < (a 3 : Int))) : ev m_M_firstY 0 [some (eR 1), some (eI x)] [] ([eA 0 964 g, mZ P, eA 0 144 mk, eA 0 24 fr], c) = some (.inl (some (eI (0))), ([eA 0 964 g, mZ (eUp P 10 1), eA 0 144 mk, eA 0 24 fr], c)) := by
  obtain ⟨hG, hV, hO, hT, hM⟩ := hI
  have bG := hG.1
  have bV := hV.1
  have b5 := iT_24 bG.2.2.2.2 hT
  have e0 := hg 0 (by omega)
  have e1 := hg 1 (by omega)
  have e2 := hg 2 (by omega)
  have e3 := hg 3 (by omega)
  have e4 := hg 4 (by omega)
  have e5 := hg 5 (by omega)
  refine xCallW (N := 3) (M2 := m_M_firstY) (pc2 := 2) (ls2 := [some (eR 1), some (eI x)]) (st2 := []) (y := m_M_noSlot) (as := [some (eR 1), some (eI x)]) (w2 := ([eA 0 964 g, mZ P, eA 0 144 mk, eA 0 24 fr], c)) rfl (z_noSlotX hg ⟨hG, hV, hO, hT, hM⟩ bx h) ?_
  refine xEqF (N := 1) (x := 1) (y := 0) (A := ev m_M_firstY 10 [some (eR 1), some (eI x)] [] ([eA 0 964 g, mZ (eUp P 10 1), eA 0 144 mk, eA 0 24 fr], c)) (B := ev m_M_firstY 8 [some (eR 1), some (eI x)] [] ([eA 0 964 g, mZ (eUp P 10 1), eA 0 144 mk, eA 0 24 fr], c)) rfl (show wr 1 = 1 by decide) (show wr 0 = 0 by decide) (by decide) ?_
  refine xSeg (N := 2) (r := some (.inl (some (eI 0)), ([eA 0 964 g, mZ (eUp P 10 1), eA 0 144 mk, eA 0 24 fr], c))) rfl ?_
  rfl
theorem z_lengthOfX {g mk fr P : Nat → Int} {a : eRow} {c : Nat × Nat} (hg : rg g a) (hI : iA a) {x : Int} (bx : -2147483648 ≤ x ∧ x < 2147483648) (h : ¬ (0 ≤ x ∧ x < (a 3 : Int))) : ev m_M_lengthOf 0 [some (eR 1), some (eI x)] [] ([eA 0 964 g, mZ P, eA 0 144 mk, eA 0 24 fr], c) = some (.inl (some (eI (0))), ([eA 0 964 g, mZ (eUp P 10 1), eA 0 144 mk, eA 0 24 fr], c)) := by
  obtain ⟨hG, hV, hO, hT, hM⟩ := hI
  have bG := hG.1
  have bV := hV.1
  have b5 := iT_24 bG.2.2.2.2 hT
  have e0 := hg 0 (by omega)
  have e1 := hg 1 (by omega)
  have e2 := hg 2 (by omega)
  have e3 := hg 3 (by omega)
  have e4 := hg 4 (by omega)
  have e5 := hg 5 (by omega)
  refine xCallW (N := 3) (M2 := m_M_lengthOf) (pc2 := 2) (ls2 := [some (eR 1), some (eI x)]) (st2 := []) (y := m_M_noSlot) (as := [some (eR 1), some (eI x)]) (w2 := ([eA 0 964 g, mZ P, eA 0 144 mk, eA 0 24 fr], c)) rfl (z_noSlotX hg ⟨hG, hV, hO, hT, hM⟩ bx h) ?_
  refine xEqF (N := 1) (x := 1) (y := 0) (A := ev m_M_lengthOf 10 [some (eR 1), some (eI x)] [] ([eA 0 964 g, mZ (eUp P 10 1), eA 0 144 mk, eA 0 24 fr], c)) (B := ev m_M_lengthOf 8 [some (eR 1), some (eI x)] [] ([eA 0 964 g, mZ (eUp P 10 1), eA 0 144 mk, eA 0 24 fr], c)) rfl (show wr 1 = 1 by decide) (show wr 0 = 0 by decide) (by decide) ?_
  refine xSeg (N := 2) (r := some (.inl (some (eI 0)), ([eA 0 964 g, mZ (eUp P 10 1), eA 0 144 mk, eA 0 24 fr], c))) rfl ?_
  rfl
theorem z_isDownX {g mk fr P : Nat → Int} {a : eRow} {c : Nat × Nat} (hg : rg g a) (hI : iA a) {x : Int} (bx : -2147483648 ≤ x ∧ x < 2147483648) (h : ¬ (0 ≤ x ∧ x < (a 3 : Int))) : ev m_M_isDown 0 [some (eR 1), some (eI x)] [] ([eA 0 964 g, mZ P, eA 0 144 mk, eA 0 24 fr], c) = some (.inl (some (eI (0))), ([eA 0 964 g, mZ (eUp P 10 1), eA 0 144 mk, eA 0 24 fr], c)) := by
  obtain ⟨hG, hV, hO, hT, hM⟩ := hI
  have bG := hG.1
  have bV := hV.1
  have b5 := iT_24 bG.2.2.2.2 hT
  have e0 := hg 0 (by omega)
  have e1 := hg 1 (by omega)
  have e2 := hg 2 (by omega)
  have e3 := hg 3 (by omega)
  have e4 := hg 4 (by omega)
  have e5 := hg 5 (by omega)
  refine xCallW (N := 3) (M2 := m_M_isDown) (pc2 := 2) (ls2 := [some (eR 1), some (eI x)]) (st2 := []) (y := m_M_noSlot) (as := [some (eR 1), some (eI x)]) (w2 := ([eA 0 964 g, mZ P, eA 0 144 mk, eA 0 24 fr], c)) rfl (z_noSlotX hg ⟨hG, hV, hO, hT, hM⟩ bx h) ?_
  refine xEqF (N := 1) (x := 1) (y := 0) (A := ev m_M_isDown 10 [some (eR 1), some (eI x)] [] ([eA 0 964 g, mZ (eUp P 10 1), eA 0 144 mk, eA 0 24 fr], c)) (B := ev m_M_isDown 8 [some (eR 1), some (eI x)] [] ([eA 0 964 g, mZ (eUp P 10 1), eA 0 144 mk, eA 0 24 fr], c)) rfl (show wr 1 = 1 by decide) (show wr 0 = 0 by decide) (by decide) ?_
  refine xRb (N := 2) (v := 0) (w2 := ([eA 0 964 g, mZ (eUp P 10 1), eA 0 144 mk, eA 0 24 fr], c)) rfl (by decide) ?_
  rfl
theorem z_crossingCountX {g mk fr P : Nat → Int} {a : eRow} {c : Nat × Nat} (hg : rg g a) (hI : iA a) {x : Int} (bx : -2147483648 ≤ x ∧ x < 2147483648) (h : ¬ (0 ≤ x ∧ x < (a 3 : Int))) : ev m_M_crossingCount 0 [some (eR 1), some (eI x)] [] ([eA 0 964 g, mZ P, eA 0 144 mk, eA 0 24 fr], c) = some (.inl (some (eI (0))), ([eA 0 964 g, mZ (eUp P 10 1), eA 0 144 mk, eA 0 24 fr], c)) := by
  obtain ⟨hG, hV, hO, hT, hM⟩ := hI
  have bG := hG.1
  have bV := hV.1
  have b5 := iT_24 bG.2.2.2.2 hT
  have e0 := hg 0 (by omega)
  have e1 := hg 1 (by omega)
  have e2 := hg 2 (by omega)
  have e3 := hg 3 (by omega)
  have e4 := hg 4 (by omega)
  have e5 := hg 5 (by omega)
  refine xCallW (N := 3) (M2 := m_M_crossingCount) (pc2 := 2) (ls2 := [some (eR 1), some (eI x)]) (st2 := []) (y := m_M_noSlot) (as := [some (eR 1), some (eI x)]) (w2 := ([eA 0 964 g, mZ P, eA 0 144 mk, eA 0 24 fr], c)) rfl (z_noSlotX hg ⟨hG, hV, hO, hT, hM⟩ bx h) ?_
  refine xEqF (N := 1) (x := 1) (y := 0) (A := ev m_M_crossingCount 10 [some (eR 1), some (eI x)] [] ([eA 0 964 g, mZ (eUp P 10 1), eA 0 144 mk, eA 0 24 fr], c)) (B := ev m_M_crossingCount 8 [some (eR 1), some (eI x)] [] ([eA 0 964 g, mZ (eUp P 10 1), eA 0 144 mk, eA 0 24 fr], c)) rfl (show wr 1 = 1 by decide) (show wr 0 = 0 by decide) (by decide) ?_
  refine xSeg (N := 2) (r := some (.inl (some (eI 0)), ([eA 0 964 g, mZ (eUp P 10 1), eA 0 144 mk, eA 0 24 fr], c))) rfl ?_
  rfl
theorem z_candidateCountX {g mk fr P : Nat → Int} {a : eRow} {c : Nat × Nat} (hg : rg g a) (hI : iA a) {x : Int} (bx : -2147483648 ≤ x ∧ x < 2147483648) (h : ¬ (0 ≤ x ∧ x < (a 3 : Int))) : ev m_M_candidateCount 0 [some (eR 1), some (eI x)] [] ([eA 0 964 g, mZ P, eA 0 144 mk, eA 0 24 fr], c) = some (.inl (some (eI (0))), ([eA 0 964 g, mZ (eUp P 10 1), eA 0 144 mk, eA 0 24 fr], c)) := by
  obtain ⟨hG, hV, hO, hT, hM⟩ := hI
  have bG := hG.1
  have bV := hV.1
  have b5 := iT_24 bG.2.2.2.2 hT
  have e0 := hg 0 (by omega)
  have e1 := hg 1 (by omega)
  have e2 := hg 2 (by omega)
  have e3 := hg 3 (by omega)
  have e4 := hg 4 (by omega)
  have e5 := hg 5 (by omega)
  refine xCallW (N := 3) (M2 := m_M_candidateCount) (pc2 := 2) (ls2 := [some (eR 1), some (eI x)]) (st2 := []) (y := m_M_noSlot) (as := [some (eR 1), some (eI x)]) (w2 := ([eA 0 964 g, mZ P, eA 0 144 mk, eA 0 24 fr], c)) rfl (z_noSlotX hg ⟨hG, hV, hO, hT, hM⟩ bx h) ?_
  refine xEqF (N := 1) (x := 1) (y := 0) (A := ev m_M_candidateCount 10 [some (eR 1), some (eI x)] [] ([eA 0 964 g, mZ (eUp P 10 1), eA 0 144 mk, eA 0 24 fr], c)) (B := ev m_M_candidateCount 8 [some (eR 1), some (eI x)] [] ([eA 0 964 g, mZ (eUp P 10 1), eA 0 144 mk, eA 0 24 fr], c)) rfl (show wr 1 = 1 by decide) (show wr 0 = 0 by decide) (by decide) ?_
  refine xSeg (N := 2) (r := some (.inl (some (eI 0)), ([eA 0 964 g, mZ (eUp P 10 1), eA 0 144 mk, eA 0 24 fr], c))) rfl ?_
  rfl
theorem z_bestWordX {g mk fr P : Nat → Int} {a : eRow} {c : Nat × Nat} (hg : rg g a) (hI : iA a) {x : Int} (bx : -2147483648 ≤ x ∧ x < 2147483648) (h : ¬ (0 ≤ x ∧ x < (a 3 : Int))) : ev m_M_bestWord 0 [some (eR 1), some (eI x)] [] ([eA 0 964 g, mZ P, eA 0 144 mk, eA 0 24 fr], c) = some (.inl (some (eI (0))), ([eA 0 964 g, mZ (eUp P 10 1), eA 0 144 mk, eA 0 24 fr], c)) := by
  obtain ⟨hG, hV, hO, hT, hM⟩ := hI
  have bG := hG.1
  have bV := hV.1
  have b5 := iT_24 bG.2.2.2.2 hT
  have e0 := hg 0 (by omega)
  have e1 := hg 1 (by omega)
  have e2 := hg 2 (by omega)
  have e3 := hg 3 (by omega)
  have e4 := hg 4 (by omega)
  have e5 := hg 5 (by omega)
  refine xCallW (N := 3) (M2 := m_M_bestWord) (pc2 := 2) (ls2 := [some (eR 1), some (eI x)]) (st2 := []) (y := m_M_noSlot) (as := [some (eR 1), some (eI x)]) (w2 := ([eA 0 964 g, mZ P, eA 0 144 mk, eA 0 24 fr], c)) rfl (z_noSlotX hg ⟨hG, hV, hO, hT, hM⟩ bx h) ?_
  refine xEqF (N := 1) (x := 1) (y := 0) (A := ev m_M_bestWord 10 [some (eR 1), some (eI x)] [] ([eA 0 964 g, mZ (eUp P 10 1), eA 0 144 mk, eA 0 24 fr], c)) (B := ev m_M_bestWord 8 [some (eR 1), some (eI x)] [] ([eA 0 964 g, mZ (eUp P 10 1), eA 0 144 mk, eA 0 24 fr], c)) rfl (show wr 1 = 1 by decide) (show wr 0 = 0 by decide) (by decide) ?_
  refine xSeg (N := 2) (r := some (.inl (some (eI 0)), ([eA 0 964 g, mZ (eUp P 10 1), eA 0 144 mk, eA 0 24 fr], c))) rfl ?_
  rfl
theorem z_wordLength {g mk fr P : Nat → Int} {a : eRow} {c : Nat × Nat} (hg : rg g a) (hI : iA a) {x : Int} {w : Nat} (hx : x = (w : Int)) (h1 : w < a 2) : ev m_M_wordLength 0 [some (eR 1), some (eI x)] [] ([eA 0 964 g, mZ P, eA 0 144 mk, eA 0 24 fr], c) = some (.inl (some (eI (((wl a w : Nat) : Int)))), ([eA 0 964 g, mZ (eUp P 10 0), eA 0 144 mk, eA 0 24 fr], c)) := by
  obtain ⟨hG, hV, hO, hT, hM⟩ := hI
  have bG := hG.1
  have bV := hV.1
  have b5 := iT_24 bG.2.2.2.2 hT
  have e0 := hg 0 (by omega)
  have e1 := hg 1 (by omega)
  have e2 := hg 2 (by omega)
  have e3 := hg 3 (by omega)
  have e4 := hg 4 (by omega)
  have e5 := hg 5 (by omega)
  have hb := hg (118 + w) (by omega)
  refine xCallW (N := 3) (M2 := m_M_wordLength) (pc2 := 2) (ls2 := [some (eR 1), some (eI x)]) (st2 := []) (y := m_M_noWord) (as := [some (eR 1), some (eI x)]) (w2 := ([eA 0 964 g, mZ P, eA 0 144 mk, eA 0 24 fr], c)) rfl (z_noWord hg ⟨hG, hV, hO, hT, hM⟩ hx h1) ?_
  refine xEqT (N := 1) (x := 0) (y := 0) (A := ev m_M_wordLength 10 [some (eR 1), some (eI x)] [] ([eA 0 964 g, mZ (eUp P 10 0), eA 0 144 mk, eA 0 24 fr], c)) (B := ev m_M_wordLength 8 [some (eR 1), some (eI x)] [] ([eA 0 964 g, mZ (eUp P 10 0), eA 0 144 mk, eA 0 24 fr], c)) rfl (show wr 0 = 0 by decide) (show wr 0 = 0 by decide) (by decide) ?_
  refine xLd (N := 6) (n := 964) (i := 118 + x) (F := fun zq => ev m_M_wordLength 19 [some (eR 1), some (eI x)] [eI (g zq)] ([eA 0 964 g, mZ (eUp P 10 0), eA 0 144 mk, eA 0 24 fr], c)) (k := 118 + w) rfl (wr_nat (by omega) (by omega)) (by omega) ?_
  refine xSeg (N := 1) (r := some (.inl (some (eI (g (118 + w)))), ([eA 0 964 g, mZ (eUp P 10 0), eA 0 144 mk, eA 0 24 fr], c))) rfl ?_
  exact lf hb
theorem z_prizeOf {g mk fr P : Nat → Int} {a : eRow} {c : Nat × Nat} (hg : rg g a) (hI : iA a) {x : Int} {w : Nat} (hx : x = (w : Int)) (h1 : w < a 2) : ev m_M_prizeOf 0 [some (eR 1), some (eI x)] [] ([eA 0 964 g, mZ P, eA 0 144 mk, eA 0 24 fr], c) = some (.inl (some (eI (((wp a w : Nat) : Int)))), ([eA 0 964 g, mZ (eUp P 10 0), eA 0 144 mk, eA 0 24 fr], c)) := by
  obtain ⟨hG, hV, hO, hT, hM⟩ := hI
  have bG := hG.1
  have bV := hV.1
  have b5 := iT_24 bG.2.2.2.2 hT
  have e0 := hg 0 (by omega)
  have e1 := hg 1 (by omega)
  have e2 := hg 2 (by omega)
  have e3 := hg 3 (by omega)
  have e4 := hg 4 (by omega)
  have e5 := hg 5 (by omega)
  have hb := n_prize (c := (0, 0)) hg hV hx h1
  generalize ((wp a w : Nat) : Int) = zr at hb ⊢
  refine xCallW (N := 3) (M2 := m_M_prizeOf) (pc2 := 2) (ls2 := [some (eR 1), some (eI x)]) (st2 := []) (y := m_M_noWord) (as := [some (eR 1), some (eI x)]) (w2 := ([eA 0 964 g, mZ P, eA 0 144 mk, eA 0 24 fr], c)) rfl (z_noWord hg ⟨hG, hV, hO, hT, hM⟩ hx h1) ?_
  refine xEqT (N := 1) (x := 0) (y := 0) (A := ev m_M_prizeOf 10 [some (eR 1), some (eI x)] [] ([eA 0 964 g, mZ (eUp P 10 0), eA 0 144 mk, eA 0 24 fr], c)) (B := ev m_M_prizeOf 8 [some (eR 1), some (eI x)] [] ([eA 0 964 g, mZ (eUp P 10 0), eA 0 144 mk, eA 0 24 fr], c)) rfl (show wr 0 = 0 by decide) (show wr 0 = 0 by decide) (by decide) ?_
  refine xCall (N := 4) (M2 := m_M_prizeOf) (pc2 := 15) (ls2 := [some (eR 1), some (eI x)]) (st2 := []) (y := m_M_prize) (as := [some (eR 0), some (eI x)]) (w2 := ([eA 0 964 g, mZ (eUp P 10 0), eA 0 144 mk, eA 0 24 fr], c)) rfl (rowRd hb rfl rfl) ?_
  refine xSeg (N := 1) (r := some (.inl (some (eI zr)), ([eA 0 964 g, mZ (eUp P 10 0), eA 0 144 mk, eA 0 24 fr], c))) rfl ?_
  rfl
theorem z_wordLengthX {g mk fr P : Nat → Int} {a : eRow} {c : Nat × Nat} (hg : rg g a) (hI : iA a) {x : Int} (bx : -2147483648 ≤ x ∧ x < 2147483648) (h : ¬ (0 ≤ x ∧ x < (a 2 : Int))) : ev m_M_wordLength 0 [some (eR 1), some (eI x)] [] ([eA 0 964 g, mZ P, eA 0 144 mk, eA 0 24 fr], c) = some (.inl (some (eI (0))), ([eA 0 964 g, mZ (eUp P 10 1), eA 0 144 mk, eA 0 24 fr], c)) := by
  obtain ⟨hG, hV, hO, hT, hM⟩ := hI
  have bG := hG.1
  have bV := hV.1
  have b5 := iT_24 bG.2.2.2.2 hT
  have e0 := hg 0 (by omega)
  have e1 := hg 1 (by omega)
  have e2 := hg 2 (by omega)
  have e3 := hg 3 (by omega)
  have e4 := hg 4 (by omega)
  have e5 := hg 5 (by omega)
  refine xCallW (N := 3) (M2 := m_M_wordLength) (pc2 := 2) (ls2 := [some (eR 1), some (eI x)]) (st2 := []) (y := m_M_noWord) (as := [some (eR 1), some (eI x)]) (w2 := ([eA 0 964 g, mZ P, eA 0 144 mk, eA 0 24 fr], c)) rfl (z_noWordX hg ⟨hG, hV, hO, hT, hM⟩ bx h) ?_
  refine xEqF (N := 1) (x := 1) (y := 0) (A := ev m_M_wordLength 10 [some (eR 1), some (eI x)] [] ([eA 0 964 g, mZ (eUp P 10 1), eA 0 144 mk, eA 0 24 fr], c)) (B := ev m_M_wordLength 8 [some (eR 1), some (eI x)] [] ([eA 0 964 g, mZ (eUp P 10 1), eA 0 144 mk, eA 0 24 fr], c)) rfl (show wr 1 = 1 by decide) (show wr 0 = 0 by decide) (by decide) ?_
  refine xSeg (N := 2) (r := some (.inl (some (eI 0)), ([eA 0 964 g, mZ (eUp P 10 1), eA 0 144 mk, eA 0 24 fr], c))) rfl ?_
  rfl
theorem z_prizeOfX {g mk fr P : Nat → Int} {a : eRow} {c : Nat × Nat} (hg : rg g a) (hI : iA a) {x : Int} (bx : -2147483648 ≤ x ∧ x < 2147483648) (h : ¬ (0 ≤ x ∧ x < (a 2 : Int))) : ev m_M_prizeOf 0 [some (eR 1), some (eI x)] [] ([eA 0 964 g, mZ P, eA 0 144 mk, eA 0 24 fr], c) = some (.inl (some (eI (0))), ([eA 0 964 g, mZ (eUp P 10 1), eA 0 144 mk, eA 0 24 fr], c)) := by
  obtain ⟨hG, hV, hO, hT, hM⟩ := hI
  have bG := hG.1
  have bV := hV.1
  have b5 := iT_24 bG.2.2.2.2 hT
  have e0 := hg 0 (by omega)
  have e1 := hg 1 (by omega)
  have e2 := hg 2 (by omega)
  have e3 := hg 3 (by omega)
  have e4 := hg 4 (by omega)
  have e5 := hg 5 (by omega)
  refine xCallW (N := 3) (M2 := m_M_prizeOf) (pc2 := 2) (ls2 := [some (eR 1), some (eI x)]) (st2 := []) (y := m_M_noWord) (as := [some (eR 1), some (eI x)]) (w2 := ([eA 0 964 g, mZ P, eA 0 144 mk, eA 0 24 fr], c)) rfl (z_noWordX hg ⟨hG, hV, hO, hT, hM⟩ bx h) ?_
  refine xEqF (N := 1) (x := 1) (y := 0) (A := ev m_M_prizeOf 10 [some (eR 1), some (eI x)] [] ([eA 0 964 g, mZ (eUp P 10 1), eA 0 144 mk, eA 0 24 fr], c)) (B := ev m_M_prizeOf 8 [some (eR 1), some (eI x)] [] ([eA 0 964 g, mZ (eUp P 10 1), eA 0 144 mk, eA 0 24 fr], c)) rfl (show wr 1 = 1 by decide) (show wr 0 = 0 by decide) (by decide) ?_
  refine xSeg (N := 2) (r := some (.inl (some (eI 0)), ([eA 0 964 g, mZ (eUp P 10 1), eA 0 144 mk, eA 0 24 fr], c))) rfl ?_
  rfl
theorem z_wordsWith {g mk fr P : Nat → Int} {a : eRow} {c : Nat × Nat} (hg : rg g a) (hI : iA a) {x : Int} {l : Nat} (hx : x = ((97 + l : Nat) : Int)) (h1 : l < 26) : ev m_M_wordsWith 0 [some (eR 1), some (eI x)] [] ([eA 0 964 g, mZ P, eA 0 144 mk, eA 0 24 fr], c) = some (.inl (some (eI (((hold a l : Nat) : Int)))), ([eA 0 964 g, mZ (eUp P 10 0), eA 0 144 mk, eA 0 24 fr], c)) := by
  obtain ⟨hG, hV, hO, hT, hM⟩ := hI
  have bG := hG.1
  have bV := hV.1
  have b5 := iT_24 bG.2.2.2.2 hT
  have e0 := hg 0 (by omega)
  have e1 := hg 1 (by omega)
  have e2 := hg 2 (by omega)
  have e3 := hg 3 (by omega)
  have e4 := hg 4 (by omega)
  have e5 := hg 5 (by omega)
  have hb := n_wordsHolding (c := (0, 0)) (z := x - 97) hg hV (by omega) h1
  generalize ((hold a l : Nat) : Int) = zr at hb ⊢
  refine xCallW (N := 3) (M2 := m_M_wordsWith) (pc2 := 2) (ls2 := [some (eR 1), some (eI x)]) (st2 := []) (y := m_M_noLetter) (as := [some (eR 1), some (eI x)]) (w2 := ([eA 0 964 g, mZ P, eA 0 144 mk, eA 0 24 fr], c)) rfl (z_noLetter (by omega)) ?_
  refine xEqT (N := 1) (x := 0) (y := 0) (A := ev m_M_wordsWith 10 [some (eR 1), some (eI x)] [] ([eA 0 964 g, mZ (eUp P 10 0), eA 0 144 mk, eA 0 24 fr], c)) (B := ev m_M_wordsWith 8 [some (eR 1), some (eI x)] [] ([eA 0 964 g, mZ (eUp P 10 0), eA 0 144 mk, eA 0 24 fr], c)) rfl (show wr 0 = 0 by decide) (show wr 0 = 0 by decide) (by decide) ?_
  refine xCall (N := 6) (M2 := m_M_wordsWith) (pc2 := 18) (ls2 := [some (eR 1), some (eI x)]) (st2 := []) (y := m_M_wordsHolding) (as := [some (eR 0), some (eI (x - 97))]) (w2 := ([eA 0 964 g, mZ (eUp P 10 0), eA 0 144 mk, eA 0 24 fr], c)) rfl (rowRd hb rfl rfl) ?_
  refine xSeg (N := 1) (r := some (.inl (some (eI zr)), ([eA 0 964 g, mZ (eUp P 10 0), eA 0 144 mk, eA 0 24 fr], c))) rfl ?_
  rfl
theorem z_wordsWithX {g mk fr P : Nat → Int} {a : eRow} {c : Nat × Nat} (hg : rg g a) (hI : iA a) {x : Int} (bx : -2147483648 ≤ x ∧ x < 2147483648) (h : ¬ (97 ≤ x ∧ x ≤ 122)) : ev m_M_wordsWith 0 [some (eR 1), some (eI x)] [] ([eA 0 964 g, mZ P, eA 0 144 mk, eA 0 24 fr], c) = some (.inl (some (eI (0))), ([eA 0 964 g, mZ (eUp P 10 1), eA 0 144 mk, eA 0 24 fr], c)) := by
  obtain ⟨hG, hV, hO, hT, hM⟩ := hI
  have bG := hG.1
  have bV := hV.1
  have b5 := iT_24 bG.2.2.2.2 hT
  have e0 := hg 0 (by omega)
  have e1 := hg 1 (by omega)
  have e2 := hg 2 (by omega)
  have e3 := hg 3 (by omega)
  have e4 := hg 4 (by omega)
  have e5 := hg 5 (by omega)
  refine xCallW (N := 3) (M2 := m_M_wordsWith) (pc2 := 2) (ls2 := [some (eR 1), some (eI x)]) (st2 := []) (y := m_M_noLetter) (as := [some (eR 1), some (eI x)]) (w2 := ([eA 0 964 g, mZ P, eA 0 144 mk, eA 0 24 fr], c)) rfl (z_noLetterX bx h) ?_
  refine xEqF (N := 1) (x := 1) (y := 0) (A := ev m_M_wordsWith 10 [some (eR 1), some (eI x)] [] ([eA 0 964 g, mZ (eUp P 10 1), eA 0 144 mk, eA 0 24 fr], c)) (B := ev m_M_wordsWith 8 [some (eR 1), some (eI x)] [] ([eA 0 964 g, mZ (eUp P 10 1), eA 0 144 mk, eA 0 24 fr], c)) rfl (show wr 1 = 1 by decide) (show wr 0 = 0 by decide) (by decide) ?_
  refine xSeg (N := 2) (r := some (.inl (some (eI 0)), ([eA 0 964 g, mZ (eUp P 10 1), eA 0 144 mk, eA 0 24 fr], c))) rfl ?_
  rfl
theorem z_prizeOfLetter {g mk fr P : Nat → Int} {a : eRow} {c : Nat × Nat} (hg : rg g a) (hI : iA a) {x : Int} {l : Nat} (hx : x = ((97 + l : Nat) : Int)) (h1 : l < 26) : ev m_M_prizeOfLetter 0 [some (eR 1), some (eI x)] [] ([eA 0 964 g, mZ P, eA 0 144 mk, eA 0 24 fr], c) = some (.inl (some (eI (((pz a l : Nat) : Int)))), ([eA 0 964 g, mZ (eUp P 10 0), eA 0 144 mk, eA 0 24 fr], c)) := by
  obtain ⟨hG, hV, hO, hT, hM⟩ := hI
  have bG := hG.1
  have bV := hV.1
  have b5 := iT_24 bG.2.2.2.2 hT
  have e0 := hg 0 (by omega)
  have e1 := hg 1 (by omega)
  have e2 := hg 2 (by omega)
  have e3 := hg 3 (by omega)
  have e4 := hg 4 (by omega)
  have e5 := hg 5 (by omega)
  have hb := n_prizeFor (c := (0, 0)) (z := x - 97) hg hV (by omega) h1
  generalize ((pz a l : Nat) : Int) = zr at hb ⊢
  refine xCallW (N := 3) (M2 := m_M_prizeOfLetter) (pc2 := 2) (ls2 := [some (eR 1), some (eI x)]) (st2 := []) (y := m_M_noLetter) (as := [some (eR 1), some (eI x)]) (w2 := ([eA 0 964 g, mZ P, eA 0 144 mk, eA 0 24 fr], c)) rfl (z_noLetter (by omega)) ?_
  refine xEqT (N := 1) (x := 0) (y := 0) (A := ev m_M_prizeOfLetter 10 [some (eR 1), some (eI x)] [] ([eA 0 964 g, mZ (eUp P 10 0), eA 0 144 mk, eA 0 24 fr], c)) (B := ev m_M_prizeOfLetter 8 [some (eR 1), some (eI x)] [] ([eA 0 964 g, mZ (eUp P 10 0), eA 0 144 mk, eA 0 24 fr], c)) rfl (show wr 0 = 0 by decide) (show wr 0 = 0 by decide) (by decide) ?_
  refine xCall (N := 6) (M2 := m_M_prizeOfLetter) (pc2 := 18) (ls2 := [some (eR 1), some (eI x)]) (st2 := []) (y := m_M_prizeFor) (as := [some (eR 0), some (eI (x - 97))]) (w2 := ([eA 0 964 g, mZ (eUp P 10 0), eA 0 144 mk, eA 0 24 fr], c)) rfl (rowRd hb rfl rfl) ?_
  refine xSeg (N := 1) (r := some (.inl (some (eI zr)), ([eA 0 964 g, mZ (eUp P 10 0), eA 0 144 mk, eA 0 24 fr], c))) rfl ?_
  rfl
theorem z_prizeOfLetterX {g mk fr P : Nat → Int} {a : eRow} {c : Nat × Nat} (hg : rg g a) (hI : iA a) {x : Int} (bx : -2147483648 ≤ x ∧ x < 2147483648) (h : ¬ (97 ≤ x ∧ x ≤ 122)) : ev m_M_prizeOfLetter 0 [some (eR 1), some (eI x)] [] ([eA 0 964 g, mZ P, eA 0 144 mk, eA 0 24 fr], c) = some (.inl (some (eI (0))), ([eA 0 964 g, mZ (eUp P 10 1), eA 0 144 mk, eA 0 24 fr], c)) := by
  obtain ⟨hG, hV, hO, hT, hM⟩ := hI
  have bG := hG.1
  have bV := hV.1
  have b5 := iT_24 bG.2.2.2.2 hT
  have e0 := hg 0 (by omega)
  have e1 := hg 1 (by omega)
  have e2 := hg 2 (by omega)
  have e3 := hg 3 (by omega)
  have e4 := hg 4 (by omega)
  have e5 := hg 5 (by omega)
  refine xCallW (N := 3) (M2 := m_M_prizeOfLetter) (pc2 := 2) (ls2 := [some (eR 1), some (eI x)]) (st2 := []) (y := m_M_noLetter) (as := [some (eR 1), some (eI x)]) (w2 := ([eA 0 964 g, mZ P, eA 0 144 mk, eA 0 24 fr], c)) rfl (z_noLetterX bx h) ?_
  refine xEqF (N := 1) (x := 1) (y := 0) (A := ev m_M_prizeOfLetter 10 [some (eR 1), some (eI x)] [] ([eA 0 964 g, mZ (eUp P 10 1), eA 0 144 mk, eA 0 24 fr], c)) (B := ev m_M_prizeOfLetter 8 [some (eR 1), some (eI x)] [] ([eA 0 964 g, mZ (eUp P 10 1), eA 0 144 mk, eA 0 24 fr], c)) rfl (show wr 1 = 1 by decide) (show wr 0 = 0 by decide) (by decide) ?_
  refine xSeg (N := 2) (r := some (.inl (some (eI 0)), ([eA 0 964 g, mZ (eUp P 10 1), eA 0 144 mk, eA 0 24 fr], c))) rfl ?_
  rfl
theorem z_guessedSlot {g mk fr P : Nat → Int} {a : eRow} {c : Nat × Nat} (hg : rg g a) (hI : iA a) {x : Int} {l : Nat} (hx : x = ((l + 1 : Nat) : Int)) (h1 : l < a 5) : ev m_M_guessedSlot 0 [some (eR 1), some (eI x)] [] ([eA 0 964 g, mZ P, eA 0 144 mk, eA 0 24 fr], c) = some (.inl (some (eI (((gs a l : Nat) : Int)))), ([eA 0 964 g, mZ (eUp P 10 0), eA 0 144 mk, eA 0 24 fr], c)) := by
  obtain ⟨hG, hV, hO, hT, hM⟩ := hI
  have bG := hG.1
  have bV := hV.1
  have b5 := iT_24 bG.2.2.2.2 hT
  have e0 := hg 0 (by omega)
  have e1 := hg 1 (by omega)
  have e2 := hg 2 (by omega)
  have e3 := hg 3 (by omega)
  have e4 := hg 4 (by omega)
  have e5 := hg 5 (by omega)
  have hb : g (340 + 2 * l + 0) = ((gs a l : Nat) : Int) := hg (340 + 2 * l + 0) (by omega)
  refine xLd (N := 7) (n := 964) (i := 5) (F := fun zq => ev m_M_guessedSlot 9 [some (eR 1), some (eI x)] [eI (g zq), eI 1, eI x, eR 1] ([eA 0 964 g, mZ P, eA 0 144 mk, eA 0 24 fr], c)) (k := 5) rfl (show wr 5 = ((5 : Nat) : Int) by decide) (by omega) ?_
  refine xCallW (N := 1) (M2 := m_M_guessedSlot) (pc2 := 9) (ls2 := [some (eR 1), some (eI x)]) (st2 := []) (y := m_M_noNumber) (as := [some (eR 1), some (eI x), some (eI 1), some (eI (g 5))]) (w2 := ([eA 0 964 g, mZ P, eA 0 144 mk, eA 0 24 fr], c)) rfl (z_noNum (by omega) (by omega) (by omega) (by omega)) ?_
  refine xEqT (N := 1) (x := 0) (y := 0) (A := ev m_M_guessedSlot 17 [some (eR 1), some (eI x)] [] ([eA 0 964 g, mZ (eUp P 10 0), eA 0 144 mk, eA 0 24 fr], c)) (B := ev m_M_guessedSlot 15 [some (eR 1), some (eI x)] [] ([eA 0 964 g, mZ (eUp P 10 0), eA 0 144 mk, eA 0 24 fr], c)) rfl (show wr 0 = 0 by decide) (show wr 0 = 0 by decide) (by decide) ?_
  refine xLd (N := 10) (n := 964) (i := (340 + (2 * x)) - 2) (F := fun zq => ev m_M_guessedSlot 31 [some (eR 1), some (eI x)] [eI (g zq)] ([eA 0 964 g, mZ (eUp P 10 0), eA 0 144 mk, eA 0 24 fr], c)) (k := ((340 + (2 * x)) - 2).toNat) rfl (wr_nat (by omega) (by omega)) (by omega) ?_
  refine xSeg (N := 1) (r := some (.inl (some (eI (g (((340 + (2 * x)) - 2).toNat)))), ([eA 0 964 g, mZ (eUp P 10 0), eA 0 144 mk, eA 0 24 fr], c))) rfl ?_
  exact lf (by rw [show (340 + 2 * x - 2).toNat = 340 + 2 * l + 0 by omega]; exact hb)
theorem z_guessedSlotX {g mk fr P : Nat → Int} {a : eRow} {c : Nat × Nat} (hg : rg g a) (hI : iA a) {x : Int} (bx : -2147483648 ≤ x ∧ x < 2147483648) (h : ¬ (1 ≤ x ∧ x ≤ (a 5 : Int))) : ev m_M_guessedSlot 0 [some (eR 1), some (eI x)] [] ([eA 0 964 g, mZ P, eA 0 144 mk, eA 0 24 fr], c) = some (.inl (some (eI (0))), ([eA 0 964 g, mZ (eUp P 10 1), eA 0 144 mk, eA 0 24 fr], c)) := by
  obtain ⟨hG, hV, hO, hT, hM⟩ := hI
  have bG := hG.1
  have bV := hV.1
  have b5 := iT_24 bG.2.2.2.2 hT
  have e0 := hg 0 (by omega)
  have e1 := hg 1 (by omega)
  have e2 := hg 2 (by omega)
  have e3 := hg 3 (by omega)
  have e4 := hg 4 (by omega)
  have e5 := hg 5 (by omega)
  refine xLd (N := 7) (n := 964) (i := 5) (F := fun zq => ev m_M_guessedSlot 9 [some (eR 1), some (eI x)] [eI (g zq), eI 1, eI x, eR 1] ([eA 0 964 g, mZ P, eA 0 144 mk, eA 0 24 fr], c)) (k := 5) rfl (show wr 5 = ((5 : Nat) : Int) by decide) (by omega) ?_
  refine xCallW (N := 1) (M2 := m_M_guessedSlot) (pc2 := 9) (ls2 := [some (eR 1), some (eI x)]) (st2 := []) (y := m_M_noNumber) (as := [some (eR 1), some (eI x), some (eI 1), some (eI (g 5))]) (w2 := ([eA 0 964 g, mZ P, eA 0 144 mk, eA 0 24 fr], c)) rfl (z_noNumX (by omega) (by omega) (by omega) (by omega)) ?_
  refine xEqF (N := 1) (x := 1) (y := 0) (A := ev m_M_guessedSlot 17 [some (eR 1), some (eI x)] [] ([eA 0 964 g, mZ (eUp P 10 1), eA 0 144 mk, eA 0 24 fr], c)) (B := ev m_M_guessedSlot 15 [some (eR 1), some (eI x)] [] ([eA 0 964 g, mZ (eUp P 10 1), eA 0 144 mk, eA 0 24 fr], c)) rfl (show wr 1 = 1 by decide) (show wr 0 = 0 by decide) (by decide) ?_
  refine xSeg (N := 2) (r := some (.inl (some (eI 0)), ([eA 0 964 g, mZ (eUp P 10 1), eA 0 144 mk, eA 0 24 fr], c))) rfl ?_
  rfl
theorem z_guessedWord {g mk fr P : Nat → Int} {a : eRow} {c : Nat × Nat} (hg : rg g a) (hI : iA a) {x : Int} {l : Nat} (hx : x = ((l + 1 : Nat) : Int)) (h1 : l < a 5) : ev m_M_guessedWord 0 [some (eR 1), some (eI x)] [] ([eA 0 964 g, mZ P, eA 0 144 mk, eA 0 24 fr], c) = some (.inl (some (eI (((gw a l : Nat) : Int)))), ([eA 0 964 g, mZ (eUp P 10 0), eA 0 144 mk, eA 0 24 fr], c)) := by
  obtain ⟨hG, hV, hO, hT, hM⟩ := hI
  have bG := hG.1
  have bV := hV.1
  have b5 := iT_24 bG.2.2.2.2 hT
  have e0 := hg 0 (by omega)
  have e1 := hg 1 (by omega)
  have e2 := hg 2 (by omega)
  have e3 := hg 3 (by omega)
  have e4 := hg 4 (by omega)
  have e5 := hg 5 (by omega)
  have hb : g (340 + 2 * l + 1) = ((gw a l : Nat) : Int) := hg (340 + 2 * l + 1) (by omega)
  refine xLd (N := 7) (n := 964) (i := 5) (F := fun zq => ev m_M_guessedWord 9 [some (eR 1), some (eI x)] [eI (g zq), eI 1, eI x, eR 1] ([eA 0 964 g, mZ P, eA 0 144 mk, eA 0 24 fr], c)) (k := 5) rfl (show wr 5 = ((5 : Nat) : Int) by decide) (by omega) ?_
  refine xCallW (N := 1) (M2 := m_M_guessedWord) (pc2 := 9) (ls2 := [some (eR 1), some (eI x)]) (st2 := []) (y := m_M_noNumber) (as := [some (eR 1), some (eI x), some (eI 1), some (eI (g 5))]) (w2 := ([eA 0 964 g, mZ P, eA 0 144 mk, eA 0 24 fr], c)) rfl (z_noNum (by omega) (by omega) (by omega) (by omega)) ?_
  refine xEqT (N := 1) (x := 0) (y := 0) (A := ev m_M_guessedWord 17 [some (eR 1), some (eI x)] [] ([eA 0 964 g, mZ (eUp P 10 0), eA 0 144 mk, eA 0 24 fr], c)) (B := ev m_M_guessedWord 15 [some (eR 1), some (eI x)] [] ([eA 0 964 g, mZ (eUp P 10 0), eA 0 144 mk, eA 0 24 fr], c)) rfl (show wr 0 = 0 by decide) (show wr 0 = 0 by decide) (by decide) ?_
  refine xLd (N := 10) (n := 964) (i := (340 + (2 * x)) - 1) (F := fun zq => ev m_M_guessedWord 31 [some (eR 1), some (eI x)] [eI (g zq)] ([eA 0 964 g, mZ (eUp P 10 0), eA 0 144 mk, eA 0 24 fr], c)) (k := ((340 + (2 * x)) - 1).toNat) rfl (wr_nat (by omega) (by omega)) (by omega) ?_
  refine xSeg (N := 1) (r := some (.inl (some (eI (g (((340 + (2 * x)) - 1).toNat)))), ([eA 0 964 g, mZ (eUp P 10 0), eA 0 144 mk, eA 0 24 fr], c))) rfl ?_
  exact lf (by rw [show (340 + 2 * x - 1).toNat = 340 + 2 * l + 1 by omega]; exact hb)
theorem z_guessedWordX {g mk fr P : Nat → Int} {a : eRow} {c : Nat × Nat} (hg : rg g a) (hI : iA a) {x : Int} (bx : -2147483648 ≤ x ∧ x < 2147483648) (h : ¬ (1 ≤ x ∧ x ≤ (a 5 : Int))) : ev m_M_guessedWord 0 [some (eR 1), some (eI x)] [] ([eA 0 964 g, mZ P, eA 0 144 mk, eA 0 24 fr], c) = some (.inl (some (eI (0))), ([eA 0 964 g, mZ (eUp P 10 1), eA 0 144 mk, eA 0 24 fr], c)) := by
  obtain ⟨hG, hV, hO, hT, hM⟩ := hI
  have bG := hG.1
  have bV := hV.1
  have b5 := iT_24 bG.2.2.2.2 hT
  have e0 := hg 0 (by omega)
  have e1 := hg 1 (by omega)
  have e2 := hg 2 (by omega)
  have e3 := hg 3 (by omega)
  have e4 := hg 4 (by omega)
  have e5 := hg 5 (by omega)
  refine xLd (N := 7) (n := 964) (i := 5) (F := fun zq => ev m_M_guessedWord 9 [some (eR 1), some (eI x)] [eI (g zq), eI 1, eI x, eR 1] ([eA 0 964 g, mZ P, eA 0 144 mk, eA 0 24 fr], c)) (k := 5) rfl (show wr 5 = ((5 : Nat) : Int) by decide) (by omega) ?_
  refine xCallW (N := 1) (M2 := m_M_guessedWord) (pc2 := 9) (ls2 := [some (eR 1), some (eI x)]) (st2 := []) (y := m_M_noNumber) (as := [some (eR 1), some (eI x), some (eI 1), some (eI (g 5))]) (w2 := ([eA 0 964 g, mZ P, eA 0 144 mk, eA 0 24 fr], c)) rfl (z_noNumX (by omega) (by omega) (by omega) (by omega)) ?_
  refine xEqF (N := 1) (x := 1) (y := 0) (A := ev m_M_guessedWord 17 [some (eR 1), some (eI x)] [] ([eA 0 964 g, mZ (eUp P 10 1), eA 0 144 mk, eA 0 24 fr], c)) (B := ev m_M_guessedWord 15 [some (eR 1), some (eI x)] [] ([eA 0 964 g, mZ (eUp P 10 1), eA 0 144 mk, eA 0 24 fr], c)) rfl (show wr 1 = 1 by decide) (show wr 0 = 0 by decide) (by decide) ?_
  refine xSeg (N := 2) (r := some (.inl (some (eI 0)), ([eA 0 964 g, mZ (eUp P 10 1), eA 0 144 mk, eA 0 24 fr], c))) rfl ?_
  rfl
theorem z_isCandidate {g mk fr P : Nat → Int} {a : eRow} {c : Nat × Nat} (hg : rg g a) (hI : iA a) {x : Int} {k : Nat} (hx : x = (k : Int)) (h1 : k < a 3) {y : Int} {w : Nat} (hy : y = (w : Int)) (h2 : w < a 2) : ev m_M_isCandidate 0 [some (eR 1), some (eI x), some (eI y)] [] ([eA 0 964 g, mZ P, eA 0 144 mk, eA 0 24 fr], c) = some (.inl (some (eI (bI ((op a k).testBit w)))), ([eA 0 964 g, mZ (eUp P 10 0), eA 0 144 mk, eA 0 24 fr], c)) := by
  obtain ⟨hG, hV, hO, hT, hM⟩ := hI
  have bG := hG.1
  have bV := hV.1
  have b5 := iT_24 bG.2.2.2.2 hT
  have e0 := hg 0 (by omega)
  have e1 := hg 1 (by omega)
  have e2 := hg 2 (by omega)
  have e3 := hg 3 (by omega)
  have e4 := hg 4 (by omega)
  have e5 := hg 5 (by omega)
  have hb := n_hasWord (c := (0, 0)) hg hx hy (by omega) (hO k h1).1 (by omega)
  have hz := bI_1 (b := (op a k).testBit w) rfl
  generalize bI ((op a k).testBit w) = zr at hb hz ⊢
  refine xCallW (N := 4) (M2 := m_M_isCandidate) (pc2 := 3) (ls2 := [some (eR 1), some (eI x), some (eI y)]) (st2 := []) (y := m_M_noGuess) (as := [some (eR 1), some (eI x), some (eI y)]) (w2 := ([eA 0 964 g, mZ P, eA 0 144 mk, eA 0 24 fr], c)) rfl (z_noGuess hg ⟨hG, hV, hO, hT, hM⟩ hx h1 hy h2) ?_
  refine xEqT (N := 1) (x := 0) (y := 0) (A := ev m_M_isCandidate 11 [some (eR 1), some (eI x), some (eI y)] [] ([eA 0 964 g, mZ (eUp P 10 0), eA 0 144 mk, eA 0 24 fr], c)) (B := ev m_M_isCandidate 9 [some (eR 1), some (eI x), some (eI y)] [] ([eA 0 964 g, mZ (eUp P 10 0), eA 0 144 mk, eA 0 24 fr], c)) rfl (show wr 0 = 0 by decide) (show wr 0 = 0 by decide) (by decide) ?_
  refine xCall (N := 5) (M2 := m_M_isCandidate) (pc2 := 17) (ls2 := [some (eR 1), some (eI x), some (eI y)]) (st2 := []) (y := m_M_hasWord) (as := [some (eR 0), some (eI x), some (eI y)]) (w2 := ([eA 0 964 g, mZ (eUp P 10 0), eA 0 144 mk, eA 0 24 fr], c)) rfl (rowRd hb rfl rfl) ?_
  refine xRb (N := 1) (v := zr) (w2 := ([eA 0 964 g, mZ (eUp P 10 0), eA 0 144 mk, eA 0 24 fr], c)) rfl (by rw [wr_id (by omega) (by omega)]; omega) ?_
  rfl
theorem z_guessRefusal {g mk fr P : Nat → Int} {a : eRow} {c : Nat × Nat} (hg : rg g a) (hI : iA a) {x : Int} {k : Nat} (hx : x = (k : Int)) (h1 : k < a 3) {y : Int} {w : Nat} (hy : y = (w : Int)) (h2 : w < a 2) : ev m_M_guessRefusal 0 [some (eR 1), some (eI x), some (eI y)] [] ([eA 0 964 g, mZ P, eA 0 144 mk, eA 0 24 fr], c) = some (.inl (some (eI (((rfs (a 4) ((op a k).testBit w) (decide (pc 30 (op a k) = 1)) : Nat) : Int)))), ([eA 0 964 g, mZ (eUp P 10 0), eA 0 144 mk, eA 0 24 fr], c)) := by
  obtain ⟨hG, hV, hO, hT, hM⟩ := hI
  have bG := hG.1
  have bV := hV.1
  have b5 := iT_24 bG.2.2.2.2 hT
  have e0 := hg 0 (by omega)
  have e1 := hg 1 (by omega)
  have e2 := hg 2 (by omega)
  have e3 := hg 3 (by omega)
  have e4 := hg 4 (by omega)
  have e5 := hg 5 (by omega)
  have hb := n_whyNotGuess (c := (0, 0)) hg hx hy (by omega) (hO k h1).1 (by omega) hM.1
  generalize ((rfs (a 4) ((op a k).testBit w) (decide (pc 30 (op a k) = 1)) : Nat) : Int) = zr at hb ⊢
  refine xCallW (N := 4) (M2 := m_M_guessRefusal) (pc2 := 3) (ls2 := [some (eR 1), some (eI x), some (eI y)]) (st2 := []) (y := m_M_noGuess) (as := [some (eR 1), some (eI x), some (eI y)]) (w2 := ([eA 0 964 g, mZ P, eA 0 144 mk, eA 0 24 fr], c)) rfl (z_noGuess hg ⟨hG, hV, hO, hT, hM⟩ hx h1 hy h2) ?_
  refine xEqT (N := 1) (x := 0) (y := 0) (A := ev m_M_guessRefusal 11 [some (eR 1), some (eI x), some (eI y)] [] ([eA 0 964 g, mZ (eUp P 10 0), eA 0 144 mk, eA 0 24 fr], c)) (B := ev m_M_guessRefusal 9 [some (eR 1), some (eI x), some (eI y)] [] ([eA 0 964 g, mZ (eUp P 10 0), eA 0 144 mk, eA 0 24 fr], c)) rfl (show wr 0 = 0 by decide) (show wr 0 = 0 by decide) (by decide) ?_
  refine xCall (N := 5) (M2 := m_M_guessRefusal) (pc2 := 17) (ls2 := [some (eR 1), some (eI x), some (eI y)]) (st2 := []) (y := m_M_whyNotGuess) (as := [some (eR 0), some (eI x), some (eI y)]) (w2 := ([eA 0 964 g, mZ (eUp P 10 0), eA 0 144 mk, eA 0 24 fr], c)) rfl (rowRd hb rfl rfl) ?_
  refine xSeg (N := 1) (r := some (.inl (some (eI zr)), ([eA 0 964 g, mZ (eUp P 10 0), eA 0 144 mk, eA 0 24 fr], c))) rfl ?_
  rfl
theorem z_isCandidateX {g mk fr P : Nat → Int} {a : eRow} {c : Nat × Nat} (hg : rg g a) (hI : iA a) {x : Int} (bx : -2147483648 ≤ x ∧ x < 2147483648) (h : ¬ (0 ≤ x ∧ x < (a 3 : Int))) {y : Int} : ev m_M_isCandidate 0 [some (eR 1), some (eI x), some (eI y)] [] ([eA 0 964 g, mZ P, eA 0 144 mk, eA 0 24 fr], c) = some (.inl (some (eI (0))), ([eA 0 964 g, mZ (eUp P 10 1), eA 0 144 mk, eA 0 24 fr], c)) := by
  obtain ⟨hG, hV, hO, hT, hM⟩ := hI
  have bG := hG.1
  have bV := hV.1
  have b5 := iT_24 bG.2.2.2.2 hT
  have e0 := hg 0 (by omega)
  have e1 := hg 1 (by omega)
  have e2 := hg 2 (by omega)
  have e3 := hg 3 (by omega)
  have e4 := hg 4 (by omega)
  have e5 := hg 5 (by omega)
  refine xCallW (N := 4) (M2 := m_M_isCandidate) (pc2 := 3) (ls2 := [some (eR 1), some (eI x), some (eI y)]) (st2 := []) (y := m_M_noGuess) (as := [some (eR 1), some (eI x), some (eI y)]) (w2 := ([eA 0 964 g, mZ P, eA 0 144 mk, eA 0 24 fr], c)) rfl (z_noGuessX hg ⟨hG, hV, hO, hT, hM⟩ bx h) ?_
  refine xEqF (N := 1) (x := 1) (y := 0) (A := ev m_M_isCandidate 11 [some (eR 1), some (eI x), some (eI y)] [] ([eA 0 964 g, mZ (eUp P 10 1), eA 0 144 mk, eA 0 24 fr], c)) (B := ev m_M_isCandidate 9 [some (eR 1), some (eI x), some (eI y)] [] ([eA 0 964 g, mZ (eUp P 10 1), eA 0 144 mk, eA 0 24 fr], c)) rfl (show wr 1 = 1 by decide) (show wr 0 = 0 by decide) (by decide) ?_
  refine xRb (N := 2) (v := 0) (w2 := ([eA 0 964 g, mZ (eUp P 10 1), eA 0 144 mk, eA 0 24 fr], c)) rfl (by decide) ?_
  rfl
theorem z_isCandidateY {g mk fr P : Nat → Int} {a : eRow} {c : Nat × Nat} (hg : rg g a) (hI : iA a) {x : Int} {k : Nat} (hx : x = (k : Int)) (h1 : k < a 3) {y : Int} (bx : -2147483648 ≤ y ∧ y < 2147483648) (h : ¬ (0 ≤ y ∧ y < (a 2 : Int))) : ev m_M_isCandidate 0 [some (eR 1), some (eI x), some (eI y)] [] ([eA 0 964 g, mZ P, eA 0 144 mk, eA 0 24 fr], c) = some (.inl (some (eI (0))), ([eA 0 964 g, mZ (eUp P 10 1), eA 0 144 mk, eA 0 24 fr], c)) := by
  obtain ⟨hG, hV, hO, hT, hM⟩ := hI
  have bG := hG.1
  have bV := hV.1
  have b5 := iT_24 bG.2.2.2.2 hT
  have e0 := hg 0 (by omega)
  have e1 := hg 1 (by omega)
  have e2 := hg 2 (by omega)
  have e3 := hg 3 (by omega)
  have e4 := hg 4 (by omega)
  have e5 := hg 5 (by omega)
  refine xCallW (N := 4) (M2 := m_M_isCandidate) (pc2 := 3) (ls2 := [some (eR 1), some (eI x), some (eI y)]) (st2 := []) (y := m_M_noGuess) (as := [some (eR 1), some (eI x), some (eI y)]) (w2 := ([eA 0 964 g, mZ P, eA 0 144 mk, eA 0 24 fr], c)) rfl (z_noGuessY hg ⟨hG, hV, hO, hT, hM⟩ hx h1 bx h) ?_
  refine xEqF (N := 1) (x := 1) (y := 0) (A := ev m_M_isCandidate 11 [some (eR 1), some (eI x), some (eI y)] [] ([eA 0 964 g, mZ (eUp P 10 1), eA 0 144 mk, eA 0 24 fr], c)) (B := ev m_M_isCandidate 9 [some (eR 1), some (eI x), some (eI y)] [] ([eA 0 964 g, mZ (eUp P 10 1), eA 0 144 mk, eA 0 24 fr], c)) rfl (show wr 1 = 1 by decide) (show wr 0 = 0 by decide) (by decide) ?_
  refine xRb (N := 2) (v := 0) (w2 := ([eA 0 964 g, mZ (eUp P 10 1), eA 0 144 mk, eA 0 24 fr], c)) rfl (by decide) ?_
  rfl
theorem z_guessRefusalX {g mk fr P : Nat → Int} {a : eRow} {c : Nat × Nat} (hg : rg g a) (hI : iA a) {x : Int} (bx : -2147483648 ≤ x ∧ x < 2147483648) (h : ¬ (0 ≤ x ∧ x < (a 3 : Int))) {y : Int} : ev m_M_guessRefusal 0 [some (eR 1), some (eI x), some (eI y)] [] ([eA 0 964 g, mZ P, eA 0 144 mk, eA 0 24 fr], c) = some (.inl (some (eI (0))), ([eA 0 964 g, mZ (eUp P 10 1), eA 0 144 mk, eA 0 24 fr], c)) := by
  obtain ⟨hG, hV, hO, hT, hM⟩ := hI
  have bG := hG.1
  have bV := hV.1
  have b5 := iT_24 bG.2.2.2.2 hT
  have e0 := hg 0 (by omega)
  have e1 := hg 1 (by omega)
  have e2 := hg 2 (by omega)
  have e3 := hg 3 (by omega)
  have e4 := hg 4 (by omega)
  have e5 := hg 5 (by omega)
  refine xCallW (N := 4) (M2 := m_M_guessRefusal) (pc2 := 3) (ls2 := [some (eR 1), some (eI x), some (eI y)]) (st2 := []) (y := m_M_noGuess) (as := [some (eR 1), some (eI x), some (eI y)]) (w2 := ([eA 0 964 g, mZ P, eA 0 144 mk, eA 0 24 fr], c)) rfl (z_noGuessX hg ⟨hG, hV, hO, hT, hM⟩ bx h) ?_
  refine xEqF (N := 1) (x := 1) (y := 0) (A := ev m_M_guessRefusal 11 [some (eR 1), some (eI x), some (eI y)] [] ([eA 0 964 g, mZ (eUp P 10 1), eA 0 144 mk, eA 0 24 fr], c)) (B := ev m_M_guessRefusal 9 [some (eR 1), some (eI x), some (eI y)] [] ([eA 0 964 g, mZ (eUp P 10 1), eA 0 144 mk, eA 0 24 fr], c)) rfl (show wr 1 = 1 by decide) (show wr 0 = 0 by decide) (by decide) ?_
  refine xSeg (N := 2) (r := some (.inl (some (eI 0)), ([eA 0 964 g, mZ (eUp P 10 1), eA 0 144 mk, eA 0 24 fr], c))) rfl ?_
  rfl
theorem z_guessRefusalY {g mk fr P : Nat → Int} {a : eRow} {c : Nat × Nat} (hg : rg g a) (hI : iA a) {x : Int} {k : Nat} (hx : x = (k : Int)) (h1 : k < a 3) {y : Int} (bx : -2147483648 ≤ y ∧ y < 2147483648) (h : ¬ (0 ≤ y ∧ y < (a 2 : Int))) : ev m_M_guessRefusal 0 [some (eR 1), some (eI x), some (eI y)] [] ([eA 0 964 g, mZ P, eA 0 144 mk, eA 0 24 fr], c) = some (.inl (some (eI (0))), ([eA 0 964 g, mZ (eUp P 10 1), eA 0 144 mk, eA 0 24 fr], c)) := by
  obtain ⟨hG, hV, hO, hT, hM⟩ := hI
  have bG := hG.1
  have bV := hV.1
  have b5 := iT_24 bG.2.2.2.2 hT
  have e0 := hg 0 (by omega)
  have e1 := hg 1 (by omega)
  have e2 := hg 2 (by omega)
  have e3 := hg 3 (by omega)
  have e4 := hg 4 (by omega)
  have e5 := hg 5 (by omega)
  refine xCallW (N := 4) (M2 := m_M_guessRefusal) (pc2 := 3) (ls2 := [some (eR 1), some (eI x), some (eI y)]) (st2 := []) (y := m_M_noGuess) (as := [some (eR 1), some (eI x), some (eI y)]) (w2 := ([eA 0 964 g, mZ P, eA 0 144 mk, eA 0 24 fr], c)) rfl (z_noGuessY hg ⟨hG, hV, hO, hT, hM⟩ hx h1 bx h) ?_
  refine xEqF (N := 1) (x := 1) (y := 0) (A := ev m_M_guessRefusal 11 [some (eR 1), some (eI x), some (eI y)] [] ([eA 0 964 g, mZ (eUp P 10 1), eA 0 144 mk, eA 0 24 fr], c)) (B := ev m_M_guessRefusal 9 [some (eR 1), some (eI x), some (eI y)] [] ([eA 0 964 g, mZ (eUp P 10 1), eA 0 144 mk, eA 0 24 fr], c)) rfl (show wr 1 = 1 by decide) (show wr 0 = 0 by decide) (by decide) ?_
  refine xSeg (N := 2) (r := some (.inl (some (eI 0)), ([eA 0 964 g, mZ (eUp P 10 1), eA 0 144 mk, eA 0 24 fr], c))) rfl ?_
  rfl
theorem z_columns {g mk fr P : Nat → Int} {a : eRow} {c : Nat × Nat} (hg : rg g a) (hI : iA a)  : ev m_M_columns 0 [some (eR 1)] [] ([eA 0 964 g, mZ P, eA 0 144 mk, eA 0 24 fr], c) = some (.inl (some (eI (((a 0 : Nat) : Int)))), ([eA 0 964 g, mZ (eUp P 10 0), eA 0 144 mk, eA 0 24 fr], c)) := by
  obtain ⟨hG, hV, hO, hT, hM⟩ := hI
  have bG := hG.1
  have bV := hV.1
  have b5 := iT_24 bG.2.2.2.2 hT
  have e0 := hg 0 (by omega)
  have e1 := hg 1 (by omega)
  have e2 := hg 2 (by omega)
  have e3 := hg 3 (by omega)
  have e4 := hg 4 (by omega)
  have e5 := hg 5 (by omega)
  refine xLd (N := 7) (n := 964) (i := 0) (F := fun zq => ev m_M_columns 11 [some (eR 1)] [eI (g zq)] ([eA 0 964 g, mZ (eUp P 10 0), eA 0 144 mk, eA 0 24 fr], c)) (k := 0) rfl (show wr 0 = ((0 : Nat) : Int) by decide) (by omega) ?_
  refine xSeg (N := 1) (r := some (.inl (some (eI (g 0))), ([eA 0 964 g, mZ (eUp P 10 0), eA 0 144 mk, eA 0 24 fr], c))) rfl ?_
  exact lf (hg 0 (by omega))
theorem z_rows {g mk fr P : Nat → Int} {a : eRow} {c : Nat × Nat} (hg : rg g a) (hI : iA a)  : ev m_M_rows 0 [some (eR 1)] [] ([eA 0 964 g, mZ P, eA 0 144 mk, eA 0 24 fr], c) = some (.inl (some (eI (((a 1 : Nat) : Int)))), ([eA 0 964 g, mZ (eUp P 10 0), eA 0 144 mk, eA 0 24 fr], c)) := by
  obtain ⟨hG, hV, hO, hT, hM⟩ := hI
  have bG := hG.1
  have bV := hV.1
  have b5 := iT_24 bG.2.2.2.2 hT
  have e0 := hg 0 (by omega)
  have e1 := hg 1 (by omega)
  have e2 := hg 2 (by omega)
  have e3 := hg 3 (by omega)
  have e4 := hg 4 (by omega)
  have e5 := hg 5 (by omega)
  refine xLd (N := 7) (n := 964) (i := 1) (F := fun zq => ev m_M_rows 11 [some (eR 1)] [eI (g zq)] ([eA 0 964 g, mZ (eUp P 10 0), eA 0 144 mk, eA 0 24 fr], c)) (k := 1) rfl (show wr 1 = ((1 : Nat) : Int) by decide) (by omega) ?_
  refine xSeg (N := 1) (r := some (.inl (some (eI (g 1))), ([eA 0 964 g, mZ (eUp P 10 0), eA 0 144 mk, eA 0 24 fr], c))) rfl ?_
  exact lf (hg 1 (by omega))
theorem z_slotCount {g mk fr P : Nat → Int} {a : eRow} {c : Nat × Nat} (hg : rg g a) (hI : iA a)  : ev m_M_slotCount 0 [some (eR 1)] [] ([eA 0 964 g, mZ P, eA 0 144 mk, eA 0 24 fr], c) = some (.inl (some (eI (((a 3 : Nat) : Int)))), ([eA 0 964 g, mZ (eUp P 10 0), eA 0 144 mk, eA 0 24 fr], c)) := by
  obtain ⟨hG, hV, hO, hT, hM⟩ := hI
  have bG := hG.1
  have bV := hV.1
  have b5 := iT_24 bG.2.2.2.2 hT
  have e0 := hg 0 (by omega)
  have e1 := hg 1 (by omega)
  have e2 := hg 2 (by omega)
  have e3 := hg 3 (by omega)
  have e4 := hg 4 (by omega)
  have e5 := hg 5 (by omega)
  refine xLd (N := 7) (n := 964) (i := 3) (F := fun zq => ev m_M_slotCount 11 [some (eR 1)] [eI (g zq)] ([eA 0 964 g, mZ (eUp P 10 0), eA 0 144 mk, eA 0 24 fr], c)) (k := 3) rfl (show wr 3 = ((3 : Nat) : Int) by decide) (by omega) ?_
  refine xSeg (N := 1) (r := some (.inl (some (eI (g 3))), ([eA 0 964 g, mZ (eUp P 10 0), eA 0 144 mk, eA 0 24 fr], c))) rfl ?_
  exact lf (hg 3 (by omega))
theorem z_wordCount {g mk fr P : Nat → Int} {a : eRow} {c : Nat × Nat} (hg : rg g a) (hI : iA a)  : ev m_M_wordCount 0 [some (eR 1)] [] ([eA 0 964 g, mZ P, eA 0 144 mk, eA 0 24 fr], c) = some (.inl (some (eI (((a 2 : Nat) : Int)))), ([eA 0 964 g, mZ (eUp P 10 0), eA 0 144 mk, eA 0 24 fr], c)) := by
  obtain ⟨hG, hV, hO, hT, hM⟩ := hI
  have bG := hG.1
  have bV := hV.1
  have b5 := iT_24 bG.2.2.2.2 hT
  have e0 := hg 0 (by omega)
  have e1 := hg 1 (by omega)
  have e2 := hg 2 (by omega)
  have e3 := hg 3 (by omega)
  have e4 := hg 4 (by omega)
  have e5 := hg 5 (by omega)
  refine xLd (N := 7) (n := 964) (i := 2) (F := fun zq => ev m_M_wordCount 11 [some (eR 1)] [eI (g zq)] ([eA 0 964 g, mZ (eUp P 10 0), eA 0 144 mk, eA 0 24 fr], c)) (k := 2) rfl (show wr 2 = ((2 : Nat) : Int) by decide) (by omega) ?_
  refine xSeg (N := 1) (r := some (.inl (some (eI (g 2))), ([eA 0 964 g, mZ (eUp P 10 0), eA 0 144 mk, eA 0 24 fr], c))) rfl ?_
  exact lf (hg 2 (by omega))
theorem z_state {g mk fr P : Nat → Int} {a : eRow} {c : Nat × Nat} (hg : rg g a) (hI : iA a)  : ev m_M_state 0 [some (eR 1)] [] ([eA 0 964 g, mZ P, eA 0 144 mk, eA 0 24 fr], c) = some (.inl (some (eI (((a 4 : Nat) : Int)))), ([eA 0 964 g, mZ (eUp P 10 0), eA 0 144 mk, eA 0 24 fr], c)) := by
  obtain ⟨hG, hV, hO, hT, hM⟩ := hI
  have bG := hG.1
  have bV := hV.1
  have b5 := iT_24 bG.2.2.2.2 hT
  have e0 := hg 0 (by omega)
  have e1 := hg 1 (by omega)
  have e2 := hg 2 (by omega)
  have e3 := hg 3 (by omega)
  have e4 := hg 4 (by omega)
  have e5 := hg 5 (by omega)
  refine xLd (N := 7) (n := 964) (i := 4) (F := fun zq => ev m_M_state 11 [some (eR 1)] [eI (g zq)] ([eA 0 964 g, mZ (eUp P 10 0), eA 0 144 mk, eA 0 24 fr], c)) (k := 4) rfl (show wr 4 = ((4 : Nat) : Int) by decide) (by omega) ?_
  refine xSeg (N := 1) (r := some (.inl (some (eI (g 4))), ([eA 0 964 g, mZ (eUp P 10 0), eA 0 144 mk, eA 0 24 fr], c))) rfl ?_
  exact lf (hg 4 (by omega))
theorem z_level {g mk fr P : Nat → Int} {a : eRow} {c : Nat × Nat} (hg : rg g a) (hI : iA a)  : ev m_M_level 0 [some (eR 1)] [] ([eA 0 964 g, mZ P, eA 0 144 mk, eA 0 24 fr], c) = some (.inl (some (eI (((a 5 : Nat) : Int)))), ([eA 0 964 g, mZ (eUp P 10 0), eA 0 144 mk, eA 0 24 fr], c)) := by
  obtain ⟨hG, hV, hO, hT, hM⟩ := hI
  have bG := hG.1
  have bV := hV.1
  have b5 := iT_24 bG.2.2.2.2 hT
  have e0 := hg 0 (by omega)
  have e1 := hg 1 (by omega)
  have e2 := hg 2 (by omega)
  have e3 := hg 3 (by omega)
  have e4 := hg 4 (by omega)
  have e5 := hg 5 (by omega)
  refine xLd (N := 7) (n := 964) (i := 5) (F := fun zq => ev m_M_level 11 [some (eR 1)] [eI (g zq)] ([eA 0 964 g, mZ (eUp P 10 0), eA 0 144 mk, eA 0 24 fr], c)) (k := 5) rfl (show wr 5 = ((5 : Nat) : Int) by decide) (by omega) ?_
  refine xSeg (N := 1) (r := some (.inl (some (eI (g 5))), ([eA 0 964 g, mZ (eUp P 10 0), eA 0 144 mk, eA 0 24 fr], c))) rfl ?_
  exact lf (hg 5 (by omega))
theorem z_guesses {g mk fr P : Nat → Int} {a : eRow} {c : Nat × Nat} (hg : rg g a) (hI : iA a)  : ev m_M_guesses 0 [some (eR 1)] [] ([eA 0 964 g, mZ P, eA 0 144 mk, eA 0 24 fr], c) = some (.inl (some (eI (((a 6 : Nat) : Int)))), ([eA 0 964 g, mZ (eUp P 10 0), eA 0 144 mk, eA 0 24 fr], c)) := by
  obtain ⟨hG, hV, hO, hT, hM⟩ := hI
  have bG := hG.1
  have bV := hV.1
  have b5 := iT_24 bG.2.2.2.2 hT
  have e0 := hg 0 (by omega)
  have e1 := hg 1 (by omega)
  have e2 := hg 2 (by omega)
  have e3 := hg 3 (by omega)
  have e4 := hg 4 (by omega)
  have e5 := hg 5 (by omega)
  refine xLd (N := 7) (n := 964) (i := 6) (F := fun zq => ev m_M_guesses 12 [some (eR 1)] [eI (g zq)] ([eA 0 964 g, mZ (eUp P 10 0), eA 0 144 mk, eA 0 24 fr], c)) (k := 6) rfl (show wr 6 = ((6 : Nat) : Int) by decide) (by omega) ?_
  refine xSeg (N := 1) (r := some (.inl (some (eI (g 6))), ([eA 0 964 g, mZ (eUp P 10 0), eA 0 144 mk, eA 0 24 fr], c))) rfl ?_
  exact lf (hg 6 (by omega))
theorem z_takenBack {g mk fr P : Nat → Int} {a : eRow} {c : Nat × Nat} (hg : rg g a) (hI : iA a)  : ev m_M_takenBack 0 [some (eR 1)] [] ([eA 0 964 g, mZ P, eA 0 144 mk, eA 0 24 fr], c) = some (.inl (some (eI (((a 7 : Nat) : Int)))), ([eA 0 964 g, mZ (eUp P 10 0), eA 0 144 mk, eA 0 24 fr], c)) := by
  obtain ⟨hG, hV, hO, hT, hM⟩ := hI
  have bG := hG.1
  have bV := hV.1
  have b5 := iT_24 bG.2.2.2.2 hT
  have e0 := hg 0 (by omega)
  have e1 := hg 1 (by omega)
  have e2 := hg 2 (by omega)
  have e3 := hg 3 (by omega)
  have e4 := hg 4 (by omega)
  have e5 := hg 5 (by omega)
  refine xLd (N := 7) (n := 964) (i := 7) (F := fun zq => ev m_M_takenBack 12 [some (eR 1)] [eI (g zq)] ([eA 0 964 g, mZ (eUp P 10 0), eA 0 144 mk, eA 0 24 fr], c)) (k := 7) rfl (show wr 7 = ((7 : Nat) : Int) by decide) (by omega) ?_
  refine xSeg (N := 1) (r := some (.inl (some (eI (g 7))), ([eA 0 964 g, mZ (eUp P 10 0), eA 0 144 mk, eA 0 24 fr], c))) rfl ?_
  exact lf (hg 7 (by omega))
theorem z_levelDifference {g mk fr P : Nat → Int} {a : eRow} {c : Nat × Nat} (hg : rg g a) (hI : iA a)  : ev m_M_levelDifference 0 [some (eR 1)] [] ([eA 0 964 g, mZ P, eA 0 144 mk, eA 0 24 fr], c) = some (.inl (some (eI (((a 6 : Nat) : Int) - ((a 7 : Nat) : Int) - ((a 8 : Nat) : Int) - ((a 5 : Nat) : Int)))), ([eA 0 964 g, mZ (eUp P 10 0), eA 0 144 mk, eA 0 24 fr], c)) := by
  obtain ⟨hG, hV, hO, hT, hM⟩ := hI
  have bG := hG.1
  have bV := hV.1
  have b5 := iT_24 bG.2.2.2.2 hT
  have e0 := hg 0 (by omega)
  have e1 := hg 1 (by omega)
  have e2 := hg 2 (by omega)
  have e3 := hg 3 (by omega)
  have e4 := hg 4 (by omega)
  have e5 := hg 5 (by omega)
  refine xLd (N := 7) (n := 964) (i := 6) (F := fun zq => ev m_M_levelDifference 12 [some (eR 1)] [eI (g zq)] ([eA 0 964 g, mZ (eUp P 10 0), eA 0 144 mk, eA 0 24 fr], c)) (k := 6) rfl (show wr 6 = ((6 : Nat) : Int) by decide) (by omega) ?_
  refine xLd (N := 4) (n := 964) (i := 7) (F := fun zq => ev m_M_levelDifference 19 [some (eR 1)] [eI (g zq), eI (g 6)] ([eA 0 964 g, mZ (eUp P 10 0), eA 0 144 mk, eA 0 24 fr], c)) (k := 7) rfl (show wr 7 = ((7 : Nat) : Int) by decide) (by omega) ?_
  refine xLd (N := 5) (n := 964) (i := 8) (F := fun zq => ev m_M_levelDifference 27 [some (eR 1)] [eI (g zq), eI ((g 6) - (g 7))] ([eA 0 964 g, mZ (eUp P 10 0), eA 0 144 mk, eA 0 24 fr], c)) (k := 8) rfl (show wr 8 = ((8 : Nat) : Int) by decide) (by omega) ?_
  refine xLd (N := 5) (n := 964) (i := 5) (F := fun zq => ev m_M_levelDifference 34 [some (eR 1)] [eI (g zq), eI (((g 6) - (g 7)) - (g 8))] ([eA 0 964 g, mZ (eUp P 10 0), eA 0 144 mk, eA 0 24 fr], c)) (k := 5) rfl (show wr 5 = ((5 : Nat) : Int) by decide) (by omega) ?_
  refine xSeg (N := 2) (r := some (.inl (some (eI ((((g 6) - (g 7)) - (g 8)) - (g 5)))), ([eA 0 964 g, mZ (eUp P 10 0), eA 0 144 mk, eA 0 24 fr], c))) rfl ?_
  exact lf (by rw [hg 6 (by omega), hg 7 (by omega), hg 8 (by omega), hg 5 (by omega)])
theorem z_bestSlot {g mk fr P : Nat → Int} {a : eRow} {c : Nat × Nat} (hg : rg g a) (hI : iA a)  : ev m_M_bestSlot 0 [some (eR 1)] [] ([eA 0 964 g, mZ P, eA 0 144 mk, eA 0 24 fr], c) = some (.inl (some (eI ((bsA (fun k => pc 30 (op a k)) (a 3)).1))), ([eA 0 964 g, mZ (eUp P 10 0), eA 0 144 mk, eA 0 24 fr], c)) := by
  obtain ⟨hG, hV, hO, hT, hM⟩ := hI
  have bG := hG.1
  have bV := hV.1
  have b5 := iT_24 bG.2.2.2.2 hT
  have e0 := hg 0 (by omega)
  have e1 := hg 1 (by omega)
  have e2 := hg 2 (by omega)
  have e3 := hg 3 (by omega)
  have e4 := hg 4 (by omega)
  have e5 := hg 5 (by omega)
  have hb := n_best (c := (0, 0)) hg (by omega) (fun k hk => (hO k hk).1)
  generalize (bsA (fun k => pc 30 (op a k)) (a 3)).1 = zr at hb ⊢
  refine xCall (N := 6) (M2 := m_M_bestSlot) (pc2 := 9) (ls2 := [some (eR 1)]) (st2 := []) (y := m_M_best) (as := [some (eR 0)]) (w2 := ([eA 0 964 g, mZ (eUp P 10 0), eA 0 144 mk, eA 0 24 fr], c)) rfl (rowRd hb rfl rfl) ?_
  refine xSeg (N := 1) (r := some (.inl (some (eI zr)), ([eA 0 964 g, mZ (eUp P 10 0), eA 0 144 mk, eA 0 24 fr], c))) rfl ?_
  rfl
theorem z_emptySlot {g mk fr P : Nat → Int} {a : eRow} {c : Nat × Nat} (hg : rg g a) (hI : iA a)  : ev m_M_emptySlot 0 [some (eR 1)] [] ([eA 0 964 g, mZ P, eA 0 144 mk, eA 0 24 fr], c) = some (.inl (some (eI (fnd (fun k => decide (op a k = 0)) (a 3) 0))), ([eA 0 964 g, mZ (eUp P 10 0), eA 0 144 mk, eA 0 24 fr], c)) := by
  obtain ⟨hG, hV, hO, hT, hM⟩ := hI
  have bG := hG.1
  have bV := hV.1
  have b5 := iT_24 bG.2.2.2.2 hT
  have e0 := hg 0 (by omega)
  have e1 := hg 1 (by omega)
  have e2 := hg 2 (by omega)
  have e3 := hg 3 (by omega)
  have e4 := hg 4 (by omega)
  have e5 := hg 5 (by omega)
  have hb := n_emptyOne (c := (0, 0)) hg (by omega) (fun k hk => (hO k hk).1)
  generalize fnd (fun k => decide (op a k = 0)) (a 3) 0 = zr at hb ⊢
  refine xCall (N := 6) (M2 := m_M_emptySlot) (pc2 := 9) (ls2 := [some (eR 1)]) (st2 := []) (y := m_M_emptyOne) (as := [some (eR 0)]) (w2 := ([eA 0 964 g, mZ (eUp P 10 0), eA 0 144 mk, eA 0 24 fr], c)) rfl (rowRd hb rfl rfl) ?_
  refine xSeg (N := 1) (r := some (.inl (some (eI zr)), ([eA 0 964 g, mZ (eUp P 10 0), eA 0 144 mk, eA 0 24 fr], c))) rfl ?_
  rfl
theorem z_candidatesLeft {g mk fr P : Nat → Int} {a : eRow} {c : Nat × Nat} (hg : rg g a) (hI : iA a)  : ev m_M_candidatesLeft 0 [some (eR 1)] [] ([eA 0 964 g, mZ P, eA 0 144 mk, eA 0 24 fr], c) = some (.inl (some (eI (((fb_sm (fun k => pc 30 (op a k)) (a 3) : Nat) : Int)))), ([eA 0 964 g, mZ (eUp P 10 0), eA 0 144 mk, eA 0 24 fr], c)) := by
  obtain ⟨hG, hV, hO, hT, hM⟩ := hI
  have bG := hG.1
  have bV := hV.1
  have b5 := iT_24 bG.2.2.2.2 hT
  have e0 := hg 0 (by omega)
  have e1 := hg 1 (by omega)
  have e2 := hg 2 (by omega)
  have e3 := hg 3 (by omega)
  have e4 := hg 4 (by omega)
  have e5 := hg 5 (by omega)
  have hb := n_left (c := (0, 0)) hg (by omega) (fun k hk => (hO k hk).1)
  generalize ((fb_sm (fun k => pc 30 (op a k)) (a 3) : Nat) : Int) = zr at hb ⊢
  refine xCall (N := 6) (M2 := m_M_candidatesLeft) (pc2 := 9) (ls2 := [some (eR 1)]) (st2 := []) (y := m_M_left) (as := [some (eR 0)]) (w2 := ([eA 0 964 g, mZ (eUp P 10 0), eA 0 144 mk, eA 0 24 fr], c)) rfl (rowRd hb rfl rfl) ?_
  refine xSeg (N := 1) (r := some (.inl (some (eI zr)), ([eA 0 964 g, mZ (eUp P 10 0), eA 0 144 mk, eA 0 24 fr], c))) rfl ?_
  rfl
