/-! The model's questions about grid and candidates. -/
set_option maxRecDepth 100000
def bl (a : eRow) (e : Nat) : Nat := a (16 + e)
theorem n_isFree {g : Nat → Int} {a : eRow} {c : Nat × Nat} {x y : Int} (hg : rg g a) (hW : a 0 < 7) (hH : a 1 < 7) (hB : ∀ e, e < 36 → a (16 + e) ≤ 1) (bx : -2147483648 ≤ x ∧ x < 2147483648) (by_ : -2147483648 ≤ y ∧ y < 2147483648) : ev m_M_isFree 0 [some (eR 0), some (eI x), some (eI y)] [] ([eA 0 964 g], c) = some (.inl (some (eI (bI (opn (a 0) (a 1) (bl a) x y)))), ([eA 0 964 g], c)) := by
  have e0 := hg 0 (by omega)
  have e1 := hg 1 (by omega)
  refine xLd (N := 5) (n := 964) (i := 0) (F := fun zq => ev m_M_isFree 5 [some (eR 0), some (eI x), some (eI y)] [eI (g zq), eI 0, eI x] ([eA 0 964 g], c)) (k := 0) rfl (show wr 0 = ((0 : Nat) : Int) by decide) (by omega) ?_
  refine xCallI (N := 3) (v := bI (decide (0 ≤ x ∧ x ≤ (g 0) - 1))) (M2 := m_M_isFree) (pc2 := 7) (ls2 := [some (eR 0), some (eI x), some (eI y)]) (st2 := []) (y := m_M_isBetween) (as := [some (eI x), some (eI 0), some (eI ((g 0) - 1))]) (w2 := ([eA 0 964 g], c)) rfl (n_between (by omega) (by omega) (by omega)) (fun r7 hr7 => ?_)
  have hq := bI_1 hr7
  refine xEq (N := 1) (x := r7) (y := 0) (A := ev m_M_isFree 44 [some (eR 0), some (eI x), some (eI y)] [] ([eA 0 964 g], c)) (B := ev m_M_isFree 13 [some (eR 0), some (eI x), some (eI y)] [] ([eA 0 964 g], c)) rfl (wr_id (by omega) (by omega)) (show wr 0 = 0 by decide) (fun h10 => ?_) (fun h10 => ?_)
  · refine xRb (N := 2) (v := 0) (w2 := ([eA 0 964 g], c)) rfl (by decide) ?_
    first | exact lf (bT (by unfold opn; rw [hG]; exact decide_eq_true (by omega))) | exact lf (bF (by unfold opn; rw [hG]; exact decide_eq_false (by omega))) | exact lf (bF (by unfold opn; rw [inG_F (by have h9 := of_decide_eq_false (hq2.2.2.mp (by omega)); omega)]; rfl)) | exact lf (bF (by unfold opn; rw [inG_F (by have h9 := of_decide_eq_false (hq.2.2.mp (by omega)); omega)]; rfl))
  · have hx2 := of_decide_eq_true (hq.2.1.mp (by omega))
    refine xLd (N := 5) (n := 964) (i := 1) (F := fun zq => ev m_M_isFree 18 [some (eR 0), some (eI x), some (eI y)] [eI (g zq), eI 0, eI y] ([eA 0 964 g], c)) (k := 1) rfl (show wr 1 = ((1 : Nat) : Int) by decide) (by omega) ?_
    refine xCallI (N := 3) (v := bI (decide (0 ≤ y ∧ y ≤ (g 1) - 1))) (M2 := m_M_isFree) (pc2 := 20) (ls2 := [some (eR 0), some (eI x), some (eI y)]) (st2 := []) (y := m_M_isBetween) (as := [some (eI y), some (eI 0), some (eI ((g 1) - 1))]) (w2 := ([eA 0 964 g], c)) rfl (n_between (by omega) (by omega) (by omega)) (fun r20 hr20 => ?_)
    have hq2 := bI_1 hr20
    refine xEq (N := 1) (x := r20) (y := 0) (A := ev m_M_isFree 44 [some (eR 0), some (eI x), some (eI y)] [] ([eA 0 964 g], c)) (B := ev m_M_isFree 26 [some (eR 0), some (eI x), some (eI y)] [] ([eA 0 964 g], c)) rfl (wr_id (by omega) (by omega)) (show wr 0 = 0 by decide) (fun h23 => ?_) (fun h23 => ?_)
    · refine xRb (N := 2) (v := 0) (w2 := ([eA 0 964 g], c)) rfl (by decide) ?_
      first | exact lf (bT (by unfold opn; rw [hG]; exact decide_eq_true (by omega))) | exact lf (bF (by unfold opn; rw [hG]; exact decide_eq_false (by omega))) | exact lf (bF (by unfold opn; rw [inG_F (by have h9 := of_decide_eq_false (hq2.2.2.mp (by omega)); omega)]; rfl)) | exact lf (bF (by unfold opn; rw [inG_F (by have h9 := of_decide_eq_false (hq.2.2.mp (by omega)); omega)]; rfl))
    · have hy2 := of_decide_eq_true (hq2.2.1.mp (by omega))
      have hG : inG (a 0) (a 1) x y = true := inG_T (by omega)
      have e3 : g (16 + (y * 6 + x).toNat) = (bl a (y * 6 + x).toNat : Int) := hg (16 + (y * 6 + x).toNat) (by omega)
      have e4 : bl a (y * 6 + x).toNat ≤ 1 := hB (y * 6 + x).toNat (by omega)
      refine xCallI (N := 6) (v := 6 * y + x) (M2 := m_M_isFree) (pc2 := 32) (ls2 := [some (eR 0), some (eI x), some (eI y)]) (st2 := [eI 16, eR 0]) (y := m_M_cellOf) (as := [some (eR 0), some (eI x), some (eI y)]) (w2 := ([eA 0 964 g], c)) rfl n_cellOf (fun r32 hr32 => ?_)
      refine xLd (N := 2) (n := 964) (i := 16 + r32) (F := fun zq => ev m_M_isFree 37 [some (eR 0), some (eI x), some (eI y)] [eI (g zq)] ([eA 0 964 g], c)) (k := 16 + ((y * 6 + x).toNat)) rfl (wr_nat (by omega) (by omega)) (by omega) ?_
      refine xEq (N := 1) (x := g (16 + ((y * 6 + x).toNat))) (y := 0) (A := ev m_M_isFree 40 [some (eR 0), some (eI x), some (eI y)] [] ([eA 0 964 g], c)) (B := ev m_M_isFree 44 [some (eR 0), some (eI x), some (eI y)] [] ([eA 0 964 g], c)) rfl (wr_id (by omega) (by omega)) (show wr 0 = 0 by decide) (fun h37 => ?_) (fun h37 => ?_)
      · refine xRb (N := 3) (v := 1) (w2 := ([eA 0 964 g], c)) rfl (by decide) ?_
        first | exact lf (bT (by unfold opn; rw [hG]; exact decide_eq_true (by omega))) | exact lf (bF (by unfold opn; rw [hG]; exact decide_eq_false (by omega))) | exact lf (bF (by unfold opn; rw [inG_F (by have h9 := of_decide_eq_false (hq2.2.2.mp (by omega)); omega)]; rfl)) | exact lf (bF (by unfold opn; rw [inG_F (by have h9 := of_decide_eq_false (hq.2.2.mp (by omega)); omega)]; rfl))
      · refine xRb (N := 2) (v := 0) (w2 := ([eA 0 964 g], c)) rfl (by decide) ?_
        first | exact lf (bT (by unfold opn; rw [hG]; exact decide_eq_true (by omega))) | exact lf (bF (by unfold opn; rw [hG]; exact decide_eq_false (by omega))) | exact lf (bF (by unfold opn; rw [inG_F (by have h9 := of_decide_eq_false (hq2.2.2.mp (by omega)); omega)]; rfl)) | exact lf (bF (by unfold opn; rw [inG_F (by have h9 := of_decide_eq_false (hq.2.2.mp (by omega)); omega)]; rfl))
theorem n_cellAt {g : Nat → Int} {a : eRow} {c : Nat × Nat} {x i : Int} {k p : Nat} (hg : rg g a) (hG : iG a) (hx : x = (k : Int)) (hi : i = (p : Int)) (hk : k < a 3) (hp : p < sl a k) : ev m_M_cellAt 0 [some (eR 0), some (eI x), some (eI i)] [] ([eA 0 964 g], c) = some (.inl (some (eI ((cel a k p : Nat) : Int))), ([eA 0 964 g], c)) := by
  have hn := hG.1.2.2.2.2
  obtain ⟨h1, h2, h3, h4, h5, h6, h7⟩ := sl_at hG hk
  have e0 : g (148 + 4 * k + 0) = (sx a k : Int) := hg (148 + 4 * k) (by omega)
  have e1 : g (148 + 4 * k + 1) = (sy a k : Int) := hg (148 + 4 * k + 1) (by omega)
  have e3 : g (148 + 4 * k + 3) = (sd a k : Int) := hg (148 + 4 * k + 3) (by omega)
  refine xCallI (N := 2) (v := 148 + 4 * x) (M2 := m_M_cellAt) (pc2 := 1) (ls2 := [some (eR 0), some (eI x), some (eI i)]) (st2 := []) (y := m_M_ofSlot) (as := [some (eI x)]) (w2 := ([eA 0 964 g], c)) rfl n_ofSlot (fun r1 hr1 => ?_)
  refine xLd (N := 6) (n := 964) (i := r1 + 3) (F := fun zq => ev m_M_cellAt 10 [some (eR 0), some (eI x), some (eI i), some (eI r1)] [eI (g zq)] ([eA 0 964 g], c)) (k := (148 + 4 * k) + 3) rfl (wr_nat (by omega) (by omega)) (by omega) ?_
  refine xLd (N := 7) (n := 964) (i := r1 + 0) (F := fun zq => ev m_M_cellAt 18 [some (eR 0), some (eI x), some (eI i), some (eI r1), some (eI (g ((148 + 4 * k) + 3)))] [eI (g zq), eR 0] ([eA 0 964 g], c)) (k := (148 + 4 * k) + 0) rfl (wr_nat (by omega) (by omega)) (by omega) ?_
  refine xLd (N := 11) (n := 964) (i := r1 + 1) (F := fun zq => ev m_M_cellAt 30 [some (eR 0), some (eI x), some (eI i), some (eI r1), some (eI (g ((148 + 4 * k) + 3)))] [eI (g zq), eI ((g ((148 + 4 * k) + 0)) + (i * (1 - (g ((148 + 4 * k) + 3))))), eR 0] ([eA 0 964 g], c)) (k := (148 + 4 * k) + 1) rfl (wr_nat (by omega) (by omega)) (by omega) ?_
  refine xCallI (N := 5) (v := 6 * ((g ((148 + 4 * k) + 1)) + (i * (g ((148 + 4 * k) + 3)))) + ((g ((148 + 4 * k) + 0)) + (i * (1 - (g ((148 + 4 * k) + 3)))))) (M2 := m_M_cellAt) (pc2 := 35) (ls2 := [some (eR 0), some (eI x), some (eI i), some (eI r1), some (eI (g ((148 + 4 * k) + 3)))]) (st2 := []) (y := m_M_cellOf) (as := [some (eR 0), some (eI ((g ((148 + 4 * k) + 0)) + (i * (1 - (g ((148 + 4 * k) + 3)))))), some (eI ((g ((148 + 4 * k) + 1)) + (i * (g ((148 + 4 * k) + 3)))))]) (w2 := ([eA 0 964 g], c)) rfl n_cellOf (fun r35 hr35 => ?_)
  refine xSeg (N := 1) (r := some (.inl (some (eI r35)), ([eA 0 964 g], c))) rfl ?_
  refine lf ?_
  rw [hr35, e0, e1, e3, hi]
  rcases Nat.lt_or_ge (sd a k) 1 with hd | hd
  · rw [cel_0 (by omega), show sd a k = 0 by omega]; omega
  · rw [cel_1 (by omega), show sd a k = 1 by omega]; omega
theorem n_otherAt {g : Nat → Int} {a : eRow} {c : Nat × Nat} {x i : Int} {k p : Nat} (hg : rg g a) (hG : iG a) (hx : x = (k : Int)) (hi : i = (p : Int)) (hk : k < a 3) (hp : p < sl a k) : ev m_M_otherAt 0 [some (eR 0), some (eI x), some (eI i)] [] ([eA 0 964 g], c) = some (.inl (some (eI ((oth a k p : Int) - 1))), ([eA 0 964 g], c)) := by
  have hn := hG.1.2.2.2.2
  obtain ⟨h1, h2, h3, h4, h5, h6, h7⟩ := sl_at hG hk
  have hc := cel_lt hG hk hp
  have e3 : g (148 + 4 * k + 3) = (sd a k : Int) := hg (148 + 4 * k + 3) (by omega)
  have e4 := hg (244 + cel a k p) (by omega)
  have e5 := hg (280 + cel a k p) (by omega)
  have hcel := fun c : Nat × Nat => n_cellAt (c := c) hg hG hx hi hk hp
  refine xCallI (N := 3) (v := 148 + 4 * x) (M2 := m_M_otherAt) (pc2 := 2) (ls2 := [some (eR 0), some (eI x), some (eI i)]) (st2 := [eR 0]) (y := m_M_ofSlot) (as := [some (eI x)]) (w2 := ([eA 0 964 g], c)) rfl n_ofSlot (fun r2 hr2 => ?_)
  refine xLd (N := 3) (n := 964) (i := r2 + 3) (F := fun zq => ev m_M_otherAt 8 [some (eR 0), some (eI x), some (eI i)] [eI (g zq)] ([eA 0 964 g], c)) (k := (148 + 4 * k) + 3) rfl (wr_nat (by omega) (by omega)) (by omega) ?_
  refine xEq (N := 2) (x := g ((148 + 4 * k) + 3)) (y := 1) (A := ev m_M_otherAt 12 [some (eR 0), some (eI x), some (eI i)] [] ([eA 0 964 g], c)) (B := ev m_M_otherAt 18 [some (eR 0), some (eI x), some (eI i)] [] ([eA 0 964 g], c)) rfl (wr_id (by omega) (by omega)) (show wr 1 = 1 by decide) (fun h9 => ?_) (fun h9 => ?_)
  · refine xCallI (N := 9) (v := ((cel a k p : Nat) : Int)) (M2 := m_M_otherAt) (pc2 := 27) (ls2 := [some (eR 0), some (eI x), some (eI i), some (eI 244)]) (st2 := [eI 244, eR 0]) (y := m_M_cellAt) (as := [some (eR 0), some (eI x), some (eI i)]) (w2 := ([eA 0 964 g], c)) rfl (hcel c) (fun r27 hr27 => ?_)
    refine xLd (N := 2) (n := 964) (i := 244 + r27) (F := fun zq => ev m_M_otherAt 32 [some (eR 0), some (eI x), some (eI i), some (eI 244)] [eI (g zq)] ([eA 0 964 g], c)) (k := 244 + (cel a k p)) rfl (wr_nat (by omega) (by omega)) (by omega) ?_
    refine xSeg (N := 3) (r := some (.inl (some (eI ((g (244 + (cel a k p))) - 1))), ([eA 0 964 g], c))) rfl ?_
    first | exact lf (by unfold oth; rw [if_pos (by omega), e4]) | exact lf (by unfold oth; rw [if_neg (by omega), e5])
  · refine xCallI (N := 8) (v := ((cel a k p : Nat) : Int)) (M2 := m_M_otherAt) (pc2 := 27) (ls2 := [some (eR 0), some (eI x), some (eI i), some (eI 280)]) (st2 := [eI 280, eR 0]) (y := m_M_cellAt) (as := [some (eR 0), some (eI x), some (eI i)]) (w2 := ([eA 0 964 g], c)) rfl (hcel c) (fun r27 hr27 => ?_)
    refine xLd (N := 2) (n := 964) (i := 280 + r27) (F := fun zq => ev m_M_otherAt 32 [some (eR 0), some (eI x), some (eI i), some (eI 280)] [eI (g zq)] ([eA 0 964 g], c)) (k := 280 + (cel a k p)) rfl (wr_nat (by omega) (by omega)) (by omega) ?_
    refine xSeg (N := 3) (r := some (.inl (some (eI ((g (280 + (cel a k p))) - 1))), ([eA 0 964 g], c))) rfl ?_
    first | exact lf (by unfold oth; rw [if_pos (by omega), e4]) | exact lf (by unfold oth; rw [if_neg (by omega), e5])
theorem n_placeIn {g : Nat → Int} {a : eRow} {c : Nat × Nat} {x z : Int} {j e : Nat} (hg : rg g a) (hG : iG a) (hx : x = (j : Int)) (hz : z = (e : Int)) (hj : j < a 3) (he : e < 36) (hp : if sd a j = 1 then sy a j ≤ e / 6 else sx a j ≤ e % 6) : ev m_M_placeIn 0 [some (eR 0), some (eI x), some (eI z)] [] ([eA 0 964 g], c) = some (.inl (some (eI ((pin a j e : Nat) : Int))), ([eA 0 964 g], c)) := by
  have hn := hG.1.2.2.2.2
  obtain ⟨h1, h2, h3, h4, h5, h6, h7⟩ := sl_at hG hj
  have e0 : g (148 + 4 * j + 0) = (sx a j : Int) := hg (148 + 4 * j) (by omega)
  have e1 : g (148 + 4 * j + 1) = (sy a j : Int) := hg (148 + 4 * j + 1) (by omega)
  have e3 : g (148 + 4 * j + 3) = (sd a j : Int) := hg (148 + 4 * j + 3) (by omega)
  have hdv : bDiv z 6 = ((e / 6 : Nat) : Int) := by rw [hz, show (6 : Int) = ((6 : Nat) : Int) from rfl, bDiv_n (by omega) (by decide) (by decide)]
  have hrm : bRem z 6 = ((e % 6 : Nat) : Int) := by rw [hz, show (6 : Int) = ((6 : Nat) : Int) from rfl, bRem_n (by omega) (by decide) (by decide)]
  refine xCallI (N := 2) (v := 148 + 4 * x) (M2 := m_M_placeIn) (pc2 := 1) (ls2 := [some (eR 0), some (eI x), some (eI z)]) (st2 := []) (y := m_M_ofSlot) (as := [some (eI x)]) (w2 := ([eA 0 964 g], c)) rfl n_ofSlot (fun r1 hr1 => ?_)
  refine xLd (N := 6) (n := 964) (i := r1 + 3) (F := fun zq => ev m_M_placeIn 10 [some (eR 0), some (eI x), some (eI z), some (eI r1)] [eI (g zq)] ([eA 0 964 g], c)) (k := (148 + 4 * j) + 3) rfl (wr_nat (by omega) (by omega)) (by omega) ?_
  refine xEq (N := 2) (x := g ((148 + 4 * j) + 3)) (y := 1) (A := ev m_M_placeIn 14 [some (eR 0), some (eI x), some (eI z), some (eI r1)] [] ([eA 0 964 g], c)) (B := ev m_M_placeIn 27 [some (eR 0), some (eI x), some (eI z), some (eI r1)] [] ([eA 0 964 g], c)) rfl (wr_id (by omega) (by omega)) (show wr 1 = 1 by decide) (fun h11 => ?_) (fun h11 => ?_)
  · refine xNz (N := 3) (y := 6) (A := ev m_M_placeIn 18 [some (eR 0), some (eI x), some (eI z), some (eI r1)] [eI (bDiv z 6)] ([eA 0 964 g], c)) rfl (by decide) ?_
    refine xLd (N := 5) (n := 964) (i := r1 + 1) (F := fun zq => ev m_M_placeIn 23 [some (eR 0), some (eI x), some (eI z), some (eI r1)] [eI (g zq), eI (bDiv z 6)] ([eA 0 964 g], c)) (k := (148 + 4 * j) + 1) rfl (wr_nat (by omega) (by omega)) (by omega) ?_
    refine xSeg (N := 3) (r := some (.inl (some (eI ((bDiv z 6) - (g ((148 + 4 * j) + 1))))), ([eA 0 964 g], c))) rfl ?_
    first | exact lf (by rw [if_pos (by omega)] at hp; unfold pin; rw [if_pos (by omega), hdv, e1]; omega) | exact lf (by rw [if_neg (by omega)] at hp; unfold pin; rw [if_neg (by omega), hrm, e0]; omega)
  · refine xNz (N := 3) (y := 6) (A := ev m_M_placeIn 31 [some (eR 0), some (eI x), some (eI z), some (eI r1)] [eI (bRem z 6)] ([eA 0 964 g], c)) rfl (by decide) ?_
    refine xLd (N := 5) (n := 964) (i := r1 + 0) (F := fun zq => ev m_M_placeIn 36 [some (eR 0), some (eI x), some (eI z), some (eI r1)] [eI (g zq), eI (bRem z 6)] ([eA 0 964 g], c)) (k := (148 + 4 * j) + 0) rfl (wr_nat (by omega) (by omega)) (by omega) ?_
    refine xSeg (N := 2) (r := some (.inl (some (eI ((bRem z 6) - (g ((148 + 4 * j) + 0))))), ([eA 0 964 g], c))) rfl ?_
    first | exact lf (by rw [if_pos (by omega)] at hp; unfold pin; rw [if_pos (by omega), hdv, e1]; omega) | exact lf (by rw [if_neg (by omega)] at hp; unfold pin; rw [if_neg (by omega), hrm, e0]; omega)
theorem n_crossings {g : Nat → Int} {a : eRow} {c : Nat × Nat} {x : Int} {k : Nat} (hg : rg g a) (hG : iG a) (hx : x = (k : Int)) (hk : k < a 3) : ev m_M_crossings 0 [some (eR 0), some (eI x)] [] ([eA 0 964 g], c) = some (.inl (some (eI ((fb_ct (fun p => decide (oth a k p ≠ 0)) (sl a k) : Nat) : Int))), ([eA 0 964 g], c)) := by
  have hn := hG.1.2.2.2.2
  obtain ⟨h1, h2, h3, h4, h5, h6, h7⟩ := sl_at hG hk
  have e2 : g (148 + 4 * k + 2) = (sl a k : Int) := hg (148 + 4 * k + 2) (by omega)
  have hl : ∀ p : Nat, p ≤ sl a k → ∀ s y : Int, s = ((fb_ct (fun p => decide (oth a k p ≠ 0)) p : Nat) : Int) → y = ((p : Nat) : Int) → ev m_M_crossings 4 [some (eR 0), some (eI x), some (eI s), some (eI y)] [] ([eA 0 964 g], c) = some (.inl (some (eI ((fb_ct (fun p => decide (oth a k p ≠ 0)) (sl a k) : Nat) : Int))), ([eA 0 964 g], c)) := by
    refine loop_up ?_ ?_
    · intro s y hs hy
      refine xCallI (N := 4) (v := 148 + 4 * x) (M2 := m_M_crossings) (pc2 := 7) (ls2 := [some (eR 0), some (eI x), some (eI s), some (eI y)]) (st2 := [eR 0, eI y]) (y := m_M_ofSlot) (as := [some (eI x)]) (w2 := ([eA 0 964 g], c)) rfl n_ofSlot (fun r7 hr7 => ?_)
      refine xLd (N := 3) (n := 964) (i := r7 + 2) (F := fun zq => ev m_M_crossings 13 [some (eR 0), some (eI x), some (eI s), some (eI y)] [eI (g zq), eI y] ([eA 0 964 g], c)) (k := (148 + 4 * k) + 2) rfl (wr_nat (by omega) (by omega)) (by omega) ?_
      refine xLtF (N := 1) (x := y) (y := g ((148 + 4 * k) + 2)) (A := ev m_M_crossings 16 [some (eR 0), some (eI x), some (eI s), some (eI y)] [] ([eA 0 964 g], c)) (B := ev m_M_crossings 35 [some (eR 0), some (eI x), some (eI s), some (eI y)] [] ([eA 0 964 g], c)) rfl (wr_id (by omega) (by omega)) (wr_id (by omega) (by omega)) (by omega) ?_
      refine xSeg (N := 2) (r := some (.inl (some (eI s)), ([eA 0 964 g], c))) rfl ?_
      rw [hs]
    · intro p hp ih s y hs hy
      have hb := oth_le hG hk hp
      have hot := n_otherAt (c := c) hg hG hx hy hk hp
      refine xCallI (N := 4) (v := 148 + 4 * x) (M2 := m_M_crossings) (pc2 := 7) (ls2 := [some (eR 0), some (eI x), some (eI s), some (eI y)]) (st2 := [eR 0, eI y]) (y := m_M_ofSlot) (as := [some (eI x)]) (w2 := ([eA 0 964 g], c)) rfl n_ofSlot (fun r7 hr7 => ?_)
      refine xLd (N := 3) (n := 964) (i := r7 + 2) (F := fun zq => ev m_M_crossings 13 [some (eR 0), some (eI x), some (eI s), some (eI y)] [eI (g zq), eI y] ([eA 0 964 g], c)) (k := (148 + 4 * k) + 2) rfl (wr_nat (by omega) (by omega)) (by omega) ?_
      refine xLtT (N := 1) (x := y) (y := g ((148 + 4 * k) + 2)) (A := ev m_M_crossings 16 [some (eR 0), some (eI x), some (eI s), some (eI y)] [] ([eA 0 964 g], c)) (B := ev m_M_crossings 35 [some (eR 0), some (eI x), some (eI s), some (eI y)] [] ([eA 0 964 g], c)) rfl (wr_id (by omega) (by omega)) (wr_id (by omega) (by omega)) (by omega) ?_
      refine xCallI (N := 4) (v := (oth a k p : Int) - 1) (M2 := m_M_crossings) (pc2 := 19) (ls2 := [some (eR 0), some (eI x), some (eI s), some (eI y)]) (st2 := []) (y := m_M_otherAt) (as := [some (eR 0), some (eI x), some (eI y)]) (w2 := ([eA 0 964 g], c)) rfl hot (fun r19 hr19 => ?_)
      refine xEq (N := 2) (x := r19) (y := (-1)) (A := ev m_M_crossings 29 [some (eR 0), some (eI x), some (eI s), some (eI y)] [] ([eA 0 964 g], c)) (B := ev m_M_crossings 26 [some (eR 0), some (eI x), some (eI s), some (eI y)] [] ([eA 0 964 g], c)) rfl (wr_id (by omega) (by omega)) (show wr (-1) = (-1) by decide) (fun h23 => ?_) (fun h23 => ?_)
      · refine xSeg (N := 2) (r := ev m_M_crossings 4 [some (eR 0), some (eI x), some (eI s), some (eI (y + 1))] [] ([eA 0 964 g], c)) rfl ?_
        first | exact ih _ _ (by rw [ct_F (decide_eq_false (by omega))]; exact hs) (by omega) | exact ih _ _ (by rw [ct_T (decide_eq_true (by omega))]; omega) (by omega)
      · refine xSeg (N := 3) (r := ev m_M_crossings 4 [some (eR 0), some (eI x), some (eI (s + 1)), some (eI (y + 1))] [] ([eA 0 964 g], c)) rfl ?_
        first | exact ih _ _ (by rw [ct_F (decide_eq_false (by omega))]; exact hs) (by omega) | exact ih _ _ (by rw [ct_T (decide_eq_true (by omega))]; omega) (by omega)
  refine xSeg (N := 4) (r := ev m_M_crossings 4 [some (eR 0), some (eI x), some (eI 0), some (eI 0)] [] ([eA 0 964 g], c)) rfl ?_
  exact hl 0 (Nat.zero_le _) _ _ rfl rfl
theorem n_placeOfCrossing {g : Nat → Int} {a : eRow} {c : Nat × Nat} {x i : Int} {k : Nat} (hg : rg g a) (hG : iG a) (hx : x = (k : Int)) (hk : k < a 3) (bi : 0 ≤ i ∧ i < 2147483648) : ev m_M_placeOfCrossing 0 [some (eR 0), some (eI x), some (eI i)] [] ([eA 0 964 g], c) = some (.inl (some (eI (fnd (fun p => decide (oth a k p ≠ 0 ∧ ((fb_ct (fun p => decide (oth a k p ≠ 0)) p : Nat) : Int) = i)) (sl a k) 0))), ([eA 0 964 g], c)) := by
  have hn := hG.1.2.2.2.2
  obtain ⟨h1, h2, h3, h4, h5, h6, h7⟩ := sl_at hG hk
  have e2 : g (148 + 4 * k + 2) = (sl a k : Int) := hg (148 + 4 * k + 2) (by omega)
  have hl : ∀ p : Nat, p ≤ sl a k → ∀ s y : Int, s = i - ((fb_ct (fun p => decide (oth a k p ≠ 0)) p : Nat) : Int) → y = ((p : Nat) : Int) → ev m_M_placeOfCrossing 5 [some (eR 0), some (eI x), some (eI i), some (eI s), some (eI y)] [] ([eA 0 964 g], c) = some (.inl (some (eI (fnd (fun p => decide (oth a k p ≠ 0 ∧ ((fb_ct (fun p => decide (oth a k p ≠ 0)) p : Nat) : Int) = i)) (sl a k - p) p))), ([eA 0 964 g], c)) := by
    refine loop_up ?_ ?_
    · intro s y hs hy
      rw [Nat.sub_self]
      refine xCallI (N := 4) (v := 148 + 4 * x) (M2 := m_M_placeOfCrossing) (pc2 := 9) (ls2 := [some (eR 0), some (eI x), some (eI i), some (eI s), some (eI y)]) (st2 := [eR 0, eI y]) (y := m_M_ofSlot) (as := [some (eI x)]) (w2 := ([eA 0 964 g], c)) rfl n_ofSlot (fun r9 hr9 => ?_)
      refine xLd (N := 3) (n := 964) (i := r9 + 2) (F := fun zq => ev m_M_placeOfCrossing 15 [some (eR 0), some (eI x), some (eI i), some (eI s), some (eI y)] [eI (g zq), eI y] ([eA 0 964 g], c)) (k := (148 + 4 * k) + 2) rfl (wr_nat (by omega) (by omega)) (by omega) ?_
      refine xLtF (N := 1) (x := y) (y := g ((148 + 4 * k) + 2)) (A := ev m_M_placeOfCrossing 18 [some (eR 0), some (eI x), some (eI i), some (eI s), some (eI y)] [] ([eA 0 964 g], c)) (B := ev m_M_placeOfCrossing 45 [some (eR 0), some (eI x), some (eI i), some (eI s), some (eI y)] [] ([eA 0 964 g], c)) rfl (wr_id (by omega) (by omega)) (wr_id (by omega) (by omega)) (by omega) ?_
      refine xSeg (N := 2) (r := some (.inl (some (eI (-1))), ([eA 0 964 g], c))) rfl ?_
      rfl
    · intro p hp ih s y hs hy
      have hb := oth_le hG hk hp
      have hot := n_otherAt (c := c) hg hG hx hy hk hp
      have hc := fb_ct_le (fun p => decide (oth a k p ≠ 0)) p
      rw [show sl a k - p = (sl a k - (p + 1)) + 1 by omega]
      refine xCallI (N := 4) (v := 148 + 4 * x) (M2 := m_M_placeOfCrossing) (pc2 := 9) (ls2 := [some (eR 0), some (eI x), some (eI i), some (eI s), some (eI y)]) (st2 := [eR 0, eI y]) (y := m_M_ofSlot) (as := [some (eI x)]) (w2 := ([eA 0 964 g], c)) rfl n_ofSlot (fun r9 hr9 => ?_)
      refine xLd (N := 3) (n := 964) (i := r9 + 2) (F := fun zq => ev m_M_placeOfCrossing 15 [some (eR 0), some (eI x), some (eI i), some (eI s), some (eI y)] [eI (g zq), eI y] ([eA 0 964 g], c)) (k := (148 + 4 * k) + 2) rfl (wr_nat (by omega) (by omega)) (by omega) ?_
      refine xLtT (N := 1) (x := y) (y := g ((148 + 4 * k) + 2)) (A := ev m_M_placeOfCrossing 18 [some (eR 0), some (eI x), some (eI i), some (eI s), some (eI y)] [] ([eA 0 964 g], c)) (B := ev m_M_placeOfCrossing 45 [some (eR 0), some (eI x), some (eI i), some (eI s), some (eI y)] [] ([eA 0 964 g], c)) rfl (wr_id (by omega) (by omega)) (wr_id (by omega) (by omega)) (by omega) ?_
      refine xCallI (N := 4) (v := (oth a k p : Int) - 1) (M2 := m_M_placeOfCrossing) (pc2 := 22) (ls2 := [some (eR 0), some (eI x), some (eI i), some (eI s), some (eI y)]) (st2 := []) (y := m_M_otherAt) (as := [some (eR 0), some (eI x), some (eI y)]) (w2 := ([eA 0 964 g], c)) rfl hot (fun r22 hr22 => ?_)
      refine xEq (N := 2) (x := r22) (y := (-1)) (A := ev m_M_placeOfCrossing 39 [some (eR 0), some (eI x), some (eI i), some (eI s), some (eI y)] [] ([eA 0 964 g], c)) (B := ev m_M_placeOfCrossing 29 [some (eR 0), some (eI x), some (eI i), some (eI s), some (eI y)] [] ([eA 0 964 g], c)) rfl (wr_id (by omega) (by omega)) (show wr (-1) = (-1) by decide) (fun h26 => ?_) (fun h26 => ?_)
      · refine xSeg (N := 2) (r := ev m_M_placeOfCrossing 5 [some (eR 0), some (eI x), some (eI i), some (eI s), some (eI (y + 1))] [] ([eA 0 964 g], c)) rfl ?_
        first | exact (ih _ _ (by rw [ct_F (decide_eq_false (by omega))]; exact hs) (by omega)).trans (by rw [fnd_F (decide_eq_false (by omega))]) | exact (ih _ _ (by rw [ct_T (decide_eq_true (by omega))]; omega) (by omega)).trans (by rw [fnd_F (decide_eq_false (by omega))])
      · refine xEq (N := 2) (x := s) (y := 0) (A := ev m_M_placeOfCrossing 33 [some (eR 0), some (eI x), some (eI i), some (eI s), some (eI y)] [] ([eA 0 964 g], c)) (B := ev m_M_placeOfCrossing 36 [some (eR 0), some (eI x), some (eI i), some (eI s), some (eI y)] [] ([eA 0 964 g], c)) rfl (wr_id (by omega) (by omega)) (show wr 0 = 0 by decide) (fun h30 => ?_) (fun h30 => ?_)
        · refine xSeg (N := 2) (r := some (.inl (some (eI y)), ([eA 0 964 g], c))) rfl ?_
          rw [fnd_T (decide_eq_true (by omega)), hy]
        · refine xSeg (N := 3) (r := ev m_M_placeOfCrossing 5 [some (eR 0), some (eI x), some (eI i), some (eI (s + (-1))), some (eI (y + 1))] [] ([eA 0 964 g], c)) rfl ?_
          first | exact (ih _ _ (by rw [ct_F (decide_eq_false (by omega))]; exact hs) (by omega)).trans (by rw [fnd_F (decide_eq_false (by omega))]) | exact (ih _ _ (by rw [ct_T (decide_eq_true (by omega))]; omega) (by omega)).trans (by rw [fnd_F (decide_eq_false (by omega))])
  refine xSeg (N := 4) (r := ev m_M_placeOfCrossing 5 [some (eR 0), some (eI x), some (eI i), some (eI i), some (eI 0)] [] ([eA 0 964 g], c)) rfl ?_
  exact hl 0 (Nat.zero_le _) _ _ (by show i = i - ((0 : Nat) : Int); omega) rfl
theorem n_many {x : Int} {m : Nat} {w : eW} (hx : x = (m : Int)) (hm : m < 1073741824) : ev m_M_many 0 [some (eI x)] [] w = some (.inl (some (eI ((pc 30 m : Nat) : Int))), w) := by
  have hl : ∀ d : Nat, ∀ (r : Nat) (s v : Int), pc 30 r = d → r < 1073741824 → v = (r : Int) → s + (d : Int) = ((pc 30 m : Nat) : Int) → ev m_M_many 4 [some (eI x), some (eI s), some (eI v)] [] w = some (.inl (some (eI ((pc 30 m : Nat) : Int))), w) := by
    intro d
    induction d with
    | zero =>
      intro r s v hd hr hv hs
      have h0 := (pc_zero hr).mp hd
      refine xEqT (N := 2) (x := v) (y := 0) (A := ev m_M_many 20 [some (eI x), some (eI s), some (eI v)] [] (w.1, w.2)) (B := ev m_M_many 8 [some (eI x), some (eI s), some (eI v)] [] (w.1, w.2)) rfl (wr_id (by omega) (by omega)) (show wr 0 = 0 by decide) (by omega) ?_
      refine xSeg (N := 2) (r := some (.inl (some (eI s)), (w.1, w.2))) rfl ?_
      exact lf (by omega)
    | succ d ih =>
      intro r s v hd hr hv hs
      have h0 : r ≠ 0 := fun e => by have := (pc_zero hr).mpr e; omega
      obtain ⟨t, ht1, ht2⟩ := low_get hr (by omega)
      have hlow := pc_low hr ht1 ht2
      refine xEqF (N := 2) (x := v) (y := 0) (A := ev m_M_many 20 [some (eI x), some (eI s), some (eI v)] [] (w.1, w.2)) (B := ev m_M_many 8 [some (eI x), some (eI s), some (eI v)] [] (w.1, w.2)) rfl (wr_id (by omega) (by omega)) (show wr 0 = 0 by decide) (by omega) ?_
      refine xTop (N := 6) (pc2 := 16) (ls2 := [some (eI x), some (eI (s + 1)), some (eI v)]) (a := bAnd v (v - 1)) (b := ((r &&& (r - 1) : Nat) : Int)) (st2 := []) (w2 := (w.1, w.2)) rfl (i_dec hv hr (by omega)) (fun v2 hv2 => ?_)
      refine xSeg (N := 2) (r := ev m_M_many 4 [some (eI x), some (eI (s + 1)), some (eI v2)] [] (w.1, w.2)) rfl ?_
      exact ih (r &&& (r - 1)) _ _ (by omega) (Nat.lt_of_le_of_lt Nat.and_le_left hr) hv2 (by omega)
  refine xSeg (N := 4) (r := ev m_M_many 4 [some (eI x), some (eI 0), some (eI x)] [] (w.1, w.2)) rfl ?_
  exact hl _ m _ _ rfl hm hx (by omega)
/-- the candidates of a row: of the length of the slot -/
def iO (a : eRow) : Prop := ∀ k, k < a 3 → op a k < 1073741824 ∧ ∀ w, (op a k).testBit w = true → w < a 2 ∧ wl a w = sl a k
theorem n_hasWord {g : Nat → Int} {a : eRow} {c : Nat × Nat} {x y : Int} {k w : Nat} (hg : rg g a) (hx : x = (k : Int)) (hy : y = (w : Int)) (hk : k < 24) (hm : op a k < 1073741824) (hw : w < 32) : ev m_M_hasWord 0 [some (eR 0), some (eI x), some (eI y)] [] ([eA 0 964 g], c) = some (.inl (some (eI (bI ((op a k).testBit w)))), ([eA 0 964 g], c)) := by
  have e1 : g (316 + k) = (op a k : Int) := hg (316 + k) (by omega)
  refine xLd (N := 5) (n := 964) (i := 316 + x) (F := fun zq => ev m_M_hasWord 7 [some (eR 0), some (eI x), some (eI y)] [eI (g zq)] ([eA 0 964 g], c)) (k := 316 + k) rfl (wr_nat (by omega) (by omega)) (by omega) ?_
  refine xTop (N := 4) (pc2 := 11) (ls2 := [some (eR 0), some (eI x), some (eI y)]) (a := bAnd (bShr (g (316 + k)) y) 1) (b := bI ((op a k).testBit w)) (st2 := []) (w2 := ([eA 0 964 g], c)) rfl (b_tb e1 hm hy hw) (fun z hz => ?_)
  have hq := bI_1 hz
  refine xEq (N := 2) (x := z) (y := 1) (A := ev m_M_hasWord 15 [some (eR 0), some (eI x), some (eI y)] [] ([eA 0 964 g], c)) (B := ev m_M_hasWord 19 [some (eR 0), some (eI x), some (eI y)] [] ([eA 0 964 g], c)) rfl (wr_id (by omega) (by omega)) (show wr 1 = 1 by decide) (fun h12 => ?_) (fun h12 => ?_)
  · refine xRb (N := 3) (v := 1) (w2 := ([eA 0 964 g], c)) rfl (by decide) ?_
    first | exact lf (bT (hq.2.1.mp (by omega))) | exact lf (bF (hq.2.2.mp (by omega)))
  · refine xRb (N := 2) (v := 0) (w2 := ([eA 0 964 g], c)) rfl (by decide) ?_
    first | exact lf (bT (hq.2.1.mp (by omega))) | exact lf (bF (hq.2.2.mp (by omega)))
theorem n_countOf {g : Nat → Int} {a : eRow} {c : Nat × Nat} {x : Int} {k : Nat} (hg : rg g a) (hx : x = (k : Int)) (hk : k < 24) (hm : op a k < 1073741824) : ev m_M_countOf 0 [some (eR 0), some (eI x)] [] ([eA 0 964 g], c) = some (.inl (some (eI ((pc 30 (op a k) : Nat) : Int))), ([eA 0 964 g], c)) := by
  have e1 : g (316 + k) = (op a k : Int) := hg (316 + k) (by omega)
  refine xLd (N := 5) (n := 964) (i := 316 + x) (F := fun zq => ev m_M_countOf 7 [some (eR 0), some (eI x)] [eI (g zq)] ([eA 0 964 g], c)) (k := 316 + k) rfl (wr_nat (by omega) (by omega)) (by omega) ?_
  refine xCallI (N := 1) (v := ((pc 30 (op a k) : Nat) : Int)) (M2 := m_M_countOf) (pc2 := 7) (ls2 := [some (eR 0), some (eI x)]) (st2 := []) (y := m_M_many) (as := [some (eI (g (316 + k)))]) (w2 := ([eA 0 964 g], c)) rfl (n_many e1 hm) (fun r7 hr7 => ?_)
  refine xSeg (N := 1) (r := some (.inl (some (eI r7)), ([eA 0 964 g], c))) rfl ?_
  rw [hr7]
theorem n_emptyOne {g : Nat → Int} {a : eRow} {c : Nat × Nat} (hg : rg g a) (hn : a 3 ≤ 24) (hO : ∀ k, k < a 3 → op a k < 1073741824) : ev m_M_emptyOne 0 [some (eR 0)] [] ([eA 0 964 g], c) = some (.inl (some (eI (fnd (fun k => decide (op a k = 0)) (a 3) 0))), ([eA 0 964 g], c)) := by
  have e3 := hg 3 (by omega)
  have hl : ∀ p : Nat, p ≤ a 3 → ∀ y : Int, y = ((p : Nat) : Int) → ev m_M_emptyOne 2 [some (eR 0), some (eI y)] [] ([eA 0 964 g], c) = some (.inl (some (eI (fnd (fun k => decide (op a k = 0)) (a 3 - p) p))), ([eA 0 964 g], c)) := by
    refine loop_up ?_ ?_
    · intro y hy
      rw [Nat.sub_self]
      refine xLd (N := 4) (n := 964) (i := 3) (F := fun zq => ev m_M_emptyOne 6 [some (eR 0), some (eI y)] [eI (g zq), eI y] ([eA 0 964 g], c)) (k := 3) rfl (show wr 3 = ((3 : Nat) : Int) by decide) (by omega) ?_
      refine xLtF (N := 1) (x := y) (y := g 3) (A := ev m_M_emptyOne 9 [some (eR 0), some (eI y)] [] ([eA 0 964 g], c)) (B := ev m_M_emptyOne 27 [some (eR 0), some (eI y)] [] ([eA 0 964 g], c)) rfl (wr_id (by omega) (by omega)) (wr_id (by omega) (by omega)) (by omega) ?_
      refine xSeg (N := 2) (r := some (.inl (some (eI (-1))), ([eA 0 964 g], c))) rfl ?_
      rfl
    · intro p hp ih y hy
      have hb := hO p hp
      have e4 : g (316 + p) = (op a p : Int) := hg (316 + p) (by omega)
      rw [show a 3 - p = (a 3 - (p + 1)) + 1 by omega]
      refine xLd (N := 4) (n := 964) (i := 3) (F := fun zq => ev m_M_emptyOne 6 [some (eR 0), some (eI y)] [eI (g zq), eI y] ([eA 0 964 g], c)) (k := 3) rfl (show wr 3 = ((3 : Nat) : Int) by decide) (by omega) ?_
      refine xLtT (N := 1) (x := y) (y := g 3) (A := ev m_M_emptyOne 9 [some (eR 0), some (eI y)] [] ([eA 0 964 g], c)) (B := ev m_M_emptyOne 27 [some (eR 0), some (eI y)] [] ([eA 0 964 g], c)) rfl (wr_id (by omega) (by omega)) (wr_id (by omega) (by omega)) (by omega) ?_
      refine xLd (N := 5) (n := 964) (i := 316 + y) (F := fun zq => ev m_M_emptyOne 16 [some (eR 0), some (eI y)] [eI (g zq)] ([eA 0 964 g], c)) (k := 316 + p) rfl (wr_nat (by omega) (by omega)) (by omega) ?_
      refine xEq (N := 1) (x := g (316 + p)) (y := 0) (A := ev m_M_emptyOne 19 [some (eR 0), some (eI y)] [] ([eA 0 964 g], c)) (B := ev m_M_emptyOne 21 [some (eR 0), some (eI y)] [] ([eA 0 964 g], c)) rfl (wr_id (by omega) (by omega)) (show wr 0 = 0 by decide) (fun h16 => ?_) (fun h16 => ?_)
      · refine xSeg (N := 2) (r := some (.inl (some (eI y)), ([eA 0 964 g], c))) rfl ?_
        rw [fnd_T (decide_eq_true (by omega)), hy]
      · refine xSeg (N := 2) (r := ev m_M_emptyOne 2 [some (eR 0), some (eI (y + 1))] [] ([eA 0 964 g], c)) rfl ?_
        exact (ih _ (by omega)).trans (by rw [fnd_F (decide_eq_false (by omega))])
  refine xSeg (N := 2) (r := ev m_M_emptyOne 2 [some (eR 0), some (eI 0)] [] ([eA 0 964 g], c)) rfl ?_
  exact hl 0 (Nat.zero_le _) _ rfl
theorem n_left {g : Nat → Int} {a : eRow} {c : Nat × Nat} (hg : rg g a) (hn : a 3 ≤ 24) (hO : ∀ k, k < a 3 → op a k < 1073741824) : ev m_M_left 0 [some (eR 0)] [] ([eA 0 964 g], c) = some (.inl (some (eI ((fb_sm (fun k => pc 30 (op a k)) (a 3) : Nat) : Int))), ([eA 0 964 g], c)) := by
  have e3 := hg 3 (by omega)
  have hl : ∀ p : Nat, p ≤ a 3 → ∀ s y : Int, s = ((fb_sm (fun k => pc 30 (op a k)) p : Nat) : Int) → y = ((p : Nat) : Int) → ev m_M_left 4 [some (eR 0), some (eI s), some (eI y)] [] ([eA 0 964 g], c) = some (.inl (some (eI ((fb_sm (fun k => pc 30 (op a k)) (a 3) : Nat) : Int))), ([eA 0 964 g], c)) := by
    refine loop_up ?_ ?_
    · intro s y hs hy
      refine xLd (N := 4) (n := 964) (i := 3) (F := fun zq => ev m_M_left 8 [some (eR 0), some (eI s), some (eI y)] [eI (g zq), eI y] ([eA 0 964 g], c)) (k := 3) rfl (show wr 3 = ((3 : Nat) : Int) by decide) (by omega) ?_
      refine xLtF (N := 1) (x := y) (y := g 3) (A := ev m_M_left 11 [some (eR 0), some (eI s), some (eI y)] [] ([eA 0 964 g], c)) (B := ev m_M_left 25 [some (eR 0), some (eI s), some (eI y)] [] ([eA 0 964 g], c)) rfl (wr_id (by omega) (by omega)) (wr_id (by omega) (by omega)) (by omega) ?_
      refine xSeg (N := 2) (r := some (.inl (some (eI s)), ([eA 0 964 g], c))) rfl ?_
      rw [hs]
    · intro p hp ih s y hs hy
      have hb := hO p hp
      have hs2 := fb_sm_succ (fun k => pc 30 (op a k)) p
      have hct := n_countOf (c := c) hg hy (by omega) hb
      refine xLd (N := 4) (n := 964) (i := 3) (F := fun zq => ev m_M_left 8 [some (eR 0), some (eI s), some (eI y)] [eI (g zq), eI y] ([eA 0 964 g], c)) (k := 3) rfl (show wr 3 = ((3 : Nat) : Int) by decide) (by omega) ?_
      refine xLtT (N := 1) (x := y) (y := g 3) (A := ev m_M_left 11 [some (eR 0), some (eI s), some (eI y)] [] ([eA 0 964 g], c)) (B := ev m_M_left 25 [some (eR 0), some (eI s), some (eI y)] [] ([eA 0 964 g], c)) rfl (wr_id (by omega) (by omega)) (wr_id (by omega) (by omega)) (by omega) ?_
      refine xCallI (N := 4) (v := ((pc 30 (op a p) : Nat) : Int)) (M2 := m_M_left) (pc2 := 14) (ls2 := [some (eR 0), some (eI s), some (eI y)]) (st2 := [eI s]) (y := m_M_countOf) (as := [some (eR 0), some (eI y)]) (w2 := ([eA 0 964 g], c)) rfl hct (fun r14 hr14 => ?_)
      refine xSeg (N := 4) (r := ev m_M_left 4 [some (eR 0), some (eI (s + r14)), some (eI (y + 1))] [] ([eA 0 964 g], c)) rfl ?_
      exact ih _ _ (by rw [hs2]; omega) (by omega)
  refine xSeg (N := 4) (r := ev m_M_left 4 [some (eR 0), some (eI 0), some (eI 0)] [] ([eA 0 964 g], c)) rfl ?_
  exact hl 0 (Nat.zero_le _) _ _ rfl rfl
theorem n_whyNotGuess {g : Nat → Int} {a : eRow} {c : Nat × Nat} {x y : Int} {k w : Nat} (hg : rg g a) (hx : x = (k : Int)) (hy : y = (w : Int)) (hk : k < 24) (hm : op a k < 1073741824) (hw : w < 32) (h4 : a 4 < 4) : ev m_M_whyNotGuess 0 [some (eR 0), some (eI x), some (eI y)] [] ([eA 0 964 g], c) = some (.inl (some (eI ((rfs (a 4) ((op a k).testBit w) (decide (pc 30 (op a k) = 1)) : Nat) : Int))), ([eA 0 964 g], c)) := by
  have e4 := hg 4 (by omega)
  have hp := pc_le 30 (op a k)
  refine xLd (N := 3) (n := 964) (i := 4) (F := fun zq => ev m_M_whyNotGuess 3 [some (eR 0), some (eI x), some (eI y)] [eI (g zq)] ([eA 0 964 g], c)) (k := 4) rfl (show wr 4 = ((4 : Nat) : Int) by decide) (by omega) ?_
  refine xEq (N := 1) (x := g 4) (y := 0) (A := ev m_M_whyNotGuess 8 [some (eR 0), some (eI x), some (eI y)] [] ([eA 0 964 g], c)) (B := ev m_M_whyNotGuess 6 [some (eR 0), some (eI x), some (eI y)] [] ([eA 0 964 g], c)) rfl (wr_id (by omega) (by omega)) (show wr 0 = 0 by decide) (fun h3 => ?_) (fun h3 => ?_)
  · refine xCallI (N := 4) (v := bI ((op a k).testBit w)) (M2 := m_M_whyNotGuess) (pc2 := 11) (ls2 := [some (eR 0), some (eI x), some (eI y)]) (st2 := []) (y := m_M_hasWord) (as := [some (eR 0), some (eI x), some (eI y)]) (w2 := ([eA 0 964 g], c)) rfl (n_hasWord hg hx hy hk hm hw) (fun r11 hr11 => ?_)
    have hq := bI_1 hr11
    refine xEq (N := 1) (x := r11) (y := 0) (A := ev m_M_whyNotGuess 17 [some (eR 0), some (eI x), some (eI y)] [] ([eA 0 964 g], c)) (B := ev m_M_whyNotGuess 19 [some (eR 0), some (eI x), some (eI y)] [] ([eA 0 964 g], c)) rfl (wr_id (by omega) (by omega)) (show wr 0 = 0 by decide) (fun h14 => ?_) (fun h14 => ?_)
    · refine xSeg (N := 2) (r := some (.inl (some (eI 2)), ([eA 0 964 g], c))) rfl ?_
      exact lf (by unfold rfs; rw [if_neg (by omega), hq.2.2.mp (by omega)]; rfl)
    · refine xCallI (N := 3) (v := ((pc 30 (op a k) : Nat) : Int)) (M2 := m_M_whyNotGuess) (pc2 := 21) (ls2 := [some (eR 0), some (eI x), some (eI y)]) (st2 := []) (y := m_M_countOf) (as := [some (eR 0), some (eI x)]) (w2 := ([eA 0 964 g], c)) rfl (n_countOf hg hx hk hm) (fun r21 hr21 => ?_)
      refine xEq (N := 2) (x := r21) (y := 1) (A := ev m_M_whyNotGuess 28 [some (eR 0), some (eI x), some (eI y)] [] ([eA 0 964 g], c)) (B := ev m_M_whyNotGuess 32 [some (eR 0), some (eI x), some (eI y)] [] ([eA 0 964 g], c)) rfl (wr_id (by omega) (by omega)) (show wr 1 = 1 by decide) (fun h25 => ?_) (fun h25 => ?_)
      · refine xSeg (N := 3) (r := some (.inl (some (eI 3)), ([eA 0 964 g], c))) rfl ?_
        first | exact lf (by unfold rfs; rw [if_neg (by omega), hq.2.1.mp (by omega), decide_eq_true (by omega)]; rfl) | exact lf (by unfold rfs; rw [if_neg (by omega), hq.2.1.mp (by omega), decide_eq_false (by omega)]; rfl)
      · refine xSeg (N := 2) (r := some (.inl (some (eI 0)), ([eA 0 964 g], c))) rfl ?_
        first | exact lf (by unfold rfs; rw [if_neg (by omega), hq.2.1.mp (by omega), decide_eq_true (by omega)]; rfl) | exact lf (by unfold rfs; rw [if_neg (by omega), hq.2.1.mp (by omega), decide_eq_false (by omega)]; rfl)
  · refine xSeg (N := 2) (r := some (.inl (some (eI 1)), ([eA 0 964 g], c))) rfl ?_
    exact lf (by unfold rfs; rw [if_pos (by omega)]; rfl)
theorem bsA_i {f : Nat → Nat} (hf : ∀ k, f k ≤ 30) : ∀ {k : Nat}, ((bsA f k).1 = -1 ∧ (bsA f k).2 = 31) ∨ ∃ j, j < k ∧ (bsA f k).1 = (j : Int) ∧ (bsA f k).2 = f j
  | 0 => Or.inl ⟨rfl, rfl⟩
  | k + 1 => by
    simp only [bsA]
    split
    · exact Or.inr ⟨k, by omega, rfl, rfl⟩
    · rcases bsA_i hf (k := k) with h | ⟨j, h1, h2⟩
      · exact Or.inl h
      · exact Or.inr ⟨j, by omega, h2⟩
theorem n_best {g : Nat → Int} {a : eRow} {c : Nat × Nat} (hg : rg g a) (hn : a 3 ≤ 24) (hO : ∀ k, k < a 3 → op a k < 1073741824) : ev m_M_best 0 [some (eR 0)] [] ([eA 0 964 g], c) = some (.inl (some (eI (bsA (fun k => pc 30 (op a k)) (a 3)).1)), ([eA 0 964 g], c)) := by
  have e3 := hg 3 (by omega)
  have hl : ∀ p : Nat, p ≤ a 3 → ∀ s y : Int, s = (bsA (fun k => pc 30 (op a k)) p).1 → y = ((p : Nat) : Int) → ev m_M_best 4 [some (eR 0), some (eI s), some (eI y)] [] ([eA 0 964 g], c) = some (.inl (some (eI (bsA (fun k => pc 30 (op a k)) (a 3)).1)), ([eA 0 964 g], c)) := by
    refine loop_up ?_ ?_
    · intro s y hs hy
      refine xLd (N := 4) (n := 964) (i := 3) (F := fun zq => ev m_M_best 8 [some (eR 0), some (eI s), some (eI y)] [eI (g zq), eI y] ([eA 0 964 g], c)) (k := 3) rfl (show wr 3 = ((3 : Nat) : Int) by decide) (by omega) ?_
      refine xLtF (N := 1) (x := y) (y := g 3) (A := ev m_M_best 11 [some (eR 0), some (eI s), some (eI y)] [] ([eA 0 964 g], c)) (B := ev m_M_best 46 [some (eR 0), some (eI s), some (eI y)] [] ([eA 0 964 g], c)) rfl (wr_id (by omega) (by omega)) (wr_id (by omega) (by omega)) (by omega) ?_
      refine xSeg (N := 2) (r := some (.inl (some (eI s)), ([eA 0 964 g], c))) rfl ?_
      rw [hs]
    · intro p hp ih s y hs hy
      have hb := hO p hp
      have hp2 := pc_le 30 (op a p)
      have hct := n_countOf (c := c) hg hy (by omega) hb
      have hin := bsA_i (f := fun k => pc 30 (op a k)) (fun k => pc_le 30 _) (k := p)
      have hj : s ≠ -1 → ∃ j : Nat, j < p ∧ s = (j : Int) ∧ (bsA (fun k => pc 30 (op a k)) p).2 = pc 30 (op a j) := fun h => Or.elim hin (fun h1 => absurd (hs.trans h1.1) h) (fun ⟨j, h1, h2, h3⟩ => ⟨j, h1, hs.trans h2, h3⟩)
      refine xLd (N := 4) (n := 964) (i := 3) (F := fun zq => ev m_M_best 8 [some (eR 0), some (eI s), some (eI y)] [eI (g zq), eI y] ([eA 0 964 g], c)) (k := 3) rfl (show wr 3 = ((3 : Nat) : Int) by decide) (by omega) ?_
      refine xLtT (N := 1) (x := y) (y := g 3) (A := ev m_M_best 11 [some (eR 0), some (eI s), some (eI y)] [] ([eA 0 964 g], c)) (B := ev m_M_best 46 [some (eR 0), some (eI s), some (eI y)] [] ([eA 0 964 g], c)) rfl (wr_id (by omega) (by omega)) (wr_id (by omega) (by omega)) (by omega) ?_
      refine xCallI (N := 3) (v := ((pc 30 (op a p) : Nat) : Int)) (M2 := m_M_best) (pc2 := 13) (ls2 := [some (eR 0), some (eI s), some (eI y)]) (st2 := []) (y := m_M_countOf) (as := [some (eR 0), some (eI y)]) (w2 := ([eA 0 964 g], c)) rfl hct (fun r13 hr13 => ?_)
      refine xLt (N := 2) (x := 1) (y := r13) (A := ev m_M_best 20 [some (eR 0), some (eI s), some (eI y)] [] ([eA 0 964 g], c)) (B := ev m_M_best 40 [some (eR 0), some (eI s), some (eI y)] [] ([eA 0 964 g], c)) rfl (show wr 1 = 1 by decide) (wr_id (by omega) (by omega)) (fun h17 => ?_) (fun h17 => ?_)
      · refine xEq (N := 3) (x := s) (y := (-1)) (A := ev m_M_best 38 [some (eR 0), some (eI s), some (eI y)] [] ([eA 0 964 g], c)) (B := ev m_M_best 25 [some (eR 0), some (eI s), some (eI y)] [] ([eA 0 964 g], c)) rfl (wr_id (by omega) (by omega)) (show wr (-1) = (-1) by decide) (fun h22 => ?_) (fun h22 => ?_)
        · refine xSeg (N := 4) (r := ev m_M_best 4 [some (eR 0), some (eI y), some (eI (y + 1))] [] ([eA 0 964 g], c)) rfl ?_
          first | exact ih _ _ (by rw [bsA_T (by omega)]; exact hy) (by omega) | exact ih _ _ (by rw [bsA_F (by omega)]; exact hs) (by omega) | exact ih _ _ (by rw [bsA_T (by rcases hin with ⟨h1, h2⟩ | ⟨j, h1, h2, h3⟩ <;> omega)]; exact hy) (by omega)
        · obtain ⟨j, hj1, hj2, hj3⟩ := hj h22
          have hpj := pc_le 30 (op a j)
          refine xCallI (N := 3) (v := ((pc 30 (op a p) : Nat) : Int)) (M2 := m_M_best) (pc2 := 27) (ls2 := [some (eR 0), some (eI s), some (eI y)]) (st2 := []) (y := m_M_countOf) (as := [some (eR 0), some (eI y)]) (w2 := ([eA 0 964 g], c)) rfl hct (fun r27 hr27 => ?_)
          refine xCallI (N := 3) (v := ((pc 30 (op a j) : Nat) : Int)) (M2 := m_M_best) (pc2 := 32) (ls2 := [some (eR 0), some (eI s), some (eI y)]) (st2 := [eI r27]) (y := m_M_countOf) (as := [some (eR 0), some (eI s)]) (w2 := ([eA 0 964 g], c)) rfl (n_countOf hg hj2 (by omega) (hO j (by omega))) (fun r32 hr32 => ?_)
          refine xLt (N := 1) (x := r27) (y := r32) (A := ev m_M_best 38 [some (eR 0), some (eI s), some (eI y)] [] ([eA 0 964 g], c)) (B := ev m_M_best 40 [some (eR 0), some (eI s), some (eI y)] [] ([eA 0 964 g], c)) rfl (wr_id (by omega) (by omega)) (wr_id (by omega) (by omega)) (fun h35 => ?_) (fun h35 => ?_)
          · refine xSeg (N := 4) (r := ev m_M_best 4 [some (eR 0), some (eI y), some (eI (y + 1))] [] ([eA 0 964 g], c)) rfl ?_
            first | exact ih _ _ (by rw [bsA_T (by omega)]; exact hy) (by omega) | exact ih _ _ (by rw [bsA_F (by omega)]; exact hs) (by omega) | exact ih _ _ (by rw [bsA_T (by rcases hin with ⟨h1, h2⟩ | ⟨j, h1, h2, h3⟩ <;> omega)]; exact hy) (by omega)
          · refine xSeg (N := 2) (r := ev m_M_best 4 [some (eR 0), some (eI s), some (eI (y + 1))] [] ([eA 0 964 g], c)) rfl ?_
            first | exact ih _ _ (by rw [bsA_T (by omega)]; exact hy) (by omega) | exact ih _ _ (by rw [bsA_F (by omega)]; exact hs) (by omega) | exact ih _ _ (by rw [bsA_T (by rcases hin with ⟨h1, h2⟩ | ⟨j, h1, h2, h3⟩ <;> omega)]; exact hy) (by omega)
      · refine xSeg (N := 2) (r := ev m_M_best 4 [some (eR 0), some (eI s), some (eI (y + 1))] [] ([eA 0 964 g], c)) rfl ?_
        first | exact ih _ _ (by rw [bsA_T (by omega)]; exact hy) (by omega) | exact ih _ _ (by rw [bsA_F (by omega)]; exact hs) (by omega) | exact ih _ _ (by rw [bsA_T (by rcases hin with ⟨h1, h2⟩ | ⟨j, h1, h2, h3⟩ <;> omega)]; exact hy) (by omega)
  refine xSeg (N := 4) (r := ev m_M_best 4 [some (eR 0), some (eI (-1)), some (eI 0)] [] ([eA 0 964 g], c)) rfl ?_
  exact hl 0 (Nat.zero_le _) _ _ rfl rfl
theorem wpz_pos (hd : Nat → Nat) {L : Nat} (f : Nat → Nat) (hL : 1 ≤ L) : 1 ≤ wpz hd L f := by
  obtain ⟨k, rfl⟩ : ∃ k, L = k + 1 := ⟨L - 1, by omega⟩
  show 1 ≤ fb_sm _ k + max 1 (10 - hd (f k))
  omega
theorem bwA_i {q : Nat → Bool} {f : Nat → Nat} : ∀ {k : Nat}, ((bwA q f k).1 = -1 ∧ (bwA q f k).2 = 0) ∨ ∃ j, j < k ∧ (bwA q f k).1 = (j : Int) ∧ (bwA q f k).2 = f j
  | 0 => Or.inl ⟨rfl, rfl⟩
  | k + 1 => by
    simp only [bwA]
    split
    · exact Or.inr ⟨k, by omega, rfl, rfl⟩
    · rcases bwA_i (q := q) (f := f) (k := k) with h | ⟨j, h1, h2⟩
      · exact Or.inl h
      · exact Or.inr ⟨j, by omega, h2⟩
theorem n_bestOf {g : Nat → Int} {a : eRow} {c : Nat × Nat} {x : Int} {k : Nat} (hg : rg g a) (hV : iV a) (hx : x = (k : Int)) (hk : k < 24) (hm : op a k < 1073741824) : ev m_M_bestOf 0 [some (eR 0), some (eI x)] [] ([eA 0 964 g], c) = some (.inl (some (eI (bwA (op a k).testBit (wp a) (a 2)).1)), ([eA 0 964 g], c)) := by
  have e2 := hg 2 (by omega)
  have hm30 := hV.1
  have hl : ∀ p : Nat, p ≤ a 2 → ∀ s y : Int, s = (bwA (op a k).testBit (wp a) p).1 → y = ((p : Nat) : Int) → ev m_M_bestOf 4 [some (eR 0), some (eI x), some (eI s), some (eI y)] [] ([eA 0 964 g], c) = some (.inl (some (eI (bwA (op a k).testBit (wp a) (a 2)).1)), ([eA 0 964 g], c)) := by
    refine loop_up ?_ ?_
    · intro s y hs hy
      refine xLd (N := 4) (n := 964) (i := 2) (F := fun zq => ev m_M_bestOf 8 [some (eR 0), some (eI x), some (eI s), some (eI y)] [eI (g zq), eI y] ([eA 0 964 g], c)) (k := 2) rfl (show wr 2 = ((2 : Nat) : Int) by decide) (by omega) ?_
      refine xLtF (N := 1) (x := y) (y := g 2) (A := ev m_M_bestOf 11 [some (eR 0), some (eI x), some (eI s), some (eI y)] [] ([eA 0 964 g], c)) (B := ev m_M_bestOf 46 [some (eR 0), some (eI x), some (eI s), some (eI y)] [] ([eA 0 964 g], c)) rfl (wr_id (by omega) (by omega)) (wr_id (by omega) (by omega)) (by omega) ?_
      refine xSeg (N := 2) (r := some (.inl (some (eI s)), ([eA 0 964 g], c))) rfl ?_
      rw [hs]
    · intro p hp ih s y hs hy
      have hpz := wpz_b (hold a) (lt a p) (hV.2 p hp).2.1
      have hpz2 := wpz_pos (hold a) (lt a p) (L := wl a p) (by have := (hV.2 p hp).1; omega)
      rw [show wpz (hold a) (wl a p) (lt a p) = wp a p from rfl] at hpz hpz2
      have hpr := n_prize (c := c) hg hV hy hp
      have hin := bwA_i (q := (op a k).testBit) (f := wp a) (k := p)
      have hj : s ≠ -1 → ∃ j : Nat, j < p ∧ s = (j : Int) ∧ (bwA (op a k).testBit (wp a) p).2 = wp a j := fun h => Or.elim hin (fun h1 => absurd (hs.trans h1.1) h) (fun ⟨j, h1, h2, h3⟩ => ⟨j, h1, hs.trans h2, h3⟩)
      refine xLd (N := 4) (n := 964) (i := 2) (F := fun zq => ev m_M_bestOf 8 [some (eR 0), some (eI x), some (eI s), some (eI y)] [eI (g zq), eI y] ([eA 0 964 g], c)) (k := 2) rfl (show wr 2 = ((2 : Nat) : Int) by decide) (by omega) ?_
      refine xLtT (N := 1) (x := y) (y := g 2) (A := ev m_M_bestOf 11 [some (eR 0), some (eI x), some (eI s), some (eI y)] [] ([eA 0 964 g], c)) (B := ev m_M_bestOf 46 [some (eR 0), some (eI x), some (eI s), some (eI y)] [] ([eA 0 964 g], c)) rfl (wr_id (by omega) (by omega)) (wr_id (by omega) (by omega)) (by omega) ?_
      refine xCallI (N := 4) (v := bI ((op a k).testBit p)) (M2 := m_M_bestOf) (pc2 := 14) (ls2 := [some (eR 0), some (eI x), some (eI s), some (eI y)]) (st2 := []) (y := m_M_hasWord) (as := [some (eR 0), some (eI x), some (eI y)]) (w2 := ([eA 0 964 g], c)) rfl (n_hasWord hg hx hy hk hm (by omega)) (fun r14 hr14 => ?_)
      have hq := bI_1 hr14
      refine xEq (N := 1) (x := r14) (y := 0) (A := ev m_M_bestOf 40 [some (eR 0), some (eI x), some (eI s), some (eI y)] [] ([eA 0 964 g], c)) (B := ev m_M_bestOf 20 [some (eR 0), some (eI x), some (eI s), some (eI y)] [] ([eA 0 964 g], c)) rfl (wr_id (by omega) (by omega)) (show wr 0 = 0 by decide) (fun h17 => ?_) (fun h17 => ?_)
      · refine xSeg (N := 2) (r := ev m_M_bestOf 4 [some (eR 0), some (eI x), some (eI s), some (eI (y + 1))] [] ([eA 0 964 g], c)) rfl ?_
        first | exact ih _ _ (by rw [bwA_T (hq.2.1.mp (by omega)) (by omega)]; exact hy) (by omega) | exact ih _ _ (by rw [bwA_F (Or.inl (hq.2.2.mp (by omega)))]; exact hs) (by omega) | exact ih _ _ (by rw [bwA_F (Or.inr (by omega))]; exact hs) (by omega) | exact ih _ _ (by rw [bwA_T (hq.2.1.mp (by omega)) (by rcases hin with ⟨h1, h2⟩ | ⟨j, h1, h2, h3⟩ <;> omega)]; exact hy) (by omega)
      · refine xEq (N := 3) (x := s) (y := (-1)) (A := ev m_M_bestOf 38 [some (eR 0), some (eI x), some (eI s), some (eI y)] [] ([eA 0 964 g], c)) (B := ev m_M_bestOf 25 [some (eR 0), some (eI x), some (eI s), some (eI y)] [] ([eA 0 964 g], c)) rfl (wr_id (by omega) (by omega)) (show wr (-1) = (-1) by decide) (fun h22 => ?_) (fun h22 => ?_)
        · refine xSeg (N := 4) (r := ev m_M_bestOf 4 [some (eR 0), some (eI x), some (eI y), some (eI (y + 1))] [] ([eA 0 964 g], c)) rfl ?_
          first | exact ih _ _ (by rw [bwA_T (hq.2.1.mp (by omega)) (by omega)]; exact hy) (by omega) | exact ih _ _ (by rw [bwA_F (Or.inl (hq.2.2.mp (by omega)))]; exact hs) (by omega) | exact ih _ _ (by rw [bwA_F (Or.inr (by omega))]; exact hs) (by omega) | exact ih _ _ (by rw [bwA_T (hq.2.1.mp (by omega)) (by rcases hin with ⟨h1, h2⟩ | ⟨j, h1, h2, h3⟩ <;> omega)]; exact hy) (by omega)
        · obtain ⟨j, hj1, hj2, hj3⟩ := hj h22
          have hpj : wp a j ≤ 60 := wpz_b (hold a) (lt a j) (hV.2 j (by omega)).2.1
          refine xCallI (N := 3) (v := ((wp a p : Nat) : Int)) (M2 := m_M_bestOf) (pc2 := 27) (ls2 := [some (eR 0), some (eI x), some (eI s), some (eI y)]) (st2 := []) (y := m_M_prize) (as := [some (eR 0), some (eI y)]) (w2 := ([eA 0 964 g], c)) rfl hpr (fun r27 hr27 => ?_)
          refine xCallI (N := 3) (v := ((wp a j : Nat) : Int)) (M2 := m_M_bestOf) (pc2 := 32) (ls2 := [some (eR 0), some (eI x), some (eI s), some (eI y)]) (st2 := [eI r27]) (y := m_M_prize) (as := [some (eR 0), some (eI s)]) (w2 := ([eA 0 964 g], c)) rfl (n_prize hg hV hj2 (by omega)) (fun r32 hr32 => ?_)
          refine xLt (N := 1) (x := r32) (y := r27) (A := ev m_M_bestOf 38 [some (eR 0), some (eI x), some (eI s), some (eI y)] [] ([eA 0 964 g], c)) (B := ev m_M_bestOf 40 [some (eR 0), some (eI x), some (eI s), some (eI y)] [] ([eA 0 964 g], c)) rfl (wr_id (by omega) (by omega)) (wr_id (by omega) (by omega)) (fun h35 => ?_) (fun h35 => ?_)
          · refine xSeg (N := 4) (r := ev m_M_bestOf 4 [some (eR 0), some (eI x), some (eI y), some (eI (y + 1))] [] ([eA 0 964 g], c)) rfl ?_
            first | exact ih _ _ (by rw [bwA_T (hq.2.1.mp (by omega)) (by omega)]; exact hy) (by omega) | exact ih _ _ (by rw [bwA_F (Or.inl (hq.2.2.mp (by omega)))]; exact hs) (by omega) | exact ih _ _ (by rw [bwA_F (Or.inr (by omega))]; exact hs) (by omega) | exact ih _ _ (by rw [bwA_T (hq.2.1.mp (by omega)) (by rcases hin with ⟨h1, h2⟩ | ⟨j, h1, h2, h3⟩ <;> omega)]; exact hy) (by omega)
          · refine xSeg (N := 2) (r := ev m_M_bestOf 4 [some (eR 0), some (eI x), some (eI s), some (eI (y + 1))] [] ([eA 0 964 g], c)) rfl ?_
            first | exact ih _ _ (by rw [bwA_T (hq.2.1.mp (by omega)) (by omega)]; exact hy) (by omega) | exact ih _ _ (by rw [bwA_F (Or.inl (hq.2.2.mp (by omega)))]; exact hs) (by omega) | exact ih _ _ (by rw [bwA_F (Or.inr (by omega))]; exact hs) (by omega) | exact ih _ _ (by rw [bwA_T (hq.2.1.mp (by omega)) (by rcases hin with ⟨h1, h2⟩ | ⟨j, h1, h2, h3⟩ <;> omega)]; exact hy) (by omega)
  refine xSeg (N := 4) (r := ev m_M_bestOf 4 [some (eR 0), some (eI x), some (eI (-1)), some (eI 0)] [] ([eA 0 964 g], c)) rfl ?_
  exact hl 0 (Nat.zero_le _) _ _ rfl rfl
theorem n_canStep {g : Nat → Int} {a : eRow} {c : Nat × Nat} (hg : rg g a) (hn : a 3 ≤ 24) (h4 : a 4 < 4) : ev m_M_canStep 0 [some (eR 0)] [] ([eA 0 964 g], c) = some (.inl (some (eI (bI (decide (0 < a 3 ∧ (a 4 = 0 ∨ a 4 = 2)))))), ([eA 0 964 g], c)) := by
  have e3 := hg 3 (by omega)
  have e4 := hg 4 (by omega)
  refine xLd (N := 3) (n := 964) (i := 3) (F := fun zq => ev m_M_canStep 3 [some (eR 0)] [eI (g zq)] ([eA 0 964 g], c)) (k := 3) rfl (show wr 3 = ((3 : Nat) : Int) by decide) (by omega) ?_
  refine xLt (N := 1) (x := 0) (y := g 3) (A := ev m_M_canStep 6 [some (eR 0)] [] ([eA 0 964 g], c)) (B := ev m_M_canStep 23 [some (eR 0)] [] ([eA 0 964 g], c)) rfl (show wr 0 = 0 by decide) (wr_id (by omega) (by omega)) (fun h3 => ?_) (fun h3 => ?_)
  · refine xLd (N := 3) (n := 964) (i := 4) (F := fun zq => ev m_M_canStep 9 [some (eR 0)] [eI (g zq)] ([eA 0 964 g], c)) (k := 4) rfl (show wr 4 = ((4 : Nat) : Int) by decide) (by omega) ?_
    refine xEq (N := 1) (x := g 4) (y := 0) (A := ev m_M_canStep 19 [some (eR 0)] [] ([eA 0 964 g], c)) (B := ev m_M_canStep 12 [some (eR 0)] [] ([eA 0 964 g], c)) rfl (wr_id (by omega) (by omega)) (show wr 0 = 0 by decide) (fun h9 => ?_) (fun h9 => ?_)
    · refine xRb (N := 3) (v := 1) (w2 := ([eA 0 964 g], c)) rfl (by decide) ?_
      first | exact lf (bT (decide_eq_true (by omega))) | exact lf (bF (decide_eq_false (by omega)))
    · refine xLd (N := 3) (n := 964) (i := 4) (F := fun zq => ev m_M_canStep 15 [some (eR 0)] [eI (g zq)] ([eA 0 964 g], c)) (k := 4) rfl (show wr 4 = ((4 : Nat) : Int) by decide) (by omega) ?_
      refine xEq (N := 2) (x := g 4) (y := 2) (A := ev m_M_canStep 19 [some (eR 0)] [] ([eA 0 964 g], c)) (B := ev m_M_canStep 23 [some (eR 0)] [] ([eA 0 964 g], c)) rfl (wr_id (by omega) (by omega)) (show wr 2 = 2 by decide) (fun h16 => ?_) (fun h16 => ?_)
      · refine xRb (N := 3) (v := 1) (w2 := ([eA 0 964 g], c)) rfl (by decide) ?_
        first | exact lf (bT (decide_eq_true (by omega))) | exact lf (bF (decide_eq_false (by omega)))
      · refine xRb (N := 2) (v := 0) (w2 := ([eA 0 964 g], c)) rfl (by decide) ?_
        first | exact lf (bT (decide_eq_true (by omega))) | exact lf (bF (decide_eq_false (by omega)))
  · refine xRb (N := 2) (v := 0) (w2 := ([eA 0 964 g], c)) rfl (by decide) ?_
    first | exact lf (bT (decide_eq_true (by omega))) | exact lf (bF (decide_eq_false (by omega)))
theorem n_hasLetters {g : Nat → Int} {a : eRow} {c : Nat × Nat} (hg : rg g a) (hL : ∀ e, e < 36 → a (52 + e) < 128) : ev m_M_hasLetters 0 [some (eR 0)] [] ([eA 0 964 g], c) = some (.inl (some (eI (bI (anyN (fun e => decide (a (52 + e) ≠ 0)) 36)))), ([eA 0 964 g], c)) := by
  have hl : ∀ p : Nat, p ≤ 36 → ∀ y : Int, y = (p : Int) → (∀ k, k < p → a (52 + k) = 0) → ev m_M_hasLetters 2 [some (eR 0), some (eI y)] [] ([eA 0 964 g], c) = some (.inl (some (eI (bI (anyN (fun e => decide (a (52 + e) ≠ 0)) 36)))), ([eA 0 964 g], c)) := by
    refine loop_up ?_ ?_
    · intro y hy ha
      refine xLtF (N := 3) (x := y) (y := 36) (A := ev m_M_hasLetters 8 [some (eR 0), some (eI y)] [] ([eA 0 964 g], c)) (B := ev m_M_hasLetters 25 [some (eR 0), some (eI y)] [] ([eA 0 964 g], c)) rfl (wr_id (by omega) (by omega)) (show wr 36 = 36 by decide) (by omega) ?_
      refine xRb (N := 2) (v := 0) (w2 := ([eA 0 964 g], c)) rfl (by decide) ?_
      exact lf (bF (anyN_F (fun k hk => decide_eq_false (by have := ha k hk; omega))))
    · intro p hp ih y hy ha
      have hb := hL p hp
      have e1 := hg (52 + p) (by omega)
      refine xLtT (N := 3) (x := y) (y := 36) (A := ev m_M_hasLetters 8 [some (eR 0), some (eI y)] [] ([eA 0 964 g], c)) (B := ev m_M_hasLetters 25 [some (eR 0), some (eI y)] [] ([eA 0 964 g], c)) rfl (wr_id (by omega) (by omega)) (show wr 36 = 36 by decide) (by omega) ?_
      refine xLd (N := 5) (n := 964) (i := 52 + y) (F := fun zq => ev m_M_hasLetters 14 [some (eR 0), some (eI y)] [eI (g zq)] ([eA 0 964 g], c)) (k := 52 + p) rfl (wr_nat (by omega) (by omega)) (by omega) ?_
      refine xEq (N := 1) (x := g (52 + p)) (y := 0) (A := ev m_M_hasLetters 19 [some (eR 0), some (eI y)] [] ([eA 0 964 g], c)) (B := ev m_M_hasLetters 17 [some (eR 0), some (eI y)] [] ([eA 0 964 g], c)) rfl (wr_id (by omega) (by omega)) (show wr 0 = 0 by decide) (fun h14 => ?_) (fun h14 => ?_)
      · refine xSeg (N := 2) (r := ev m_M_hasLetters 2 [some (eR 0), some (eI (y + 1))] [] ([eA 0 964 g], c)) rfl ?_
        refine ih _ (by omega) (fun k hk => ?_)
        by_cases hkp : k = p
        · subst hkp; omega
        · exact ha k (by omega)
      · refine xRb (N := 2) (v := 1) (w2 := ([eA 0 964 g], c)) rfl (by decide) ?_
        exact lf (bT (anyN_iff.mpr ⟨p, hp, decide_eq_true (by omega)⟩))
  refine xSeg (N := 2) (r := ev m_M_hasLetters 2 [some (eR 0), some (eI 0)] [] ([eA 0 964 g], c)) rfl ?_
  exact hl 0 (Nat.zero_le _) _ rfl (fun k hk => absurd hk (by omega))
theorem n_lettersAt {g : Nat → Int} {a : eRow} {c : Nat × Nat} {x i : Int} {k p : Nat} (hg : rg g a) (hV : iV a) (hO : iO a) (hx : x = (k : Int)) (hi : i = (p : Int)) (hk : k < a 3) (hn : a 3 ≤ 24) (hp : p < sl a k) (hs6 : sl a k ≤ 6) : ev m_M_lettersAt 0 [some (eR 0), some (eI x), some (eI i)] [] ([eA 0 964 g], c) = some (.inl (some (eI ((lmN (op a k) (fun w => lt a w p) : Nat) : Int))), ([eA 0 964 g], c)) := by
  have e2 := hg 2 (by omega)
  have hm30 := hV.1
  have hOk := hO k hk
  unfold lmN
  generalize hFF : (fun w => bif (op a k).testBit w then 2 ^ lt a w p else 0) = F
  have hF0 : ∀ w, (op a k).testBit w = false → F w = 0 := fun w h => by rw [← hFF]; simp [h]
  have hFl : ∀ w, F w < 2 ^ 30 := fun w => by
    rw [← hFF]
    dsimp only
    cases hb : (op a k).testBit w with
    | true =>
      have h9 := hOk.2 w hb
      exact Nat.pow_lt_pow_right (by decide) (by have := lt_26 hV h9.1 (i := p) (by omega); omega)
    | false => exact Nat.two_pow_pos 30
  have he : orN F 30 = orN F (a 2) := orN_tail hm30 (fun w h1 h2 => hF0 w (by
    cases hb : (op a k).testBit w with
    | false => rfl
    | true => have := (hOk.2 w hb).1; omega))
  rw [he]
  have hl : ∀ w : Nat, w ≤ a 2 → ∀ s y : Int, s = ((orN F w : Nat) : Int) → y = ((w : Nat) : Int) → ev m_M_lettersAt 5 [some (eR 0), some (eI x), some (eI i), some (eI s), some (eI y)] [] ([eA 0 964 g], c) = some (.inl (some (eI ((orN F (a 2) : Nat) : Int))), ([eA 0 964 g], c)) := by
    refine loop_up ?_ ?_
    · intro s y hs hy
      refine xLd (N := 4) (n := 964) (i := 2) (F := fun zq => ev m_M_lettersAt 10 [some (eR 0), some (eI x), some (eI i), some (eI s), some (eI y)] [eI (g zq), eI y] ([eA 0 964 g], c)) (k := 2) rfl (show wr 2 = ((2 : Nat) : Int) by decide) (by omega) ?_
      refine xLtF (N := 1) (x := y) (y := g 2) (A := ev m_M_lettersAt 13 [some (eR 0), some (eI x), some (eI i), some (eI s), some (eI y)] [] ([eA 0 964 g], c)) (B := ev m_M_lettersAt 41 [some (eR 0), some (eI x), some (eI i), some (eI s), some (eI y)] [] ([eA 0 964 g], c)) rfl (wr_id (by omega) (by omega)) (wr_id (by omega) (by omega)) (by omega) ?_
      refine xSeg (N := 2) (r := some (.inl (some (eI s)), ([eA 0 964 g], c))) rfl ?_
      rw [hs]
    · intro w hw ih s y hs hy
      have hl30 := orN_lt (q := 30) (n := w) (fun i _ => hFl i)
      have hst : orN F (w + 1) = (orN F w ||| F w) := rfl
      refine xLd (N := 4) (n := 964) (i := 2) (F := fun zq => ev m_M_lettersAt 10 [some (eR 0), some (eI x), some (eI i), some (eI s), some (eI y)] [eI (g zq), eI y] ([eA 0 964 g], c)) (k := 2) rfl (show wr 2 = ((2 : Nat) : Int) by decide) (by omega) ?_
      refine xLtT (N := 1) (x := y) (y := g 2) (A := ev m_M_lettersAt 13 [some (eR 0), some (eI x), some (eI i), some (eI s), some (eI y)] [] ([eA 0 964 g], c)) (B := ev m_M_lettersAt 41 [some (eR 0), some (eI x), some (eI i), some (eI s), some (eI y)] [] ([eA 0 964 g], c)) rfl (wr_id (by omega) (by omega)) (wr_id (by omega) (by omega)) (by omega) ?_
      refine xCallI (N := 4) (v := bI ((op a k).testBit w)) (M2 := m_M_lettersAt) (pc2 := 17) (ls2 := [some (eR 0), some (eI x), some (eI i), some (eI s), some (eI y)]) (st2 := []) (y := m_M_hasWord) (as := [some (eR 0), some (eI x), some (eI y)]) (w2 := ([eA 0 964 g], c)) rfl (n_hasWord hg hx hy (by omega) hOk.1 (by omega)) (fun r17 hr17 => ?_)
      have hq := bI_1 hr17
      refine xEq (N := 1) (x := r17) (y := 0) (A := ev m_M_lettersAt 35 [some (eR 0), some (eI x), some (eI i), some (eI s), some (eI y)] [] ([eA 0 964 g], c)) (B := ev m_M_lettersAt 23 [some (eR 0), some (eI x), some (eI i), some (eI s), some (eI y)] [] ([eA 0 964 g], c)) rfl (wr_id (by omega) (by omega)) (show wr 0 = 0 by decide) (fun h20 => ?_) (fun h20 => ?_)
      · refine xSeg (N := 2) (r := ev m_M_lettersAt 5 [some (eR 0), some (eI x), some (eI i), some (eI s), some (eI (y + 1))] [] ([eA 0 964 g], c)) rfl ?_
        first | exact ih _ _ (by rw [hs2, hst, ← hFF]; simp [hbt]) (by omega) | exact ih _ _ (by rw [hst, hF0 w (hq.2.2.mp (by omega)), Nat.or_zero]; exact hs) (by omega)
      · have hbt := hq.2.1.mp (by omega)
        obtain ⟨hw1, hw2⟩ := hOk.2 w hbt
        have v := hV.2 w hw1
        have hl26 := lt_26 hV hw1 (i := p) (by omega)
        refine xCallI (N := 6) (v := ((lt a w p : Nat) : Int)) (M2 := m_M_lettersAt) (pc2 := 29) (ls2 := [some (eR 0), some (eI x), some (eI i), some (eI s), some (eI y)]) (st2 := [eI 1, eI s]) (y := m_M_letter) (as := [some (eR 0), some (eI y), some (eI i)]) (w2 := ([eA 0 964 g], c)) rfl (n_letter hg hy hi (by omega) v.2.1 (by omega) v.2.2.1.1 (v.2.2.2 p (by omega)).1) (fun r29 hr29 => ?_)
        refine xTop (N := 2) (pc2 := 34) (ls2 := [some (eR 0), some (eI x), some (eI i), some (eI s), some (eI y)]) (a := bOr s (bShl 1 r29)) (b := ((orN F w ||| 2 ^ lt a w p : Nat) : Int)) (st2 := []) (w2 := ([eA 0 964 g], c)) rfl (i_or hs hl30 hr29 (by omega)) (fun s2 hs2 => ?_)
        refine xSeg (N := 3) (r := ev m_M_lettersAt 5 [some (eR 0), some (eI x), some (eI i), some (eI s2), some (eI (y + 1))] [] ([eA 0 964 g], c)) rfl ?_
        first | exact ih _ _ (by rw [hs2, hst, ← hFF]; simp [hbt]) (by omega) | exact ih _ _ (by rw [hst, hF0 w (hq.2.2.mp (by omega)), Nat.or_zero]; exact hs) (by omega)
  refine xSeg (N := 4) (r := ev m_M_lettersAt 5 [some (eR 0), some (eI x), some (eI i), some (eI 0), some (eI 0)] [] ([eA 0 964 g], c)) rfl ?_
  exact hl 0 (Nat.zero_le _) _ _ rfl rfl
theorem n_fits {g : Nat → Int} {a : eRow} {c : Nat × Nat} {x y : Int} {k w : Nat} (hg : rg g a) (hG : iG a) (hV : iV a) (hx : x = (k : Int)) (hy : y = (w : Int)) (hk : k < a 3) (hw : w < a 2) : ev m_M_fits 0 [some (eR 0), some (eI x), some (eI y)] [] ([eA 0 964 g], c) = some (.inl (some (eI (bI (decide (wl a w = sl a k) && allN (fun p => decide (a (52 + cel a k p) = 0 ∨ a (52 + cel a k p) = 97 + lt a w p)) (sl a k))))), ([eA 0 964 g], c)) := by
  have hn := hG.1.2.2.2.2
  have hm30 := hV.1
  obtain ⟨h1, h2, h3, h4, h5, h6, h7⟩ := sl_at hG hk
  obtain ⟨v1, v2, v3, v4⟩ := hV.2 w hw
  have e1 : g (118 + w) = (wl a w : Int) := hg (118 + w) (by omega)
  have e2 : g (148 + 4 * k + 2) = (sl a k : Int) := hg (148 + 4 * k + 2) (by omega)
  have hl : wl a w = sl a k → ∀ p : Nat, p ≤ wl a w → ∀ z : Int, z = (p : Int) → (∀ q, q < p → (a (52 + cel a k q) = 0 ∨ a (52 + cel a k q) = 97 + lt a w q)) → ev m_M_fits 21 [some (eR 0), some (eI x), some (eI y), some (eI z)] [] ([eA 0 964 g], c) = some (.inl (some (eI (bI (decide (wl a w = sl a k) && allN (fun p => decide (a (52 + cel a k p) = 0 ∨ a (52 + cel a k p) = 97 + lt a w p)) (sl a k))))), ([eA 0 964 g], c)) := by
    intro hwL
    refine loop_up ?_ ?_
    · intro z hz ha
      refine xLd (N := 6) (n := 964) (i := 118 + y) (F := fun zq => ev m_M_fits 28 [some (eR 0), some (eI x), some (eI y), some (eI z)] [eI (g zq), eI z] ([eA 0 964 g], c)) (k := 118 + w) rfl (wr_nat (by omega) (by omega)) (by omega) ?_
      refine xLtF (N := 1) (x := z) (y := g (118 + w)) (A := ev m_M_fits 31 [some (eR 0), some (eI x), some (eI y), some (eI z)] [] ([eA 0 964 g], c)) (B := ev m_M_fits 71 [some (eR 0), some (eI x), some (eI y), some (eI z)] [] ([eA 0 964 g], c)) rfl (wr_id (by omega) (by omega)) (wr_id (by omega) (by omega)) (by omega) ?_
      refine xRb (N := 2) (v := 1) (w2 := ([eA 0 964 g], c)) rfl (by decide) ?_
      exact lf (bT (by rw [decide_eq_true hwL, allN_iff.mpr (fun q hq => decide_eq_true (ha q (by omega)))]; rfl))
    · intro p hp ih z hz ha
      have hc := cel_lt hG hk (p := p) (by omega)
      have hgv := (hG.2.1 (cel a k p) hc).2.1
      have e4 := hg (52 + cel a k p) (by omega)
      have hl26 := lt_26 hV hw hp
      have hcel := n_cellAt (c := c) hg hG hx hz hk (by omega)
      have ih2 : (a (52 + cel a k p) = 0 ∨ a (52 + cel a k p) = 97 + lt a w p) → ∀ q, q < p + 1 → (a (52 + cel a k q) = 0 ∨ a (52 + cel a k q) = 97 + lt a w q) := fun h q hq => by
        by_cases hqp : q = p
        · subst hqp; exact h
        · exact ha q (by omega)
      refine xLd (N := 6) (n := 964) (i := 118 + y) (F := fun zq => ev m_M_fits 28 [some (eR 0), some (eI x), some (eI y), some (eI z)] [eI (g zq), eI z] ([eA 0 964 g], c)) (k := 118 + w) rfl (wr_nat (by omega) (by omega)) (by omega) ?_
      refine xLtT (N := 1) (x := z) (y := g (118 + w)) (A := ev m_M_fits 31 [some (eR 0), some (eI x), some (eI y), some (eI z)] [] ([eA 0 964 g], c)) (B := ev m_M_fits 71 [some (eR 0), some (eI x), some (eI y), some (eI z)] [] ([eA 0 964 g], c)) rfl (wr_id (by omega) (by omega)) (wr_id (by omega) (by omega)) (by omega) ?_
      refine xCallI (N := 6) (v := ((cel a k p : Nat) : Int)) (M2 := m_M_fits) (pc2 := 37) (ls2 := [some (eR 0), some (eI x), some (eI y), some (eI z)]) (st2 := [eI 52, eR 0]) (y := m_M_cellAt) (as := [some (eR 0), some (eI x), some (eI z)]) (w2 := ([eA 0 964 g], c)) rfl hcel (fun r37 hr37 => ?_)
      refine xLd (N := 2) (n := 964) (i := 52 + r37) (F := fun zq => ev m_M_fits 42 [some (eR 0), some (eI x), some (eI y), some (eI z)] [eI (g zq)] ([eA 0 964 g], c)) (k := 52 + (cel a k p)) rfl (wr_nat (by omega) (by omega)) (by omega) ?_
      refine xEq (N := 3) (x := g (52 + (cel a k p))) (y := 0) (A := ev m_M_fits 65 [some (eR 0), some (eI x), some (eI y), some (eI z), some (eI (g (52 + (cel a k p))))] [] ([eA 0 964 g], c)) (B := ev m_M_fits 49 [some (eR 0), some (eI x), some (eI y), some (eI z), some (eI (g (52 + (cel a k p))))] [] ([eA 0 964 g], c)) rfl (wr_id (by omega) (by omega)) (show wr 0 = 0 by decide) (fun h46 => ?_) (fun h46 => ?_)
      · refine xSeg (N := 2) (r := ev m_M_fits 21 [some (eR 0), some (eI x), some (eI y), some (eI (z + 1)), some (eI (g (52 + (cel a k p))))] [] ([eA 0 964 g], c)) rfl ?_
        refine xTk 4 (by rfl) rfl ?_
        exact ih _ (by omega) (ih2 (by omega))
      · refine xCallI (N := 6) (v := ((lt a w p : Nat) : Int)) (M2 := m_M_fits) (pc2 := 56) (ls2 := [some (eR 0), some (eI x), some (eI y), some (eI z), some (eI (g (52 + (cel a k p))))]) (st2 := [eI 97, eI (g (52 + (cel a k p)))]) (y := m_M_letter) (as := [some (eR 0), some (eI y), some (eI z)]) (w2 := ([eA 0 964 g], c)) rfl (n_letter hg hy hz (by omega) v2 hp v3.1 (v4 p hp).1) (fun r56 hr56 => ?_)
        refine xEq (N := 2) (x := g (52 + (cel a k p))) (y := 97 + r56) (A := ev m_M_fits 65 [some (eR 0), some (eI x), some (eI y), some (eI z), some (eI (g (52 + (cel a k p))))] [] ([eA 0 964 g], c)) (B := ev m_M_fits 63 [some (eR 0), some (eI x), some (eI y), some (eI z), some (eI (g (52 + (cel a k p))))] [] ([eA 0 964 g], c)) rfl (wr_id (by omega) (by omega)) (wr_id (by omega) (by omega)) (fun h60 => ?_) (fun h60 => ?_)
        · refine xSeg (N := 2) (r := ev m_M_fits 21 [some (eR 0), some (eI x), some (eI y), some (eI (z + 1)), some (eI (g (52 + (cel a k p))))] [] ([eA 0 964 g], c)) rfl ?_
          refine xTk 4 (by rfl) rfl ?_
          exact ih _ (by omega) (ih2 (by omega))
        · refine xRb (N := 2) (v := 0) (w2 := ([eA 0 964 g], c)) rfl (by decide) ?_
          exact lf (bF (by rw [allN_F (k := p) (by omega) (decide_eq_false (by omega)), Bool.and_false]))
  refine xLd (N := 5) (n := 964) (i := 118 + y) (F := fun zq => ev m_M_fits 6 [some (eR 0), some (eI x), some (eI y)] [eI (g zq)] ([eA 0 964 g], c)) (k := 118 + w) rfl (wr_nat (by omega) (by omega)) (by omega) ?_
  refine xCallI (N := 3) (v := 148 + 4 * x) (M2 := m_M_fits) (pc2 := 8) (ls2 := [some (eR 0), some (eI x), some (eI y)]) (st2 := [eR 0, eI (g (118 + w))]) (y := m_M_ofSlot) (as := [some (eI x)]) (w2 := ([eA 0 964 g], c)) rfl n_ofSlot (fun r8 hr8 => ?_)
  refine xLd (N := 3) (n := 964) (i := r8 + 2) (F := fun zq => ev m_M_fits 14 [some (eR 0), some (eI x), some (eI y)] [eI (g zq), eI (g (118 + w))] ([eA 0 964 g], c)) (k := (148 + 4 * k) + 2) rfl (wr_nat (by omega) (by omega)) (by omega) ?_
  refine xEq (N := 1) (x := g (118 + w)) (y := g ((148 + 4 * k) + 2)) (A := ev m_M_fits 19 [some (eR 0), some (eI x), some (eI y)] [] ([eA 0 964 g], c)) (B := ev m_M_fits 17 [some (eR 0), some (eI x), some (eI y)] [] ([eA 0 964 g], c)) rfl (wr_id (by omega) (by omega)) (wr_id (by omega) (by omega)) (fun h14 => ?_) (fun h14 => ?_)
  · refine xSeg (N := 2) (r := ev m_M_fits 21 [some (eR 0), some (eI x), some (eI y), some (eI 0)] [] ([eA 0 964 g], c)) rfl ?_
    exact hl (by omega) 0 (Nat.zero_le _) _ rfl (fun q hq => absurd hq (by omega))
  · refine xRb (N := 2) (v := 0) (w2 := ([eA 0 964 g], c)) rfl (by decide) ?_
    exact lf (bF (by rw [decide_eq_false (by omega)]; rfl))
