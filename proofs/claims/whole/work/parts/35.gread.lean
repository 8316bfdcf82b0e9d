/-! The class's questions about grid and words. -/
theorem c_cell {x y : Int} {w : eW} : ev m_G_cell 0 [some (eI x), some (eI y)] [] w = some (.inl (some (eI (y * 6 + x))), w) := by
  refine xSeg (N := 6) (r := some (.inl (some (eI (y * 6 + x))), w)) rfl ?_
  rfl
def inG (W H : Nat) (x y : Int) : Bool := decide (0 ≤ x ∧ x < (W : Int) ∧ 0 ≤ y ∧ y < (H : Int))
theorem inG_T {W H : Nat} {x y : Int} (h : 0 ≤ x ∧ x < (W : Int) ∧ 0 ≤ y ∧ y < (H : Int)) : inG W H x y = true := decide_eq_true h
theorem inG_F {W H : Nat} {x y : Int} (h : ¬ (0 ≤ x ∧ x < (W : Int) ∧ 0 ≤ y ∧ y < (H : Int))) : inG W H x y = false := decide_eq_false h
theorem inG_iff {W H : Nat} {x y : Int} : inG W H x y = true ↔ (0 ≤ x ∧ x < (W : Int) ∧ 0 ≤ y ∧ y < (H : Int)) := decide_eq_true_iff
set_option maxRecDepth 100000
theorem c_hasCell {S : wS} {c : Nat × Nat} {x y : Int} {W H : Nat} (g0 : S 1 0 = (W : Int)) (g1 : S 1 1 = (H : Int)) (gW : W < 7) (gH : H < 7) (bx : -2147483648 ≤ x ∧ x < 2147483648) (by_ : -2147483648 ≤ y ∧ y < 2147483648) : ev m_G_hasCell 0 [some (eR 1), some (eI x), some (eI y)] [] (wC S, c) = some (.inl (some (eI (bI (inG W H x y)))), (wC S, c)) := by
  refine xLt (N := 2) (x := x) (y := 0) (A := ev m_G_hasCell 28 [some (eR 1), some (eI x), some (eI y)] [] (wC S, c)) (B := ev m_G_hasCell 4 [some (eR 1), some (eI x), some (eI y)] [] (wC S, c)) rfl (wr_id (by omega) (by omega)) (show wr 0 = 0 by decide) (fun h1 => ?_) (fun h1 => ?_)
  · refine xRb (N := 2) (v := 0) (w2 := (wC S, c)) rfl (by decide) ?_
    first | exact lf (bT (inG_T (by omega))) | exact lf (bF (inG_F (by omega)))
  · refine xLt (N := 4) (x := x) (y := S 1 0) (A := ev m_G_hasCell 12 [some (eR 1), some (eI x), some (eI y)] [] (wC S, c)) (B := ev m_G_hasCell 28 [some (eR 1), some (eI x), some (eI y)] [] (wC S, c)) rfl (wr_id (by omega) (by omega)) (wr_id (by omega) (by omega)) (fun h9 => ?_) (fun h9 => ?_)
    · refine xLt (N := 2) (x := y) (y := 0) (A := ev m_G_hasCell 28 [some (eR 1), some (eI x), some (eI y)] [] (wC S, c)) (B := ev m_G_hasCell 16 [some (eR 1), some (eI x), some (eI y)] [] (wC S, c)) rfl (wr_id (by omega) (by omega)) (show wr 0 = 0 by decide) (fun h13 => ?_) (fun h13 => ?_)
      · refine xRb (N := 2) (v := 0) (w2 := (wC S, c)) rfl (by decide) ?_
        first | exact lf (bT (inG_T (by omega))) | exact lf (bF (inG_F (by omega)))
      · refine xLt (N := 4) (x := y) (y := S 1 1) (A := ev m_G_hasCell 24 [some (eR 1), some (eI x), some (eI y)] [] (wC S, c)) (B := ev m_G_hasCell 28 [some (eR 1), some (eI x), some (eI y)] [] (wC S, c)) rfl (wr_id (by omega) (by omega)) (wr_id (by omega) (by omega)) (fun h21 => ?_) (fun h21 => ?_)
        · refine xRb (N := 3) (v := 1) (w2 := (wC S, c)) rfl (by decide) ?_
          first | exact lf (bT (inG_T (by omega))) | exact lf (bF (inG_F (by omega)))
        · refine xRb (N := 2) (v := 0) (w2 := (wC S, c)) rfl (by decide) ?_
          first | exact lf (bT (inG_T (by omega))) | exact lf (bF (inG_F (by omega)))
    · refine xRb (N := 2) (v := 0) (w2 := (wC S, c)) rfl (by decide) ?_
      first | exact lf (bT (inG_T (by omega))) | exact lf (bF (inG_F (by omega)))
/-- a cell of the grid that isn't blocked -/
def opn (W H : Nat) (B : Nat → Nat) (x y : Int) : Bool := inG W H x y && decide (B (y * 6 + x).toNat = 0)
theorem c_isOpen {S : wS} {c : Nat × Nat} {x y : Int} {W H : Nat} {B : Nat → Nat} (g0 : S 1 0 = (W : Int)) (g1 : S 1 1 = (H : Int)) (gW : W < 7) (gH : H < 7) (gB : ∀ k, k < 36 → S 2 k = (B k : Int) ∧ B k ≤ 1) (bx : -2147483648 ≤ x ∧ x < 2147483648) (by_ : -2147483648 ≤ y ∧ y < 2147483648) : ev m_G_isOpen 0 [some (eR 1), some (eI x), some (eI y)] [] (wC S, c) = some (.inl (some (eI (bI (opn W H B x y)))), (wC S, c)) := by
  refine xCallWI (N := 4) (M2 := m_G_isOpen) (pc2 := 3) (ls2 := [some (eR 1), some (eI x), some (eI y)]) (st2 := []) (y := m_G_hasCell) (as := [some (eR 1), some (eI x), some (eI y)]) (w2 := (wC S, c)) rfl (c_hasCell g0 g1 gW gH (by omega) (by omega)) (fun r3 hr3 => ?_)
  have hq := bI_1 hr3
  refine xEq (N := 1) (x := r3) (y := 0) (A := ev m_G_isOpen 26 [some (eR 1), some (eI x), some (eI y)] [] (wC S, c)) (B := ev m_G_isOpen 9 [some (eR 1), some (eI x), some (eI y)] [] (wC S, c)) rfl (wr_id (by omega) (by omega)) (show wr 0 = 0 by decide) (fun h6 => ?_) (fun h6 => ?_)
  · refine xRb (N := 2) (v := 0) (w2 := (wC S, c)) rfl (by decide) ?_
    first | exact lf (bT (by unfold opn; rw [hG]; exact decide_eq_true (by omega))) | exact lf (bF (by unfold opn; rw [hG]; exact decide_eq_false (by omega))) | exact lf (bF (by unfold opn; rw [hq.2.2.mp (by omega)]; rfl))
  · have hG := hq.2.1.mp (by omega)
    have hz := inG_iff.mp hG
    have hB := gB (y * 6 + x).toNat (by omega)
    refine xCallI (N := 5) (M2 := m_G_isOpen) (pc2 := 15) (ls2 := [some (eR 1), some (eI x), some (eI y)]) (st2 := [eR 2]) (y := m_G_cell) (as := [some (eI x), some (eI y)]) (w2 := (wC S, c)) rfl c_cell (fun r15 hr15 => ?_)
    refine xLd (N := 1) (n := 36) (i := r15) (F := fun zq => ev m_G_isOpen 19 [some (eR 1), some (eI x), some (eI y)] [eI (S 2 zq)] (wC S, c)) (k := (y * 6 + x).toNat) rfl (wr_nat (by omega) (by omega)) (by omega) ?_
    refine xEq (N := 1) (x := S 2 ((y * 6 + x).toNat)) (y := 0) (A := ev m_G_isOpen 22 [some (eR 1), some (eI x), some (eI y)] [] (wC S, c)) (B := ev m_G_isOpen 26 [some (eR 1), some (eI x), some (eI y)] [] (wC S, c)) rfl (wr_id (by omega) (by omega)) (show wr 0 = 0 by decide) (fun h19 => ?_) (fun h19 => ?_)
    · refine xRb (N := 3) (v := 1) (w2 := (wC S, c)) rfl (by decide) ?_
      first | exact lf (bT (by unfold opn; rw [hG]; exact decide_eq_true (by omega))) | exact lf (bF (by unfold opn; rw [hG]; exact decide_eq_false (by omega))) | exact lf (bF (by unfold opn; rw [hq.2.2.mp (by omega)]; rfl))
    · refine xRb (N := 2) (v := 0) (w2 := (wC S, c)) rfl (by decide) ?_
      first | exact lf (bT (by unfold opn; rw [hG]; exact decide_eq_true (by omega))) | exact lf (bF (by unfold opn; rw [hG]; exact decide_eq_false (by omega))) | exact lf (bF (by unfold opn; rw [hq.2.2.mp (by omega)]; rfl))
def strd (d : Nat) : Nat := if d = 0 then 1 else 6
theorem c_stride {S : wS} {c : Nat × Nat} {x : Int} {k d : Nat} (hx : x = (k : Int)) (hk : k < 24) (g : S 6 k = (d : Int)) (hd : d ≤ 1) : ev m_G_stride 0 [some (eR 1), some (eI x)] [] (wC S, c) = some (.inl (some (eI ((strd d : Nat) : Int))), (wC S, c)) := by
  refine xLd (N := 4) (n := 24) (i := x) (F := fun zq => ev m_G_stride 6 [some (eR 1), some (eI x)] [eI (S 6 zq)] (wC S, c)) (k := k) rfl (wr_nat (by omega) (by omega)) (by omega) ?_
  refine xEq (N := 1) (x := S 6 k) (y := 0) (A := ev m_G_stride 14 [some (eR 1), some (eI x)] [] (wC S, c)) (B := ev m_G_stride 9 [some (eR 1), some (eI x)] [] (wC S, c)) rfl (wr_id (by omega) (by omega)) (show wr 0 = 0 by decide) (fun h6 => ?_) (fun h6 => ?_)
  · refine xSeg (N := 2) (r := some (.inl (some (eI 1)), (wC S, c))) rfl ?_
    first | exact lf (by unfold strd; rw [if_pos (by omega)]; rfl) | exact lf (by unfold strd; rw [if_neg (by omega)]; rfl)
  · refine xSeg (N := 3) (r := some (.inl (some (eI 6)), (wC S, c))) rfl ?_
    first | exact lf (by unfold strd; rw [if_pos (by omega)]; rfl) | exact lf (by unfold strd; rw [if_neg (by omega)]; rfl)
theorem c_placeIn {S : wS} {c : Nat × Nat} {x y : Int} {k d f e : Nat} (hx : x = (k : Int)) (hy : y = (e : Int)) (hk : k < 24) (g : S 6 k = (d : Int)) (hd : d ≤ 1) (gf : S 4 k = (f : Int)) (hf : f ≤ e) (he : e < 36) : ev m_G_placeIn 0 [some (eR 1), some (eI x), some (eI y)] [] (wC S, c) = some (.inl (some (eI (((e - f) / strd d : Nat) : Int))), (wC S, c)) := by
  refine xLd (N := 5) (n := 24) (i := x) (F := fun zq => ev m_G_placeIn 7 [some (eR 1), some (eI x), some (eI y)] [eI (S 4 zq), eI y] (wC S, c)) (k := k) rfl (wr_nat (by omega) (by omega)) (by omega) ?_
  refine xTop (N := 1) (pc2 := 8) (ls2 := [some (eR 1), some (eI x), some (eI y)]) (a := y - (S 4 k)) (b := ((e - f : Nat) : Int)) (st2 := []) (w2 := (wC S, c)) rfl (by omega) (fun z hz => ?_)
  refine xLd (N := 5) (n := 24) (i := x) (F := fun zq => ev m_G_placeIn 15 [some (eR 1), some (eI x), some (eI y), some (eI z)] [eI (S 6 zq)] (wC S, c)) (k := k) rfl (wr_nat (by omega) (by omega)) (by omega) ?_
  refine xEq (N := 1) (x := S 6 k) (y := 0) (A := ev m_G_placeIn 25 [some (eR 1), some (eI x), some (eI y), some (eI z)] [] (wC S, c)) (B := ev m_G_placeIn 18 [some (eR 1), some (eI x), some (eI y), some (eI z)] [] (wC S, c)) rfl (wr_id (by omega) (by omega)) (show wr 0 = 0 by decide) (fun h15 => ?_) (fun h15 => ?_)
  · refine xSeg (N := 2) (r := some (.inl (some (eI z)), (wC S, c))) rfl ?_
    first | exact lf (by rw [hz]; unfold strd; rw [if_pos (by omega), Nat.div_one]) | exact lf (by rw [hz, show (6 : Int) = ((6 : Nat) : Int) from rfl, bDiv_n (by omega) (by decide) (by decide)]; unfold strd; rw [if_neg (by omega)])
  · refine xNz (N := 3) (y := 6) (A := ev m_G_placeIn 22 [some (eR 1), some (eI x), some (eI y), some (eI z)] [eI (bDiv z 6)] (wC S, c)) rfl (by decide) ?_
    refine xSeg (N := 2) (r := some (.inl (some (eI (bDiv z 6))), (wC S, c))) rfl ?_
    first | exact lf (by rw [hz]; unfold strd; rw [if_pos (by omega), Nat.div_one]) | exact lf (by rw [hz, show (6 : Int) = ((6 : Nat) : Int) from rfl, bDiv_n (by omega) (by decide) (by decide)]; unfold strd; rw [if_neg (by omega)])
theorem c_countCrossings {S : wS} {c : Nat × Nat} {x : Int} {k L : Nat} {O : Nat → Nat} (hx : x = (k : Int)) (hk : k < 24) (g5 : S 5 k = (L : Int)) (hL : L ≤ 6) (g9 : ∀ p, p < L → S 9 (k * 6 + p) = (O p : Int) - 1 ∧ O p ≤ 24) : ev m_G_countCrossings 0 [some (eR 1), some (eI x)] [] (wC S, c) = some (.inl (some (eI ((fb_ct (fun p => decide (O p ≠ 0)) L : Nat) : Int))), (wC S, c)) := by
  have hl : ∀ p : Nat, p ≤ L → ∀ s y : Int, s = ((fb_ct (fun p => decide (O p ≠ 0)) p : Nat) : Int) → y = ((p : Nat) : Int) → ev m_G_countCrossings 4 [some (eR 1), some (eI x), some (eI s), some (eI y)] [] (wC S, c) = some (.inl (some (eI ((fb_ct (fun p => decide (O p ≠ 0)) L : Nat) : Int))), (wC S, c)) := by
    refine loop_up ?_ ?_
    · intro s y hs hy
      refine xLd (N := 5) (n := 24) (i := x) (F := fun zq => ev m_G_countCrossings 11 [some (eR 1), some (eI x), some (eI s), some (eI y)] [eI (S 5 zq), eI y] (wC S, c)) (k := k) rfl (wr_nat (by omega) (by omega)) (by omega) ?_
      refine xLtF (N := 1) (x := y) (y := S 5 k) (A := ev m_G_countCrossings 14 [some (eR 1), some (eI x), some (eI s), some (eI y)] [] (wC S, c)) (B := ev m_G_countCrossings 38 [some (eR 1), some (eI x), some (eI s), some (eI y)] [] (wC S, c)) rfl (wr_id (by omega) (by omega)) (wr_id (by omega) (by omega)) (by omega) ?_
      refine xSeg (N := 2) (r := some (.inl (some (eI s)), (wC S, c))) rfl ?_
      rw [hs]
    · intro p hp ih s y hs hy
      have hb := g9 p hp
      have hc := fb_ct_le (fun p => decide (O p ≠ 0)) p
      refine xLd (N := 5) (n := 24) (i := x) (F := fun zq => ev m_G_countCrossings 11 [some (eR 1), some (eI x), some (eI s), some (eI y)] [eI (S 5 zq), eI y] (wC S, c)) (k := k) rfl (wr_nat (by omega) (by omega)) (by omega) ?_
      refine xLtT (N := 1) (x := y) (y := S 5 k) (A := ev m_G_countCrossings 14 [some (eR 1), some (eI x), some (eI s), some (eI y)] [] (wC S, c)) (B := ev m_G_countCrossings 38 [some (eR 1), some (eI x), some (eI s), some (eI y)] [] (wC S, c)) rfl (wr_id (by omega) (by omega)) (wr_id (by omega) (by omega)) (by omega) ?_
      refine xLd (N := 8) (n := 144) (i := (x * 6) + y) (F := fun zq => ev m_G_countCrossings 25 [some (eR 1), some (eI x), some (eI s), some (eI y)] [eI (S 9 zq)] (wC S, c)) (k := (k * 6) + p) rfl (wr_nat (by omega) (by omega)) (by omega) ?_
      refine xEq (N := 2) (x := S 9 ((k * 6) + p)) (y := (-1)) (A := ev m_G_countCrossings 32 [some (eR 1), some (eI x), some (eI s), some (eI y)] [] (wC S, c)) (B := ev m_G_countCrossings 29 [some (eR 1), some (eI x), some (eI s), some (eI y)] [] (wC S, c)) rfl (wr_id (by omega) (by omega)) (show wr (-1) = (-1) by decide) (fun h26 => ?_) (fun h26 => ?_)
      · refine xSeg (N := 2) (r := ev m_G_countCrossings 4 [some (eR 1), some (eI x), some (eI s), some (eI (y + 1))] [] (wC S, c)) rfl ?_
        first | exact ih _ _ (by rw [ct_F (decide_eq_false (by omega))]; exact hs) (by omega) | exact ih _ _ (by rw [ct_T (decide_eq_true (by omega))]; omega) (by omega)
      · refine xSeg (N := 3) (r := ev m_G_countCrossings 4 [some (eR 1), some (eI x), some (eI (s + 1)), some (eI (y + 1))] [] (wC S, c)) rfl ?_
        first | exact ih _ _ (by rw [ct_F (decide_eq_false (by omega))]; exact hs) (by omega) | exact ih _ _ (by rw [ct_T (decide_eq_true (by omega))]; omega) (by omega)
  refine xSeg (N := 4) (r := ev m_G_countCrossings 4 [some (eR 1), some (eI x), some (eI 0), some (eI 0)] [] (wC S, c)) rfl ?_
  exact hl 0 (Nat.zero_le _) _ _ rfl rfl
theorem c_findCrossing {S : wS} {c : Nat × Nat} {x i : Int} {k L : Nat} {O : Nat → Nat} (hx : x = (k : Int)) (hk : k < 24) (bi : -2147483648 ≤ i ∧ i < 2147483648) (g5 : S 5 k = (L : Int)) (hL : L ≤ 6) (g9 : ∀ p, p < L → S 9 (k * 6 + p) = (O p : Int) - 1 ∧ O p ≤ 24) : ev m_G_findCrossing 0 [some (eR 1), some (eI x), some (eI i)] [] (wC S, c) = some (.inl (some (eI (fnd (fun p => decide (O p ≠ 0 ∧ ((fb_ct (fun p => decide (O p ≠ 0)) p : Nat) : Int) = i)) L 0))), (wC S, c)) := by
  have hl : ∀ p : Nat, p ≤ L → ∀ s y : Int, s = ((fb_ct (fun p => decide (O p ≠ 0)) p : Nat) : Int) → y = ((p : Nat) : Int) → ev m_G_findCrossing 5 [some (eR 1), some (eI x), some (eI i), some (eI s), some (eI y)] [] (wC S, c) = some (.inl (some (eI (fnd (fun p => decide (O p ≠ 0 ∧ ((fb_ct (fun p => decide (O p ≠ 0)) p : Nat) : Int) = i)) (L - p) p))), (wC S, c)) := by
    refine loop_up ?_ ?_
    · intro s y hs hy
      rw [Nat.sub_self]
      refine xLd (N := 5) (n := 24) (i := x) (F := fun zq => ev m_G_findCrossing 13 [some (eR 1), some (eI x), some (eI i), some (eI s), some (eI y)] [eI (S 5 zq), eI y] (wC S, c)) (k := k) rfl (wr_nat (by omega) (by omega)) (by omega) ?_
      refine xLtF (N := 1) (x := y) (y := S 5 k) (A := ev m_G_findCrossing 16 [some (eR 1), some (eI x), some (eI i), some (eI s), some (eI y)] [] (wC S, c)) (B := ev m_G_findCrossing 49 [some (eR 1), some (eI x), some (eI i), some (eI s), some (eI y)] [] (wC S, c)) rfl (wr_id (by omega) (by omega)) (wr_id (by omega) (by omega)) (by omega) ?_
      refine xSeg (N := 2) (r := some (.inl (some (eI (-1))), (wC S, c))) rfl ?_
      rfl
    · intro p hp ih s y hs hy
      have hb := g9 p hp
      have hc := fb_ct_le (fun p => decide (O p ≠ 0)) p
      rw [show L - p = (L - (p + 1)) + 1 by omega]
      refine xLd (N := 5) (n := 24) (i := x) (F := fun zq => ev m_G_findCrossing 13 [some (eR 1), some (eI x), some (eI i), some (eI s), some (eI y)] [eI (S 5 zq), eI y] (wC S, c)) (k := k) rfl (wr_nat (by omega) (by omega)) (by omega) ?_
      refine xLtT (N := 1) (x := y) (y := S 5 k) (A := ev m_G_findCrossing 16 [some (eR 1), some (eI x), some (eI i), some (eI s), some (eI y)] [] (wC S, c)) (B := ev m_G_findCrossing 49 [some (eR 1), some (eI x), some (eI i), some (eI s), some (eI y)] [] (wC S, c)) rfl (wr_id (by omega) (by omega)) (wr_id (by omega) (by omega)) (by omega) ?_
      refine xLd (N := 8) (n := 144) (i := (x * 6) + y) (F := fun zq => ev m_G_findCrossing 28 [some (eR 1), some (eI x), some (eI i), some (eI s), some (eI y)] [eI (S 9 zq)] (wC S, c)) (k := (k * 6) + p) rfl (wr_nat (by omega) (by omega)) (by omega) ?_
      refine xEq (N := 2) (x := S 9 ((k * 6) + p)) (y := (-1)) (A := ev m_G_findCrossing 43 [some (eR 1), some (eI x), some (eI i), some (eI s), some (eI y)] [] (wC S, c)) (B := ev m_G_findCrossing 32 [some (eR 1), some (eI x), some (eI i), some (eI s), some (eI y)] [] (wC S, c)) rfl (wr_id (by omega) (by omega)) (show wr (-1) = (-1) by decide) (fun h29 => ?_) (fun h29 => ?_)
      · refine xSeg (N := 2) (r := ev m_G_findCrossing 5 [some (eR 1), some (eI x), some (eI i), some (eI s), some (eI (y + 1))] [] (wC S, c)) rfl ?_
        first | exact (ih _ _ (by rw [ct_F (decide_eq_false (by omega))]; exact hs) (by omega)).trans (by rw [fnd_F (decide_eq_false (by omega))]) | exact (ih _ _ (by rw [ct_T (decide_eq_true (by omega))]; omega) (by omega)).trans (by rw [fnd_F (decide_eq_false (by omega))])
      · refine xEq (N := 3) (x := s) (y := i) (A := ev m_G_findCrossing 37 [some (eR 1), some (eI x), some (eI i), some (eI s), some (eI y)] [] (wC S, c)) (B := ev m_G_findCrossing 40 [some (eR 1), some (eI x), some (eI i), some (eI s), some (eI y)] [] (wC S, c)) rfl (wr_id (by omega) (by omega)) (wr_id (by omega) (by omega)) (fun h34 => ?_) (fun h34 => ?_)
        · refine xSeg (N := 2) (r := some (.inl (some (eI y)), (wC S, c))) rfl ?_
          rw [fnd_T (decide_eq_true (by omega)), hy]
        · refine xSeg (N := 3) (r := ev m_G_findCrossing 5 [some (eR 1), some (eI x), some (eI i), some (eI (s + 1)), some (eI (y + 1))] [] (wC S, c)) rfl ?_
          first | exact (ih _ _ (by rw [ct_F (decide_eq_false (by omega))]; exact hs) (by omega)).trans (by rw [fnd_F (decide_eq_false (by omega))]) | exact (ih _ _ (by rw [ct_T (decide_eq_true (by omega))]; omega) (by omega)).trans (by rw [fnd_F (decide_eq_false (by omega))])
  refine xSeg (N := 4) (r := ev m_G_findCrossing 5 [some (eR 1), some (eI x), some (eI i), some (eI 0), some (eI 0)] [] (wC S, c)) rfl ?_
  exact hl 0 (Nat.zero_le _) _ _ rfl rfl
theorem c_hasGiven {S : wS} {c : Nat × Nat} {G : Nat → Nat} (g3 : ∀ k, k < 36 → S 3 k = (G k : Int) ∧ G k < 128) : ev m_G_hasGiven 0 [some (eR 1)] [] (wC S, c) = some (.inl (some (eI (bI (anyN (fun k => decide (G k ≠ 0)) 36)))), (wC S, c)) := by
  have hl : ∀ p : Nat, p ≤ 36 → ∀ y : Int, y = (p : Int) → (∀ k, k < p → G k = 0) → ev m_G_hasGiven 2 [some (eR 1), some (eI y)] [] (wC S, c) = some (.inl (some (eI (bI (anyN (fun k => decide (G k ≠ 0)) 36)))), (wC S, c)) := by
    refine loop_up ?_ ?_
    · intro y hy ha
      refine xLtF (N := 3) (x := y) (y := 36) (A := ev m_G_hasGiven 8 [some (eR 1), some (eI y)] [] (wC S, c)) (B := ev m_G_hasGiven 25 [some (eR 1), some (eI y)] [] (wC S, c)) rfl (wr_id (by omega) (by omega)) (show wr 36 = 36 by decide) (by omega) ?_
      refine xRb (N := 2) (v := 0) (w2 := (wC S, c)) rfl (by decide) ?_
      exact lf (bF (anyN_F (fun k hk => decide_eq_false (by have := ha k hk; omega))))
    · intro p hp ih y hy ha
      have hb := g3 p hp
      refine xLtT (N := 3) (x := y) (y := 36) (A := ev m_G_hasGiven 8 [some (eR 1), some (eI y)] [] (wC S, c)) (B := ev m_G_hasGiven 25 [some (eR 1), some (eI y)] [] (wC S, c)) rfl (wr_id (by omega) (by omega)) (show wr 36 = 36 by decide) (by omega) ?_
      refine xLd (N := 4) (n := 36) (i := y) (F := fun zq => ev m_G_hasGiven 14 [some (eR 1), some (eI y)] [eI (S 3 zq)] (wC S, c)) (k := p) rfl (wr_nat (by omega) (by omega)) (by omega) ?_
      refine xEq (N := 1) (x := S 3 p) (y := 0) (A := ev m_G_hasGiven 19 [some (eR 1), some (eI y)] [] (wC S, c)) (B := ev m_G_hasGiven 17 [some (eR 1), some (eI y)] [] (wC S, c)) rfl (wr_id (by omega) (by omega)) (show wr 0 = 0 by decide) (fun h14 => ?_) (fun h14 => ?_)
      · refine xSeg (N := 2) (r := ev m_G_hasGiven 2 [some (eR 1), some (eI (y + 1))] [] (wC S, c)) rfl ?_
        refine ih _ (by omega) (fun k hk => ?_)
        by_cases hkp : k = p
        · subst hkp; omega
        · exact ha k (by omega)
      · refine xRb (N := 2) (v := 1) (w2 := (wC S, c)) rfl (by decide) ?_
        exact lf (bT (anyN_iff.mpr ⟨p, hp, decide_eq_true (by omega)⟩))
  refine xSeg (N := 2) (r := ev m_G_hasGiven 2 [some (eR 1), some (eI 0)] [] (wC S, c)) rfl ?_
  exact hl 0 (Nat.zero_le _) _ rfl (fun k hk => absurd hk (by omega))
/-- over the cells of the grid, row by row -/
def sumG (W : Nat) (f : Nat → Nat → Nat) (H : Nat) : Nat := fb_sm (fun y => fb_sm (fun x => f x y) W) H
theorem c_countOpen {S : wS} {c : Nat × Nat} {W H : Nat} {B : Nat → Nat} (g0 : S 1 0 = (W : Int)) (g1 : S 1 1 = (H : Int)) (gW : W < 7) (gH : H < 7) (gB : ∀ k, k < 36 → S 2 k = (B k : Int) ∧ B k ≤ 1) : ev m_G_countOpen 0 [some (eR 1)] [] (wC S, c) = some (.inl (some (eI ((sumG W (fun x y => if B (y * 6 + x) = 0 then 1 else 0) H : Nat) : Int))), (wC S, c)) := by
  have hi : ∀ (j : Nat) (v : Int), j < H → v = (j : Int) → ∀ (s0 : Nat) (R : eRes), (∀ (s x : Int), s = ((s0 + fb_sm (fun x => if B (j * 6 + x) = 0 then 1 else 0) W : Nat) : Int) → ev m_G_countOpen 4 [some (eR 1), some (eI s), some (eI (v + 1))] [] (wC S, c) = R) → ∀ p : Nat, p ≤ W → ∀ s y : Int, s = ((s0 + fb_sm (fun x => if B (j * 6 + x) = 0 then 1 else 0) p : Nat) : Int) → y = (p : Int) → ev m_G_countOpen 14 [some (eR 1), some (eI s), some (eI v), some (eI y)] [] (wC S, c) = R := by
    intro j v hj hv s0 R hR
    refine loop_up ?_ ?_
    · intro s y hs hy
      refine xLtF (N := 4) (x := y) (y := S 1 0) (A := ev m_G_countOpen 22 [some (eR 1), some (eI s), some (eI v), some (eI y)] [] (wC S, c)) (B := ev m_G_countOpen 44 [some (eR 1), some (eI s), some (eI v), some (eI y)] [] (wC S, c)) rfl (wr_id (by omega) (by omega)) (wr_id (by omega) (by omega)) (by omega) ?_
      refine xSeg (N := 2) (r := ev m_G_countOpen 4 [some (eR 1), some (eI s), some (eI (v + 1)), some (eI y)] [] (wC S, c)) rfl ?_
      refine xTk 3 (by rfl) rfl ?_
      exact hR s y hs
    · intro p hp ih s y hs hy
      have hb := gB (j * 6 + p) (by omega)
      have hs2 := fb_sm_succ (fun x => if B (j * 6 + x) = 0 then 1 else 0) p
      refine xLtT (N := 4) (x := y) (y := S 1 0) (A := ev m_G_countOpen 22 [some (eR 1), some (eI s), some (eI v), some (eI y)] [] (wC S, c)) (B := ev m_G_countOpen 44 [some (eR 1), some (eI s), some (eI v), some (eI y)] [] (wC S, c)) rfl (wr_id (by omega) (by omega)) (wr_id (by omega) (by omega)) (by omega) ?_
      refine xCallI (N := 5) (M2 := m_G_countOpen) (pc2 := 28) (ls2 := [some (eR 1), some (eI s), some (eI v), some (eI y)]) (st2 := [eR 2]) (y := m_G_cell) (as := [some (eI y), some (eI v)]) (w2 := (wC S, c)) rfl c_cell (fun r28 hr28 => ?_)
      refine xLd (N := 1) (n := 36) (i := r28) (F := fun zq => ev m_G_countOpen 32 [some (eR 1), some (eI s), some (eI v), some (eI y)] [eI (S 2 zq)] (wC S, c)) (k := j * 6 + p) rfl (wr_nat (by omega) (by omega)) (by omega) ?_
      refine xEq (N := 1) (x := S 2 (j * 6 + p)) (y := 0) (A := ev m_G_countOpen 35 [some (eR 1), some (eI s), some (eI v), some (eI y)] [] (wC S, c)) (B := ev m_G_countOpen 38 [some (eR 1), some (eI s), some (eI v), some (eI y)] [] (wC S, c)) rfl (wr_id (by omega) (by omega)) (show wr 0 = 0 by decide) (fun h32 => ?_) (fun h32 => ?_)
      · refine xSeg (N := 3) (r := ev m_G_countOpen 14 [some (eR 1), some (eI (s + 1)), some (eI v), some (eI (y + 1))] [] (wC S, c)) rfl ?_
        first | exact ih _ _ (by rw [hs2, if_pos (by omega)]; omega) (by omega) | exact ih _ _ (by rw [hs2, if_neg (by omega)]; omega) (by omega)
      · refine xSeg (N := 2) (r := ev m_G_countOpen 14 [some (eR 1), some (eI s), some (eI v), some (eI (y + 1))] [] (wC S, c)) rfl ?_
        first | exact ih _ _ (by rw [hs2, if_pos (by omega)]; omega) (by omega) | exact ih _ _ (by rw [hs2, if_neg (by omega)]; omega) (by omega)
  have hl : ∀ j : Nat, j ≤ H → ∀ s v : Int, s = ((sumG W (fun x y => if B (y * 6 + x) = 0 then 1 else 0) j : Nat) : Int) → v = ((j : Nat) : Int) → ev m_G_countOpen 4 [some (eR 1), some (eI s), some (eI v)] [] (wC S, c) = some (.inl (some (eI ((sumG W (fun x y => if B (y * 6 + x) = 0 then 1 else 0) H : Nat) : Int))), (wC S, c)) := by
    refine loop_up ?_ ?_
    · intro s v hs hv
      refine xLtF (N := 4) (x := v) (y := S 1 1) (A := ev m_G_countOpen 12 [some (eR 1), some (eI s), some (eI v)] [] (wC S, c)) (B := ev m_G_countOpen 50 [some (eR 1), some (eI s), some (eI v)] [] (wC S, c)) rfl (wr_id (by omega) (by omega)) (wr_id (by omega) (by omega)) (by omega) ?_
      refine xSeg (N := 2) (r := some (.inl (some (eI s)), (wC S, c))) rfl ?_
      rw [hs]
    · intro j hj ih s v hs hv
      refine xLtT (N := 4) (x := v) (y := S 1 1) (A := ev m_G_countOpen 12 [some (eR 1), some (eI s), some (eI v)] [] (wC S, c)) (B := ev m_G_countOpen 50 [some (eR 1), some (eI s), some (eI v)] [] (wC S, c)) rfl (wr_id (by omega) (by omega)) (wr_id (by omega) (by omega)) (by omega) ?_
      refine xSeg (N := 2) (r := ev m_G_countOpen 14 [some (eR 1), some (eI s), some (eI v), some (eI 0)] [] (wC S, c)) rfl ?_
      exact hi j v hj hv (sumG W (fun x y => if B (y * 6 + x) = 0 then 1 else 0) j) _ (fun s2 x2 h2 => ih _ _ h2 (by omega)) 0 (Nat.zero_le _) _ _ hs rfl
  refine xSeg (N := 4) (r := ev m_G_countOpen 4 [some (eR 1), some (eI 0), some (eI 0)] [] (wC S, c)) rfl ?_
  exact hl 0 (Nat.zero_le _) _ _ rfl rfl
/-! words: the number of words that hold a letter, prizes, the finding of a word -/
theorem c_letterPrize {S : wS} {c : Nat × Nat} {x : Int} {k h : Nat} (hx : x = (k : Int)) (hk : k < 26) (g : S 14 k = (h : Int)) (hh : h ≤ 30) : ev m_V_letterPrize 0 [some (eR 11), some (eI x)] [] (wC S, c) = some (.inl (some (eI ((max 1 (10 - h) : Nat) : Int))), (wC S, c)) := by
  refine xLd (N := 6) (n := 26) (i := x) (F := fun zq => ev m_V_letterPrize 9 [some (eR 11), some (eI x)] [eI (S 14 zq), eI 10, eI 1] (wC S, c)) (k := k) rfl (wr_nat (by omega) (by omega)) (by omega) ?_
  refine xSeg (N := 3) (r := some (.inl (some (eI (if wr 1 < wr (10 - (S 14 k)) then 10 - (S 14 k) else 1))), (wC S, c))) rfl ?_
  refine lf ?_
  rw [wr_id (by omega) (by omega), wr_id (by omega) (by omega)]
  split <;> omega
theorem c_prize {S : wS} {c : Nat × Nat} {x : Int} {k L : Nat} {f hd : Nat → Nat} (hx : x = (k : Int)) (hk : k < 30) (g12 : S 12 k = (L : Int)) (hL : L ≤ 6) (g13 : ∀ p, p < L → S 13 (k * 6 + p) = (f p : Int) ∧ f p < 26) (g14 : ∀ l, l < 26 → S 14 l = (hd l : Int) ∧ hd l ≤ 30) : ev m_V_prize 0 [some (eR 11), some (eI x)] [] (wC S, c) = some (.inl (some (eI ((fb_sm (fun p => max 1 (10 - hd (f p))) L : Nat) : Int))), (wC S, c)) := by
  have hl : ∀ p : Nat, p ≤ L → ∀ s y : Int, s = ((fb_sm (fun p => max 1 (10 - hd (f p))) p : Nat) : Int) → y = ((p : Nat) : Int) → ev m_V_prize 4 [some (eR 11), some (eI x), some (eI s), some (eI y)] [] (wC S, c) = some (.inl (some (eI ((fb_sm (fun p => max 1 (10 - hd (f p))) L : Nat) : Int))), (wC S, c)) := by
    refine loop_up ?_ ?_
    · intro s y hs hy
      refine xLd (N := 5) (n := 30) (i := x) (F := fun zq => ev m_V_prize 11 [some (eR 11), some (eI x), some (eI s), some (eI y)] [eI (S 12 zq), eI y] (wC S, c)) (k := k) rfl (wr_nat (by omega) (by omega)) (by omega) ?_
      refine xLtF (N := 1) (x := y) (y := S 12 k) (A := ev m_V_prize 14 [some (eR 11), some (eI x), some (eI s), some (eI y)] [] (wC S, c)) (B := ev m_V_prize 38 [some (eR 11), some (eI x), some (eI s), some (eI y)] [] (wC S, c)) rfl (wr_id (by omega) (by omega)) (wr_id (by omega) (by omega)) (by omega) ?_
      refine xSeg (N := 2) (r := some (.inl (some (eI s)), (wC S, c))) rfl ?_
      rw [hs]
    · intro p hp ih s y hs hy
      have hb := g13 p hp
      have hd2 := g14 (f p) hb.2
      have hs2 := fb_sm_succ (fun p => max 1 (10 - hd (f p))) p
      refine xLd (N := 5) (n := 30) (i := x) (F := fun zq => ev m_V_prize 11 [some (eR 11), some (eI x), some (eI s), some (eI y)] [eI (S 12 zq), eI y] (wC S, c)) (k := k) rfl (wr_nat (by omega) (by omega)) (by omega) ?_
      refine xLtT (N := 1) (x := y) (y := S 12 k) (A := ev m_V_prize 14 [some (eR 11), some (eI x), some (eI s), some (eI y)] [] (wC S, c)) (B := ev m_V_prize 38 [some (eR 11), some (eI x), some (eI s), some (eI y)] [] (wC S, c)) rfl (wr_id (by omega) (by omega)) (wr_id (by omega) (by omega)) (by omega) ?_
      refine xLd (N := 10) (n := 180) (i := (x * 6) + y) (F := fun zq => ev m_V_prize 27 [some (eR 11), some (eI x), some (eI s), some (eI y)] [eI (S 13 zq), eR 11, eI s] (wC S, c)) (k := (k * 6) + p) rfl (wr_nat (by omega) (by omega)) (by omega) ?_
      refine xCallWI (N := 1) (M2 := m_V_prize) (pc2 := 27) (ls2 := [some (eR 11), some (eI x), some (eI s), some (eI y)]) (st2 := [eI s]) (y := m_V_letterPrize) (as := [some (eR 11), some (eI (S 13 ((k * 6) + p)))]) (w2 := (wC S, c)) rfl (c_letterPrize (k := f p) hb.1 hb.2 hd2.1 hd2.2) (fun r27 hr27 => ?_)
      refine xSeg (N := 4) (r := ev m_V_prize 4 [some (eR 11), some (eI x), some (eI (s + r27)), some (eI (y + 1))] [] (wC S, c)) rfl ?_
      exact ih _ _ (by rw [hs2]; omega) (by omega)
  refine xSeg (N := 4) (r := ev m_V_prize 4 [some (eR 11), some (eI x), some (eI 0), some (eI 0)] [] (wC S, c)) rfl ?_
  exact hl 0 (Nat.zero_le _) _ _ rfl rfl
/-- text from a place on is the word of the letters f -/
theorem c_isAt {S : wS} {c : Nat × Nat} {x v : Int} {k L F n : Nat} {f tx : Nat → Nat} {t : Nat → Int} (hx : x = (k : Int)) (hv : v = (F : Int)) (hk : k < 30) (g12 : S 12 k = (L : Int)) (hL : L ≤ 6) (g13 : ∀ p, p < L → S 13 (k * 6 + p) = (f p : Int) ∧ f p < 26) (hF : F + L ≤ n) (hn : n ≤ 600) (ht : ∀ i, i < n → t i = (tx i : Int) ∧ tx i < 256) : ev m_V_isAt 0 [some (eR 11), some (eI x), some (eR 20), some (eI v)] [] (wC S ++ [eA 0 n t], c) = some (.inl (some (eI (bI (allN (fun p => decide (tx (F + p) = 97 + f p)) L)))), (wC S ++ [eA 0 n t], c)) := by
  have hl : ∀ p : Nat, p ≤ L → ∀ y : Int, y = (p : Int) → (∀ q, q < p → tx (F + q) = 97 + f q) → ev m_V_isAt 3 [some (eR 11), some (eI x), some (eR 20), some (eI v), some (eI y)] [] (wC S ++ [eA 0 n t], c) = some (.inl (some (eI (bI (allN (fun p => decide (tx (F + p) = 97 + f p)) L)))), (wC S ++ [eA 0 n t], c)) := by
    refine loop_up ?_ ?_
    · intro y hy ha
      refine xLd (N := 5) (n := 30) (i := x) (F := fun zq => ev m_V_isAt 11 [some (eR 11), some (eI x), some (eR 20), some (eI v), some (eI y)] [eI (S 12 zq), eI y] (wC S ++ [eA 0 n t], c)) (k := k) rfl (wr_nat (by omega) (by omega)) (by omega) ?_
      refine xLtF (N := 1) (x := y) (y := S 12 k) (A := ev m_V_isAt 14 [some (eR 11), some (eI x), some (eR 20), some (eI v), some (eI y)] [] (wC S ++ [eA 0 n t], c)) (B := ev m_V_isAt 46 [some (eR 11), some (eI x), some (eR 20), some (eI v), some (eI y)] [] (wC S ++ [eA 0 n t], c)) rfl (wr_id (by omega) (by omega)) (wr_id (by omega) (by omega)) (by omega) ?_
      refine xRb (N := 2) (v := 1) (w2 := (wC S ++ [eA 0 n t], c)) rfl (by decide) ?_
      exact lf (bT (allN_iff.mpr (fun q hq => decide_eq_true (ha q hq))))
    · intro p hp ih y hy ha
      have hb := g13 p hp
      have hc := ht (F + p) (by omega)
      refine xLd (N := 5) (n := 30) (i := x) (F := fun zq => ev m_V_isAt 11 [some (eR 11), some (eI x), some (eR 20), some (eI v), some (eI y)] [eI (S 12 zq), eI y] (wC S ++ [eA 0 n t], c)) (k := k) rfl (wr_nat (by omega) (by omega)) (by omega) ?_
      refine xLtT (N := 1) (x := y) (y := S 12 k) (A := ev m_V_isAt 14 [some (eR 11), some (eI x), some (eR 20), some (eI v), some (eI y)] [] (wC S ++ [eA 0 n t], c)) (B := ev m_V_isAt 46 [some (eR 11), some (eI x), some (eR 20), some (eI v), some (eI y)] [] (wC S ++ [eA 0 n t], c)) rfl (wr_id (by omega) (by omega)) (wr_id (by omega) (by omega)) (by omega) ?_
      refine xLd (N := 5) (n := n) (i := v + y) (F := fun zq => ev m_V_isAt 20 [some (eR 11), some (eI x), some (eR 20), some (eI v), some (eI y)] [eI (t zq)] (wC S ++ [eA 0 n t], c)) (k := F + p) rfl (wr_nat (by omega) (by omega)) (by omega) ?_
      refine xLd (N := 10) (n := 180) (i := (x * 6) + y) (F := fun zq => ev m_V_isAt 35 [some (eR 11), some (eI x), some (eR 20), some (eI v), some (eI y)] [eI (S 13 zq), eI ((t (F + p)) - 97)] (wC S ++ [eA 0 n t], c)) (k := (k * 6) + p) rfl (wr_nat (by omega) (by omega)) (by omega) ?_
      refine xEq (N := 1) (x := (t (F + p)) - 97) (y := S 13 ((k * 6) + p)) (A := ev m_V_isAt 40 [some (eR 11), some (eI x), some (eR 20), some (eI v), some (eI y)] [] (wC S ++ [eA 0 n t], c)) (B := ev m_V_isAt 38 [some (eR 11), some (eI x), some (eR 20), some (eI v), some (eI y)] [] (wC S ++ [eA 0 n t], c)) rfl (wr_id (by omega) (by omega)) (wr_id (by omega) (by omega)) (fun h35 => ?_) (fun h35 => ?_)
      · refine xSeg (N := 2) (r := ev m_V_isAt 3 [some (eR 11), some (eI x), some (eR 20), some (eI v), some (eI (y + 1))] [] (wC S ++ [eA 0 n t], c)) rfl ?_
        refine ih _ (by omega) (fun q hq => ?_)
        by_cases hqp : q = p
        · subst hqp; omega
        · exact ha q (by omega)
      · refine xRb (N := 2) (v := 0) (w2 := (wC S ++ [eA 0 n t], c)) rfl (by decide) ?_
        exact lf (bF (allN_F hp (decide_eq_false (by omega))))
  refine xSeg (N := 2) (r := ev m_V_isAt 3 [some (eR 11), some (eI x), some (eR 20), some (eI v), some (eI 0)] [] (wC S ++ [eA 0 n t], c)) rfl ?_
  exact hl 0 (Nat.zero_le _) _ rfl (fun k hk => absurd hk (by omega))
/-- the word of L letters from F on: its number, or -1 -/
theorem c_find {S : wS} {c : Nat × Nat} {v z : Int} {m F L n : Nat} {wl tx : Nat → Nat} {f : Nat → Nat → Nat} {t : Nat → Int} (g11 : S 11 0 = (m : Int)) (hm : m ≤ 30) (g12 : ∀ k, k < m → S 12 k = (wl k : Int) ∧ wl k ≤ 6) (g13 : ∀ k p, k < m → p < wl k → S 13 (k * 6 + p) = (f k p : Int) ∧ f k p < 26) (hv : v = (F : Int)) (hz : z = (L : Int)) (hF : F + L ≤ n) (hn : n ≤ 600) (ht : ∀ i, i < n → t i = (tx i : Int) ∧ tx i < 256) : ev m_V_find 0 [some (eR 11), some (eR 20), some (eI v), some (eI z)] [] (wC S ++ [eA 0 n t], c) = some (.inl (some (eI (fnd (fun k => decide (wl k = L) && allN (fun p => decide (tx (F + p) = 97 + f k p)) L) m 0))), (wC S ++ [eA 0 n t], c)) := by
  have hl : ∀ p : Nat, p ≤ m → ∀ y : Int, y = ((p : Nat) : Int) → ev m_V_find 3 [some (eR 11), some (eR 20), some (eI v), some (eI z), some (eI y)] [] (wC S ++ [eA 0 n t], c) = some (.inl (some (eI (fnd (fun k => decide (wl k = L) && allN (fun p => decide (tx (F + p) = 97 + f k p)) L) (m - p) p))), (wC S ++ [eA 0 n t], c)) := by
    refine loop_up ?_ ?_
    · intro y hy
      rw [Nat.sub_self]
      refine xLtF (N := 4) (x := y) (y := S 11 0) (A := ev m_V_find 12 [some (eR 11), some (eR 20), some (eI v), some (eI z), some (eI y)] [] (wC S ++ [eA 0 n t], c)) (B := ev m_V_find 43 [some (eR 11), some (eR 20), some (eI v), some (eI z), some (eI y)] [] (wC S ++ [eA 0 n t], c)) rfl (wr_id (by omega) (by omega)) (wr_id (by omega) (by omega)) (by omega) ?_
      refine xSeg (N := 2) (r := some (.inl (some (eI (-1))), (wC S ++ [eA 0 n t], c))) rfl ?_
      rfl
    · intro p hp ih y hy
      have hb := g12 p hp
      have hc := fun q => g13 p q hp
      rw [show m - p = (m - (p + 1)) + 1 by omega]
      refine xLtT (N := 4) (x := y) (y := S 11 0) (A := ev m_V_find 12 [some (eR 11), some (eR 20), some (eI v), some (eI z), some (eI y)] [] (wC S ++ [eA 0 n t], c)) (B := ev m_V_find 43 [some (eR 11), some (eR 20), some (eI v), some (eI z), some (eI y)] [] (wC S ++ [eA 0 n t], c)) rfl (wr_id (by omega) (by omega)) (wr_id (by omega) (by omega)) (by omega) ?_
      refine xLd (N := 4) (n := 30) (i := y) (F := fun zq => ev m_V_find 19 [some (eR 11), some (eR 20), some (eI v), some (eI z), some (eI y)] [eI (S 12 zq)] (wC S ++ [eA 0 n t], c)) (k := p) rfl (wr_nat (by omega) (by omega)) (by omega) ?_
      refine xEq (N := 2) (x := S 12 p) (y := z) (A := ev m_V_find 23 [some (eR 11), some (eR 20), some (eI v), some (eI z), some (eI y)] [] (wC S ++ [eA 0 n t], c)) (B := ev m_V_find 37 [some (eR 11), some (eR 20), some (eI v), some (eI z), some (eI y)] [] (wC S ++ [eA 0 n t], c)) rfl (wr_id (by omega) (by omega)) (wr_id (by omega) (by omega)) (fun h20 => ?_) (fun h20 => ?_)
      · refine xCallWI (N := 5) (M2 := m_V_find) (pc2 := 28) (ls2 := [some (eR 11), some (eR 20), some (eI v), some (eI z), some (eI y)]) (st2 := []) (y := m_V_isAt) (as := [some (eR 11), some (eI y), some (eR 20), some (eI v)]) (w2 := (wC S ++ [eA 0 n t], c)) rfl (c_isAt hy hv (by omega) hb.1 hb.2 hc (by omega) hn ht) (fun r28 hr28 => ?_)
        have hq := bI_1 hr28
        have he : wl p = L := by omega
        rw [he] at hq
        refine xEq (N := 1) (x := r28) (y := 0) (A := ev m_V_find 37 [some (eR 11), some (eR 20), some (eI v), some (eI z), some (eI y)] [] (wC S ++ [eA 0 n t], c)) (B := ev m_V_find 34 [some (eR 11), some (eR 20), some (eI v), some (eI z), some (eI y)] [] (wC S ++ [eA 0 n t], c)) rfl (wr_id (by omega) (by omega)) (show wr 0 = 0 by decide) (fun h31 => ?_) (fun h31 => ?_)
        · refine xSeg (N := 2) (r := ev m_V_find 3 [some (eR 11), some (eR 20), some (eI v), some (eI z), some (eI (y + 1))] [] (wC S ++ [eA 0 n t], c)) rfl ?_
          first | exact (ih _ (by omega)).trans (by rw [fnd_F (by rw [hq.2.2.mp (by omega), Bool.and_false])]) | exact (ih _ (by omega)).trans (by rw [fnd_F (by rw [decide_eq_false (by omega), Bool.false_and])])
        · refine xSeg (N := 2) (r := some (.inl (some (eI y)), (wC S ++ [eA 0 n t], c))) rfl ?_
          rw [fnd_T (by simp only [Bool.and_eq_true]; exact ⟨decide_eq_true he, hq.2.1.mp (by omega)⟩), hy]
      · refine xSeg (N := 2) (r := ev m_V_find 3 [some (eR 11), some (eR 20), some (eI v), some (eI z), some (eI (y + 1))] [] (wC S ++ [eA 0 n t], c)) rfl ?_
        first | exact (ih _ (by omega)).trans (by rw [fnd_F (by rw [hq.2.2.mp (by omega), Bool.and_false])]) | exact (ih _ (by omega)).trans (by rw [fnd_F (by rw [decide_eq_false (by omega), Bool.false_and])])
  refine xSeg (N := 2) (r := ev m_V_find 3 [some (eR 11), some (eR 20), some (eI v), some (eI z), some (eI 0)] [] (wC S ++ [eA 0 n t], c)) rfl ?_
  exact hl 0 (Nat.zero_le _) _ rfl
