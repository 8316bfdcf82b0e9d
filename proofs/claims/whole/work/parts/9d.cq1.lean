/-! The class's questions. -/
def xO (P : Nat → Int) : eC := eO 6 [eSt 19, eSt 20, eR 2, eSt 21, eSt 22, eSt 23, eSt 24, eI (P 7)]
theorem yWin {P ot : Nat → Int} {S S' : wS} {y : Nat} {as as' : eL} {o o' : Option eV ⊕ Nat} {c : Nat × Nat} (h : ev y 0 as [] (wC S, (0, 0)) = some (o, (wC S', (0, 0)))) (ha : okL 20 as = true) (has : rL (fun _ => eNul) (seqR 2 20) as = as') (ho : rO (fun _ => eNul) (seqR 2 20) o = o') : ev y 0 as' [] ([xO P, eA 3 1 ot] ++ wCb 2 S, c) = some (o', ([xO P, eA 3 1 ot] ++ wCb 2 S', c)) := by
  subst has ho
  exact winUse (pre := [xO P, eA 3 1 ot]) (post := []) (b := 2) h ha rfl
theorem inG_N {W H xn yn : Nat} {x y : Int} (hx : x = (xn : Int)) (hy : y = (yn : Int)) (h1 : xn < W) (h2 : yn < H) : inG W H x y = true := decide_eq_true (by omega)
set_option maxRecDepth 100000
theorem y_cell {P ot : Nat → Int} {S : wS} {a : eRow} {c : Nat × Nat} (hA : wA S a) (hI : iA a) {x y : Int} {xn yn : Nat} (hx : x = (xn : Int)) (hy : y = (yn : Int)) (h1 : xn < a 0) (h2 : yn < a 1) : ev m_S_requireCell 0 [some (eR 0), some (eI x), some (eI y)] [] ([xO P, eA 3 1 ot] ++ wCb 2 S, c) = some (.inl none, ([xO P, eA 3 1 ot] ++ wCb 2 S, c)) := by
  obtain ⟨hw, hv, hp, hm⟩ := hA
  obtain ⟨hG, hV, hO, hT, hM⟩ := hI
  have g0 := hw.1.1.1
  have g1 := hw.1.1.2.1
  have g4 := hw.1.1.2.2
  have v2 := hv.1
  have d5 := hp.1.1
  have bG := hG.1
  have bV := hV.1
  have b5 := iT_24 bG.2.2.2.2 hT
  have hc := c_hasCell (c := (0, 0)) (x := x) (y := y) g0 g1 (by omega) (by omega) (by omega) (by omega)
  rw [inG_N hx hy h1 h2] at hc
  refine xCallW (N := 6) (M2 := m_S_requireCell) (pc2 := 9) (ls2 := [some (eR 0), some (eI x), some (eI y)]) (st2 := []) (y := m_G_hasCell) (as := [some (eR 3), some (eI x), some (eI y)]) (w2 := (([xO P, eA 3 1 ot]) ++ wCb 2 S, c)) rfl (yWin hc rfl rfl rfl) ?_
  refine xEqF (N := 1) (x := 1) (y := 0) (A := ev m_S_requireCell 15 [some (eR 0), some (eI x), some (eI y)] [] (([xO P, eA 3 1 ot]) ++ wCb 2 S, c)) (B := ev m_S_requireCell 23 [some (eR 0), some (eI x), some (eI y)] [] (([xO P, eA 3 1 ot]) ++ wCb 2 S, c)) rfl (show wr 1 = 1 by decide) (show wr 0 = 0 by decide) (by decide) ?_
  refine xSeg (N := 1) (r := some (.inl none, (([xO P, eA 3 1 ot]) ++ wCb 2 S, c))) rfl ?_
  rfl
theorem y_cellX {P ot : Nat → Int} {S : wS} {a : eRow} {c : Nat × Nat} (hA : wA S a) (hI : iA a) {x y : Int} (bx : -2147483648 ≤ x ∧ x < 2147483648) (by_ : -2147483648 ≤ y ∧ y < 2147483648) (h : inG (a 0) (a 1) x y = false) : ev m_S_requireCell 0 [some (eR 0), some (eI x), some (eI y)] [] ([xO P, eA 3 1 ot] ++ wCb 2 S, c) = some (.inr 1, ([xO P, eA 3 1 ot] ++ wCb 2 S, (c.1 + 1, c.2 + 6))) := by
  obtain ⟨hw, hv, hp, hm⟩ := hA
  obtain ⟨hG, hV, hO, hT, hM⟩ := hI
  have g0 := hw.1.1.1
  have g1 := hw.1.1.2.1
  have g4 := hw.1.1.2.2
  have v2 := hv.1
  have d5 := hp.1.1
  have bG := hG.1
  have bV := hV.1
  have b5 := iT_24 bG.2.2.2.2 hT
  have hc := c_hasCell (c := (0, 0)) (x := x) (y := y) g0 g1 (by omega) (by omega) bx by_
  rw [h] at hc
  refine xCallW (N := 6) (M2 := m_S_requireCell) (pc2 := 9) (ls2 := [some (eR 0), some (eI x), some (eI y)]) (st2 := []) (y := m_G_hasCell) (as := [some (eR 3), some (eI x), some (eI y)]) (w2 := (([xO P, eA 3 1 ot]) ++ wCb 2 S, c)) rfl (yWin hc rfl rfl rfl) ?_
  refine xEqT (N := 1) (x := 0) (y := 0) (A := ev m_S_requireCell 15 [some (eR 0), some (eI x), some (eI y)] [] (([xO P, eA 3 1 ot]) ++ wCb 2 S, c)) (B := ev m_S_requireCell 23 [some (eR 0), some (eI x), some (eI y)] [] (([xO P, eA 3 1 ot]) ++ wCb 2 S, c)) rfl (show wr 0 = 0 by decide) (show wr 0 = 0 by decide) (by decide) ?_
  refine xSeg (N := 1) (r := some (.inr 1, (([xO P, eA 3 1 ot]) ++ wCb 2 S, (c.1 + 1, c.2 + 6)))) rfl ?_
  rfl
theorem y_slot {P ot : Nat → Int} {S : wS} {a : eRow} {c : Nat × Nat} (hA : wA S a) (hI : iA a) {x : Int} {k : Nat} (hx : x = (k : Int)) (h1 : k < a 3) : ev m_S_requireSlot 0 [some (eR 0), some (eI x)] [] ([xO P, eA 3 1 ot] ++ wCb 2 S, c) = some (.inl none, ([xO P, eA 3 1 ot] ++ wCb 2 S, c)) := by
  obtain ⟨hw, hv, hp, hm⟩ := hA
  obtain ⟨hG, hV, hO, hT, hM⟩ := hI
  have g0 := hw.1.1.1
  have g1 := hw.1.1.2.1
  have g4 := hw.1.1.2.2
  have v2 := hv.1
  have d5 := hp.1.1
  have bG := hG.1
  have bV := hV.1
  have b5 := iT_24 bG.2.2.2.2 hT
  refine xLtF (N := 2) (x := x) (y := 0) (A := ev m_S_requireSlot 18 [some (eR 0), some (eI x)] [] (([xO P, eA 3 1 ot]) ++ wCb 2 S, c)) (B := ev m_S_requireSlot 4 [some (eR 0), some (eI x)] [] (([xO P, eA 3 1 ot]) ++ wCb 2 S, c)) rfl (wr_id (by omega) (by omega)) (show wr 0 = 0 by decide) (by omega) ?_
  refine xLtT (N := 6) (x := x) (y := S 1 4) (A := ev m_S_requireSlot 26 [some (eR 0), some (eI x)] [] (([xO P, eA 3 1 ot]) ++ wCb 2 S, c)) (B := ev m_S_requireSlot 18 [some (eR 0), some (eI x)] [] (([xO P, eA 3 1 ot]) ++ wCb 2 S, c)) rfl (wr_id (by omega) (by omega)) (wr_id (by omega) (by omega)) (by omega) ?_
  refine xSeg (N := 1) (r := some (.inl none, (([xO P, eA 3 1 ot]) ++ wCb 2 S, c))) rfl ?_
  rfl
theorem y_slotX {P ot : Nat → Int} {S : wS} {a : eRow} {c : Nat × Nat} (hA : wA S a) (hI : iA a) {x : Int} (bx : -2147483648 ≤ x ∧ x < 2147483648) (h : ¬ (0 ≤ x ∧ x < (a 3 : Int))) : ev m_S_requireSlot 0 [some (eR 0), some (eI x)] [] ([xO P, eA 3 1 ot] ++ wCb 2 S, c) = some (.inr 2, ([xO P, eA 3 1 ot] ++ wCb 2 S, (c.1 + 1, c.2 + 6))) := by
  obtain ⟨hw, hv, hp, hm⟩ := hA
  obtain ⟨hG, hV, hO, hT, hM⟩ := hI
  have g0 := hw.1.1.1
  have g1 := hw.1.1.2.1
  have g4 := hw.1.1.2.2
  have v2 := hv.1
  have d5 := hp.1.1
  have bG := hG.1
  have bV := hV.1
  have b5 := iT_24 bG.2.2.2.2 hT
  by_cases h0 : x < 0
  · refine xLtT (N := 2) (x := x) (y := 0) (A := ev m_S_requireSlot 18 [some (eR 0), some (eI x)] [] (([xO P, eA 3 1 ot]) ++ wCb 2 S, c)) (B := ev m_S_requireSlot 4 [some (eR 0), some (eI x)] [] (([xO P, eA 3 1 ot]) ++ wCb 2 S, c)) rfl (wr_id (by omega) (by omega)) (show wr 0 = 0 by decide) (by omega) ?_
    refine xSeg (N := 1) (r := some (.inr 2, (([xO P, eA 3 1 ot]) ++ wCb 2 S, (c.1 + 1, c.2 + 6)))) rfl ?_
    rfl
  · refine xLtF (N := 2) (x := x) (y := 0) (A := ev m_S_requireSlot 18 [some (eR 0), some (eI x)] [] (([xO P, eA 3 1 ot]) ++ wCb 2 S, c)) (B := ev m_S_requireSlot 4 [some (eR 0), some (eI x)] [] (([xO P, eA 3 1 ot]) ++ wCb 2 S, c)) rfl (wr_id (by omega) (by omega)) (show wr 0 = 0 by decide) (by omega) ?_
    refine xLtF (N := 6) (x := x) (y := S 1 4) (A := ev m_S_requireSlot 26 [some (eR 0), some (eI x)] [] (([xO P, eA 3 1 ot]) ++ wCb 2 S, c)) (B := ev m_S_requireSlot 18 [some (eR 0), some (eI x)] [] (([xO P, eA 3 1 ot]) ++ wCb 2 S, c)) rfl (wr_id (by omega) (by omega)) (wr_id (by omega) (by omega)) (by omega) ?_
    refine xSeg (N := 1) (r := some (.inr 2, (([xO P, eA 3 1 ot]) ++ wCb 2 S, (c.1 + 1, c.2 + 6)))) rfl ?_
    rfl
theorem y_word {P ot : Nat → Int} {S : wS} {a : eRow} {c : Nat × Nat} (hA : wA S a) (hI : iA a) {x : Int} {w : Nat} (hx : x = (w : Int)) (h1 : w < a 2) : ev m_S_requireWord 0 [some (eR 0), some (eI x)] [] ([xO P, eA 3 1 ot] ++ wCb 2 S, c) = some (.inl none, ([xO P, eA 3 1 ot] ++ wCb 2 S, c)) := by
  obtain ⟨hw, hv, hp, hm⟩ := hA
  obtain ⟨hG, hV, hO, hT, hM⟩ := hI
  have g0 := hw.1.1.1
  have g1 := hw.1.1.2.1
  have g4 := hw.1.1.2.2
  have v2 := hv.1
  have d5 := hp.1.1
  have bG := hG.1
  have bV := hV.1
  have b5 := iT_24 bG.2.2.2.2 hT
  refine xLtF (N := 2) (x := x) (y := 0) (A := ev m_S_requireWord 18 [some (eR 0), some (eI x)] [] (([xO P, eA 3 1 ot]) ++ wCb 2 S, c)) (B := ev m_S_requireWord 4 [some (eR 0), some (eI x)] [] (([xO P, eA 3 1 ot]) ++ wCb 2 S, c)) rfl (wr_id (by omega) (by omega)) (show wr 0 = 0 by decide) (by omega) ?_
  refine xLtT (N := 6) (x := x) (y := S 11 0) (A := ev m_S_requireWord 26 [some (eR 0), some (eI x)] [] (([xO P, eA 3 1 ot]) ++ wCb 2 S, c)) (B := ev m_S_requireWord 18 [some (eR 0), some (eI x)] [] (([xO P, eA 3 1 ot]) ++ wCb 2 S, c)) rfl (wr_id (by omega) (by omega)) (wr_id (by omega) (by omega)) (by omega) ?_
  refine xSeg (N := 1) (r := some (.inl none, (([xO P, eA 3 1 ot]) ++ wCb 2 S, c))) rfl ?_
  rfl
theorem y_wordX {P ot : Nat → Int} {S : wS} {a : eRow} {c : Nat × Nat} (hA : wA S a) (hI : iA a) {x : Int} (bx : -2147483648 ≤ x ∧ x < 2147483648) (h : ¬ (0 ≤ x ∧ x < (a 2 : Int))) : ev m_S_requireWord 0 [some (eR 0), some (eI x)] [] ([xO P, eA 3 1 ot] ++ wCb 2 S, c) = some (.inr 2, ([xO P, eA 3 1 ot] ++ wCb 2 S, (c.1 + 1, c.2 + 6))) := by
  obtain ⟨hw, hv, hp, hm⟩ := hA
  obtain ⟨hG, hV, hO, hT, hM⟩ := hI
  have g0 := hw.1.1.1
  have g1 := hw.1.1.2.1
  have g4 := hw.1.1.2.2
  have v2 := hv.1
  have d5 := hp.1.1
  have bG := hG.1
  have bV := hV.1
  have b5 := iT_24 bG.2.2.2.2 hT
  by_cases h0 : x < 0
  · refine xLtT (N := 2) (x := x) (y := 0) (A := ev m_S_requireWord 18 [some (eR 0), some (eI x)] [] (([xO P, eA 3 1 ot]) ++ wCb 2 S, c)) (B := ev m_S_requireWord 4 [some (eR 0), some (eI x)] [] (([xO P, eA 3 1 ot]) ++ wCb 2 S, c)) rfl (wr_id (by omega) (by omega)) (show wr 0 = 0 by decide) (by omega) ?_
    refine xSeg (N := 1) (r := some (.inr 2, (([xO P, eA 3 1 ot]) ++ wCb 2 S, (c.1 + 1, c.2 + 6)))) rfl ?_
    rfl
  · refine xLtF (N := 2) (x := x) (y := 0) (A := ev m_S_requireWord 18 [some (eR 0), some (eI x)] [] (([xO P, eA 3 1 ot]) ++ wCb 2 S, c)) (B := ev m_S_requireWord 4 [some (eR 0), some (eI x)] [] (([xO P, eA 3 1 ot]) ++ wCb 2 S, c)) rfl (wr_id (by omega) (by omega)) (show wr 0 = 0 by decide) (by omega) ?_
    refine xLtF (N := 6) (x := x) (y := S 11 0) (A := ev m_S_requireWord 26 [some (eR 0), some (eI x)] [] (([xO P, eA 3 1 ot]) ++ wCb 2 S, c)) (B := ev m_S_requireWord 18 [some (eR 0), some (eI x)] [] (([xO P, eA 3 1 ot]) ++ wCb 2 S, c)) rfl (wr_id (by omega) (by omega)) (wr_id (by omega) (by omega)) (by omega) ?_
    refine xSeg (N := 1) (r := some (.inr 2, (([xO P, eA 3 1 ot]) ++ wCb 2 S, (c.1 + 1, c.2 + 6)))) rfl ?_
    rfl
theorem y_level {P ot : Nat → Int} {S : wS} {a : eRow} {c : Nat × Nat} (hA : wA S a) (hI : iA a) {x : Int} {l : Nat} (hx : x = (l : Int)) (h1 : 1 ≤ l) (h2 : l ≤ a 5) : ev m_S_requireLevel 0 [some (eR 0), some (eI x)] [] ([xO P, eA 3 1 ot] ++ wCb 2 S, c) = some (.inl none, ([xO P, eA 3 1 ot] ++ wCb 2 S, c)) := by
  obtain ⟨hw, hv, hp, hm⟩ := hA
  obtain ⟨hG, hV, hO, hT, hM⟩ := hI
  have g0 := hw.1.1.1
  have g1 := hw.1.1.2.1
  have g4 := hw.1.1.2.2
  have v2 := hv.1
  have d5 := hp.1.1
  have bG := hG.1
  have bV := hV.1
  have b5 := iT_24 bG.2.2.2.2 hT
  refine xLtF (N := 3) (x := x) (y := 1) (A := ev m_S_requireLevel 16 [some (eR 0), some (eI x)] [] (([xO P, eA 3 1 ot]) ++ wCb 2 S, c)) (B := ev m_S_requireLevel 5 [some (eR 0), some (eI x)] [] (([xO P, eA 3 1 ot]) ++ wCb 2 S, c)) rfl (wr_id (by omega) (by omega)) (show wr 1 = 1 by decide) (by omega) ?_
  refine xLtF (N := 5) (x := S 0 4) (y := x) (A := ev m_S_requireLevel 16 [some (eR 0), some (eI x)] [] (([xO P, eA 3 1 ot]) ++ wCb 2 S, c)) (B := ev m_S_requireLevel 24 [some (eR 0), some (eI x)] [] (([xO P, eA 3 1 ot]) ++ wCb 2 S, c)) rfl (wr_id (by omega) (by omega)) (wr_id (by omega) (by omega)) (by omega) ?_
  refine xSeg (N := 1) (r := some (.inl none, (([xO P, eA 3 1 ot]) ++ wCb 2 S, c))) rfl ?_
  rfl
theorem y_levelX {P ot : Nat → Int} {S : wS} {a : eRow} {c : Nat × Nat} (hA : wA S a) (hI : iA a) {x : Int} (bx : -2147483648 ≤ x ∧ x < 2147483648) (h : ¬ (1 ≤ x ∧ x ≤ (a 5 : Int))) : ev m_S_requireLevel 0 [some (eR 0), some (eI x)] [] ([xO P, eA 3 1 ot] ++ wCb 2 S, c) = some (.inr 3, ([xO P, eA 3 1 ot] ++ wCb 2 S, (c.1 + 1, c.2 + 6))) := by
  obtain ⟨hw, hv, hp, hm⟩ := hA
  obtain ⟨hG, hV, hO, hT, hM⟩ := hI
  have g0 := hw.1.1.1
  have g1 := hw.1.1.2.1
  have g4 := hw.1.1.2.2
  have v2 := hv.1
  have d5 := hp.1.1
  have bG := hG.1
  have bV := hV.1
  have b5 := iT_24 bG.2.2.2.2 hT
  by_cases h0 : x < 1
  · refine xLtT (N := 3) (x := x) (y := 1) (A := ev m_S_requireLevel 16 [some (eR 0), some (eI x)] [] (([xO P, eA 3 1 ot]) ++ wCb 2 S, c)) (B := ev m_S_requireLevel 5 [some (eR 0), some (eI x)] [] (([xO P, eA 3 1 ot]) ++ wCb 2 S, c)) rfl (wr_id (by omega) (by omega)) (show wr 1 = 1 by decide) (by omega) ?_
    refine xSeg (N := 1) (r := some (.inr 3, (([xO P, eA 3 1 ot]) ++ wCb 2 S, (c.1 + 1, c.2 + 6)))) rfl ?_
    rfl
  · refine xLtF (N := 3) (x := x) (y := 1) (A := ev m_S_requireLevel 16 [some (eR 0), some (eI x)] [] (([xO P, eA 3 1 ot]) ++ wCb 2 S, c)) (B := ev m_S_requireLevel 5 [some (eR 0), some (eI x)] [] (([xO P, eA 3 1 ot]) ++ wCb 2 S, c)) rfl (wr_id (by omega) (by omega)) (show wr 1 = 1 by decide) (by omega) ?_
    refine xLtT (N := 5) (x := S 0 4) (y := x) (A := ev m_S_requireLevel 16 [some (eR 0), some (eI x)] [] (([xO P, eA 3 1 ot]) ++ wCb 2 S, c)) (B := ev m_S_requireLevel 24 [some (eR 0), some (eI x)] [] (([xO P, eA 3 1 ot]) ++ wCb 2 S, c)) rfl (wr_id (by omega) (by omega)) (wr_id (by omega) (by omega)) (by omega) ?_
    refine xSeg (N := 1) (r := some (.inr 3, (([xO P, eA 3 1 ot]) ++ wCb 2 S, (c.1 + 1, c.2 + 6)))) rfl ?_
    rfl
theorem y_letter {P ot : Nat → Int} {S : wS} {c : Nat × Nat} {x : Int} (h1 : 97 ≤ x ∧ x ≤ 122) : ev m_S_requireLetter 0 [some (eR 0), some (eI x)] [] ([xO P, eA 3 1 ot] ++ wCb 2 S, c) = some (.inl none, ([xO P, eA 3 1 ot] ++ wCb 2 S, c)) := by
  refine xLtF (N := 3) (x := x) (y := 97) (A := ev m_S_requireLetter 12 [some (eR 0), some (eI x)] [] (([xO P, eA 3 1 ot]) ++ wCb 2 S, c)) (B := ev m_S_requireLetter 6 [some (eR 0), some (eI x)] [] (([xO P, eA 3 1 ot]) ++ wCb 2 S, c)) rfl (wr_id (by omega) (by omega)) (show wr 97 = 97 by decide) (by omega) ?_
  refine xLtF (N := 3) (x := 122) (y := x) (A := ev m_S_requireLetter 12 [some (eR 0), some (eI x)] [] (([xO P, eA 3 1 ot]) ++ wCb 2 S, c)) (B := ev m_S_requireLetter 20 [some (eR 0), some (eI x)] [] (([xO P, eA 3 1 ot]) ++ wCb 2 S, c)) rfl (show wr 122 = 122 by decide) (wr_id (by omega) (by omega)) (by omega) ?_
  refine xSeg (N := 1) (r := some (.inl none, (([xO P, eA 3 1 ot]) ++ wCb 2 S, c))) rfl ?_
  rfl
theorem y_letterX {P ot : Nat → Int} {S : wS} {c : Nat × Nat} {x : Int} (bx : -2147483648 ≤ x ∧ x < 2147483648) (h : ¬ (97 ≤ x ∧ x ≤ 122)) : ev m_S_requireLetter 0 [some (eR 0), some (eI x)] [] ([xO P, eA 3 1 ot] ++ wCb 2 S, c) = some (.inr 1, ([xO P, eA 3 1 ot] ++ wCb 2 S, (c.1 + 1, c.2 + 6))) := by
  by_cases h0 : x < 97
  · refine xLtT (N := 3) (x := x) (y := 97) (A := ev m_S_requireLetter 12 [some (eR 0), some (eI x)] [] (([xO P, eA 3 1 ot]) ++ wCb 2 S, c)) (B := ev m_S_requireLetter 6 [some (eR 0), some (eI x)] [] (([xO P, eA 3 1 ot]) ++ wCb 2 S, c)) rfl (wr_id (by omega) (by omega)) (show wr 97 = 97 by decide) (by omega) ?_
    refine xSeg (N := 1) (r := some (.inr 1, (([xO P, eA 3 1 ot]) ++ wCb 2 S, (c.1 + 1, c.2 + 6)))) rfl ?_
    rfl
  · refine xLtF (N := 3) (x := x) (y := 97) (A := ev m_S_requireLetter 12 [some (eR 0), some (eI x)] [] (([xO P, eA 3 1 ot]) ++ wCb 2 S, c)) (B := ev m_S_requireLetter 6 [some (eR 0), some (eI x)] [] (([xO P, eA 3 1 ot]) ++ wCb 2 S, c)) rfl (wr_id (by omega) (by omega)) (show wr 97 = 97 by decide) (by omega) ?_
    refine xLtT (N := 3) (x := 122) (y := x) (A := ev m_S_requireLetter 12 [some (eR 0), some (eI x)] [] (([xO P, eA 3 1 ot]) ++ wCb 2 S, c)) (B := ev m_S_requireLetter 20 [some (eR 0), some (eI x)] [] (([xO P, eA 3 1 ot]) ++ wCb 2 S, c)) rfl (show wr 122 = 122 by decide) (wr_id (by omega) (by omega)) (by omega) ?_
    refine xSeg (N := 1) (r := some (.inr 1, (([xO P, eA 3 1 ot]) ++ wCb 2 S, (c.1 + 1, c.2 + 6)))) rfl ?_
    rfl
theorem s_isBlocked {P ot : Nat → Int} {S : wS} {a : eRow} {c : Nat × Nat} (hA : wA S a) (hI : iA a) {x y : Int} {xn yn : Nat} (hx : x = (xn : Int)) (hy : y = (yn : Int)) (h1 : xn < a 0) (h2 : yn < a 1) : ev m_S_isBlocked 0 [some (eR 0), some (eI x), some (eI y)] [] ([xO P, eA 3 1 ot] ++ wCb 2 S, c) = some (.inl (some (eI (((a (16 + (6 * yn + xn)) : Nat) : Int)))), ([xO P, eA 3 1 ot] ++ wCb 2 S, c)) := by
  obtain ⟨hw, hv, hp, hm⟩ := hA
  obtain ⟨hG, hV, hO, hT, hM⟩ := hI
  have g0 := hw.1.1.1
  have g1 := hw.1.1.2.1
  have g4 := hw.1.1.2.2
  have v2 := hv.1
  have d5 := hp.1.1
  have bG := hG.1
  have bV := hV.1
  have b5 := iT_24 bG.2.2.2.2 hT
  have he : yn * 6 + xn = 6 * yn + xn := by omega
  have hb := (hw.1.2.1 (6 * yn + xn) (by omega)).1
  have hb1 := (hG.2.1 (6 * yn + xn) (by omega)).1
  rw [← he] at hb hb1 ⊢
  refine xCallWV (N := 4) (M2 := m_S_isBlocked) (pc2 := 3) (ls2 := [some (eR 0), some (eI x), some (eI y)]) (st2 := []) (y := m_S_requireCell) (as := [some (eR 0), some (eI x), some (eI y)]) (w2 := (([xO P, eA 3 1 ot]) ++ wCb 2 S, c)) rfl (y_cell ⟨hw, hv, hp, hm⟩ ⟨hG, hV, hO, hT, hM⟩ hx hy h1 h2) ?_
  refine xCallI (N := 7) (v := y * 6 + x) (M2 := m_S_isBlocked) (pc2 := 18) (ls2 := [some (eR 0), some (eI x), some (eI y)]) (st2 := [eR 4]) (y := m_G_cell) (as := [some (eI x), some (eI y)]) (w2 := (([xO P, eA 3 1 ot]) ++ wCb 2 S, c)) rfl c_cell (fun r18 hr18 => ?_)
  refine xLd (N := 1) (n := 36) (i := r18) (F := fun zq => ev m_S_isBlocked 22 [some (eR 0), some (eI x), some (eI y)] [eI (S 2 zq)] (([xO P, eA 3 1 ot]) ++ wCb 2 S, c)) (k := yn * 6 + xn) rfl (wr_nat (by omega) (by omega)) (by omega) ?_
  refine xRb (N := 1) (v := S 2 (yn * 6 + xn)) (w2 := (([xO P, eA 3 1 ot]) ++ wCb 2 S, c)) rfl (by rw [wr_id (by omega) (by omega)]; omega) ?_
  exact lf hb
theorem s_isBlockedX {P ot : Nat → Int} {S : wS} {a : eRow} {c : Nat × Nat} (hA : wA S a) (hI : iA a) {x y : Int} (bx : -2147483648 ≤ x ∧ x < 2147483648) (by_ : -2147483648 ≤ y ∧ y < 2147483648) (h : inG (a 0) (a 1) x y = false) : ev m_S_isBlocked 0 [some (eR 0), some (eI x), some (eI y)] [] ([xO P, eA 3 1 ot] ++ wCb 2 S, c) = some (.inr 1, ([xO P, eA 3 1 ot] ++ wCb 2 S, (c.1 + 1, c.2 + 6))) := by
  refine xExc (N := 4) (E := 1) (M2 := m_S_isBlocked) (pc2 := 3) (ls2 := [some (eR 0), some (eI x), some (eI y)]) (st2 := []) (y := m_S_requireCell) (as := [some (eR 0), some (eI x), some (eI y)]) (w2 := (([xO P, eA 3 1 ot]) ++ wCb 2 S, c)) rfl (y_cellX hA hI bx by_ h) (by first | rfl | decide) ?_
  rfl
theorem s_givenLetter {P ot : Nat → Int} {S : wS} {a : eRow} {c : Nat × Nat} (hA : wA S a) (hI : iA a) {x y : Int} {xn yn : Nat} (hx : x = (xn : Int)) (hy : y = (yn : Int)) (h1 : xn < a 0) (h2 : yn < a 1) : ev m_S_givenLetter 0 [some (eR 0), some (eI x), some (eI y)] [] ([xO P, eA 3 1 ot] ++ wCb 2 S, c) = some (.inl (some (eI (((a (52 + (6 * yn + xn)) : Nat) : Int)))), ([xO P, eA 3 1 ot] ++ wCb 2 S, c)) := by
  obtain ⟨hw, hv, hp, hm⟩ := hA
  obtain ⟨hG, hV, hO, hT, hM⟩ := hI
  have g0 := hw.1.1.1
  have g1 := hw.1.1.2.1
  have g4 := hw.1.1.2.2
  have v2 := hv.1
  have d5 := hp.1.1
  have bG := hG.1
  have bV := hV.1
  have b5 := iT_24 bG.2.2.2.2 hT
  have he : yn * 6 + xn = 6 * yn + xn := by omega
  have hb := (hw.1.2.1 (6 * yn + xn) (by omega)).2.1
  rw [← he] at hb ⊢
  refine xCallWV (N := 4) (M2 := m_S_givenLetter) (pc2 := 3) (ls2 := [some (eR 0), some (eI x), some (eI y)]) (st2 := []) (y := m_S_requireCell) (as := [some (eR 0), some (eI x), some (eI y)]) (w2 := (([xO P, eA 3 1 ot]) ++ wCb 2 S, c)) rfl (y_cell ⟨hw, hv, hp, hm⟩ ⟨hG, hV, hO, hT, hM⟩ hx hy h1 h2) ?_
  refine xCallI (N := 7) (v := y * 6 + x) (M2 := m_S_givenLetter) (pc2 := 18) (ls2 := [some (eR 0), some (eI x), some (eI y)]) (st2 := [eR 5]) (y := m_G_cell) (as := [some (eI x), some (eI y)]) (w2 := (([xO P, eA 3 1 ot]) ++ wCb 2 S, c)) rfl c_cell (fun r18 hr18 => ?_)
  refine xLd (N := 1) (n := 36) (i := r18) (F := fun zq => ev m_S_givenLetter 22 [some (eR 0), some (eI x), some (eI y)] [eI (S 3 zq)] (([xO P, eA 3 1 ot]) ++ wCb 2 S, c)) (k := yn * 6 + xn) rfl (wr_nat (by omega) (by omega)) (by omega) ?_
  refine xSeg (N := 1) (r := some (.inl (some (eI (S 3 (yn * 6 + xn)))), (([xO P, eA 3 1 ot]) ++ wCb 2 S, c))) rfl ?_
  exact lf hb
theorem s_givenLetterX {P ot : Nat → Int} {S : wS} {a : eRow} {c : Nat × Nat} (hA : wA S a) (hI : iA a) {x y : Int} (bx : -2147483648 ≤ x ∧ x < 2147483648) (by_ : -2147483648 ≤ y ∧ y < 2147483648) (h : inG (a 0) (a 1) x y = false) : ev m_S_givenLetter 0 [some (eR 0), some (eI x), some (eI y)] [] ([xO P, eA 3 1 ot] ++ wCb 2 S, c) = some (.inr 1, ([xO P, eA 3 1 ot] ++ wCb 2 S, (c.1 + 1, c.2 + 6))) := by
  refine xExc (N := 4) (E := 1) (M2 := m_S_givenLetter) (pc2 := 3) (ls2 := [some (eR 0), some (eI x), some (eI y)]) (st2 := []) (y := m_S_requireCell) (as := [some (eR 0), some (eI x), some (eI y)]) (w2 := (([xO P, eA 3 1 ot]) ++ wCb 2 S, c)) rfl (y_cellX hA hI bx by_ h) (by first | rfl | decide) ?_
  rfl
theorem s_slotAt0 {P ot : Nat → Int} {S : wS} {a : eRow} {c : Nat × Nat} (hA : wA S a) (hI : iA a) {x y : Int} {xn yn : Nat} (hx : x = (xn : Int)) (hy : y = (yn : Int)) (h1 : xn < a 0) (h2 : yn < a 1) {z : Int} (hz : z = 0) : ev m_S_slotAt 0 [some (eR 0), some (eI x), some (eI y), some (eI z)] [] ([xO P, eA 3 1 ot] ++ wCb 2 S, c) = some (.inl (some (eI (((a (244 + (6 * yn + xn)) : Nat) : Int) - 1))), ([xO P, eA 3 1 ot] ++ wCb 2 S, c)) := by
  obtain ⟨hw, hv, hp, hm⟩ := hA
  obtain ⟨hG, hV, hO, hT, hM⟩ := hI
  have g0 := hw.1.1.1
  have g1 := hw.1.1.2.1
  have g4 := hw.1.1.2.2
  have v2 := hv.1
  have d5 := hp.1.1
  have bG := hG.1
  have bV := hV.1
  have b5 := iT_24 bG.2.2.2.2 hT
  have he : yn * 6 + xn = 6 * yn + xn := by omega
  have hb := (hw.1.2.1 (6 * yn + xn) (by omega)).2.2.1
  rw [← he] at hb ⊢
  refine xCallWV (N := 4) (M2 := m_S_slotAt) (pc2 := 3) (ls2 := [some (eR 0), some (eI x), some (eI y), some (eI z)]) (st2 := []) (y := m_S_requireCell) (as := [some (eR 0), some (eI x), some (eI y)]) (w2 := (([xO P, eA 3 1 ot]) ++ wCb 2 S, c)) rfl (y_cell ⟨hw, hv, hp, hm⟩ ⟨hG, hV, hO, hT, hM⟩ hx hy h1 h2) ?_
  refine xCallI (N := 3) (v := y * 6 + x) (M2 := m_S_slotAt) (pc2 := 8) (ls2 := [some (eR 0), some (eI x), some (eI y), some (eI z)]) (st2 := []) (y := m_G_cell) (as := [some (eI x), some (eI y)]) (w2 := (([xO P, eA 3 1 ot]) ++ wCb 2 S, c)) rfl c_cell (fun r8 hr8 => ?_)
  refine xEqT (N := 3) (x := z) (y := 0) (A := ev m_S_slotAt 33 [some (eR 0), some (eI x), some (eI y), some (eI z), some (eI r8)] [] (([xO P, eA 3 1 ot]) ++ wCb 2 S, c)) (B := ev m_S_slotAt 17 [some (eR 0), some (eI x), some (eI y), some (eI z), some (eI r8)] [] (([xO P, eA 3 1 ot]) ++ wCb 2 S, c)) rfl (wr_id (by omega) (by omega)) (show wr 0 = 0 by decide) (by omega) ?_
  refine xLd (N := 6) (n := 36) (i := r8) (F := fun zq => ev m_S_slotAt 46 [some (eR 0), some (eI x), some (eI y), some (eI z), some (eI r8)] [eI (S 7 zq)] (([xO P, eA 3 1 ot]) ++ wCb 2 S, c)) (k := yn * 6 + xn) rfl (wr_nat (by omega) (by omega)) (by omega) ?_
  refine xSeg (N := 1) (r := some (.inl (some (eI (S 7 (yn * 6 + xn)))), (([xO P, eA 3 1 ot]) ++ wCb 2 S, c))) rfl ?_
  exact lf hb
theorem s_slotAt1 {P ot : Nat → Int} {S : wS} {a : eRow} {c : Nat × Nat} (hA : wA S a) (hI : iA a) {x y : Int} {xn yn : Nat} (hx : x = (xn : Int)) (hy : y = (yn : Int)) (h1 : xn < a 0) (h2 : yn < a 1) {z : Int} (hz : z = 1) : ev m_S_slotAt 0 [some (eR 0), some (eI x), some (eI y), some (eI z)] [] ([xO P, eA 3 1 ot] ++ wCb 2 S, c) = some (.inl (some (eI (((a (280 + (6 * yn + xn)) : Nat) : Int) - 1))), ([xO P, eA 3 1 ot] ++ wCb 2 S, c)) := by
  obtain ⟨hw, hv, hp, hm⟩ := hA
  obtain ⟨hG, hV, hO, hT, hM⟩ := hI
  have g0 := hw.1.1.1
  have g1 := hw.1.1.2.1
  have g4 := hw.1.1.2.2
  have v2 := hv.1
  have d5 := hp.1.1
  have bG := hG.1
  have bV := hV.1
  have b5 := iT_24 bG.2.2.2.2 hT
  have he : yn * 6 + xn = 6 * yn + xn := by omega
  have hb := (hw.1.2.1 (6 * yn + xn) (by omega)).2.2.2
  rw [← he] at hb ⊢
  refine xCallWV (N := 4) (M2 := m_S_slotAt) (pc2 := 3) (ls2 := [some (eR 0), some (eI x), some (eI y), some (eI z)]) (st2 := []) (y := m_S_requireCell) (as := [some (eR 0), some (eI x), some (eI y)]) (w2 := (([xO P, eA 3 1 ot]) ++ wCb 2 S, c)) rfl (y_cell ⟨hw, hv, hp, hm⟩ ⟨hG, hV, hO, hT, hM⟩ hx hy h1 h2) ?_
  refine xCallI (N := 3) (v := y * 6 + x) (M2 := m_S_slotAt) (pc2 := 8) (ls2 := [some (eR 0), some (eI x), some (eI y), some (eI z)]) (st2 := []) (y := m_G_cell) (as := [some (eI x), some (eI y)]) (w2 := (([xO P, eA 3 1 ot]) ++ wCb 2 S, c)) rfl c_cell (fun r8 hr8 => ?_)
  refine xEqF (N := 3) (x := z) (y := 0) (A := ev m_S_slotAt 33 [some (eR 0), some (eI x), some (eI y), some (eI z), some (eI r8)] [] (([xO P, eA 3 1 ot]) ++ wCb 2 S, c)) (B := ev m_S_slotAt 17 [some (eR 0), some (eI x), some (eI y), some (eI z), some (eI r8)] [] (([xO P, eA 3 1 ot]) ++ wCb 2 S, c)) rfl (wr_id (by omega) (by omega)) (show wr 0 = 0 by decide) (by omega) ?_
  refine xLd (N := 6) (n := 36) (i := r8) (F := fun zq => ev m_S_slotAt 30 [some (eR 0), some (eI x), some (eI y), some (eI z), some (eI r8)] [eI (S 8 zq)] (([xO P, eA 3 1 ot]) ++ wCb 2 S, c)) (k := yn * 6 + xn) rfl (wr_nat (by omega) (by omega)) (by omega) ?_
  refine xSeg (N := 2) (r := some (.inl (some (eI (S 8 (yn * 6 + xn)))), (([xO P, eA 3 1 ot]) ++ wCb 2 S, c))) rfl ?_
  exact lf hb
theorem s_slotAtX {P ot : Nat → Int} {S : wS} {a : eRow} {c : Nat × Nat} (hA : wA S a) (hI : iA a) {x y : Int} (bx : -2147483648 ≤ x ∧ x < 2147483648) (by_ : -2147483648 ≤ y ∧ y < 2147483648) (h : inG (a 0) (a 1) x y = false) {z : Int} : ev m_S_slotAt 0 [some (eR 0), some (eI x), some (eI y), some (eI z)] [] ([xO P, eA 3 1 ot] ++ wCb 2 S, c) = some (.inr 1, ([xO P, eA 3 1 ot] ++ wCb 2 S, (c.1 + 1, c.2 + 6))) := by
  refine xExc (N := 4) (E := 1) (M2 := m_S_slotAt) (pc2 := 3) (ls2 := [some (eR 0), some (eI x), some (eI y), some (eI z)]) (st2 := []) (y := m_S_requireCell) (as := [some (eR 0), some (eI x), some (eI y)]) (w2 := (([xO P, eA 3 1 ot]) ++ wCb 2 S, c)) rfl (y_cellX hA hI bx by_ h) (by first | rfl | decide) ?_
  rfl
theorem s_lengthOf {P ot : Nat → Int} {S : wS} {a : eRow} {c : Nat × Nat} (hA : wA S a) (hI : iA a) {x : Int} {k : Nat} (hx : x = (k : Int)) (h1 : k < a 3) : ev m_S_lengthOf 0 [some (eR 0), some (eI x)] [] ([xO P, eA 3 1 ot] ++ wCb 2 S, c) = some (.inl (some (eI (((sl a k : Nat) : Int)))), ([xO P, eA 3 1 ot] ++ wCb 2 S, c)) := by
  obtain ⟨hw, hv, hp, hm⟩ := hA
  obtain ⟨hG, hV, hO, hT, hM⟩ := hI
  have g0 := hw.1.1.1
  have g1 := hw.1.1.2.1
  have g4 := hw.1.1.2.2
  have v2 := hv.1
  have d5 := hp.1.1
  have bG := hG.1
  have bV := hV.1
  have b5 := iT_24 bG.2.2.2.2 hT
  have hb := (hw.1.2.2 k h1).2.1
  refine xCallWV (N := 3) (M2 := m_S_lengthOf) (pc2 := 2) (ls2 := [some (eR 0), some (eI x)]) (st2 := []) (y := m_S_requireSlot) (as := [some (eR 0), some (eI x)]) (w2 := (([xO P, eA 3 1 ot]) ++ wCb 2 S, c)) rfl (y_slot ⟨hw, hv, hp, hm⟩ ⟨hG, hV, hO, hT, hM⟩ hx h1) ?_
  refine xLd (N := 6) (n := 24) (i := x) (F := fun zq => ev m_S_lengthOf 17 [some (eR 0), some (eI x)] [eI (S 5 zq)] (([xO P, eA 3 1 ot]) ++ wCb 2 S, c)) (k := k) rfl (wr_nat (by omega) (by omega)) (by omega) ?_
  refine xSeg (N := 1) (r := some (.inl (some (eI (S 5 k))), (([xO P, eA 3 1 ot]) ++ wCb 2 S, c))) rfl ?_
  exact lf hb
theorem s_isDown {P ot : Nat → Int} {S : wS} {a : eRow} {c : Nat × Nat} (hA : wA S a) (hI : iA a) {x : Int} {k : Nat} (hx : x = (k : Int)) (h1 : k < a 3) : ev m_S_isDown 0 [some (eR 0), some (eI x)] [] ([xO P, eA 3 1 ot] ++ wCb 2 S, c) = some (.inl (some (eI (((sd a k : Nat) : Int)))), ([xO P, eA 3 1 ot] ++ wCb 2 S, c)) := by
  obtain ⟨hw, hv, hp, hm⟩ := hA
  obtain ⟨hG, hV, hO, hT, hM⟩ := hI
  have g0 := hw.1.1.1
  have g1 := hw.1.1.2.1
  have g4 := hw.1.1.2.2
  have v2 := hv.1
  have d5 := hp.1.1
  have bG := hG.1
  have bV := hV.1
  have b5 := iT_24 bG.2.2.2.2 hT
  have hb := (hw.1.2.2 k h1).2.2
  have hb1 := (sl_at hG h1).1
  refine xCallWV (N := 3) (M2 := m_S_isDown) (pc2 := 2) (ls2 := [some (eR 0), some (eI x)]) (st2 := []) (y := m_S_requireSlot) (as := [some (eR 0), some (eI x)]) (w2 := (([xO P, eA 3 1 ot]) ++ wCb 2 S, c)) rfl (y_slot ⟨hw, hv, hp, hm⟩ ⟨hG, hV, hO, hT, hM⟩ hx h1) ?_
  refine xLd (N := 6) (n := 24) (i := x) (F := fun zq => ev m_S_isDown 17 [some (eR 0), some (eI x)] [eI (S 6 zq)] (([xO P, eA 3 1 ot]) ++ wCb 2 S, c)) (k := k) rfl (wr_nat (by omega) (by omega)) (by omega) ?_
  refine xRb (N := 1) (v := S 6 k) (w2 := (([xO P, eA 3 1 ot]) ++ wCb 2 S, c)) rfl (by rw [wr_id (by omega) (by omega)]; omega) ?_
  exact lf hb
theorem s_crossingCount {P ot : Nat → Int} {S : wS} {a : eRow} {c : Nat × Nat} (hA : wA S a) (hI : iA a) {x : Int} {k : Nat} (hx : x = (k : Int)) (h1 : k < a 3) : ev m_S_crossingCount 0 [some (eR 0), some (eI x)] [] ([xO P, eA 3 1 ot] ++ wCb 2 S, c) = some (.inl (some (eI (((fb_ct (fun p => decide (oth a k p ≠ 0)) (sl a k) : Nat) : Int)))), ([xO P, eA 3 1 ot] ++ wCb 2 S, c)) := by
  obtain ⟨hw, hv, hp, hm⟩ := hA
  obtain ⟨hG, hV, hO, hT, hM⟩ := hI
  have g0 := hw.1.1.1
  have g1 := hw.1.1.2.1
  have g4 := hw.1.1.2.2
  have v2 := hv.1
  have d5 := hp.1.1
  have bG := hG.1
  have bV := hV.1
  have b5 := iT_24 bG.2.2.2.2 hT
  have hb := c_countCrossings (c := (0, 0)) (O := oth a k) hx (by omega) (hw.1.2.2 k h1).2.1 (sl_at hG h1).2.2.1 (fun p hp => ⟨(hw.2 k h1 p hp).1, by have := oth_le hG h1 hp; omega⟩)
  generalize ((fb_ct (fun p => decide (oth a k p ≠ 0)) (sl a k) : Nat) : Int) = zr at hb ⊢
  refine xCallWV (N := 3) (M2 := m_S_crossingCount) (pc2 := 2) (ls2 := [some (eR 0), some (eI x)]) (st2 := []) (y := m_S_requireSlot) (as := [some (eR 0), some (eI x)]) (w2 := (([xO P, eA 3 1 ot]) ++ wCb 2 S, c)) rfl (y_slot ⟨hw, hv, hp, hm⟩ ⟨hG, hV, hO, hT, hM⟩ hx h1) ?_
  refine xCallW (N := 5) (M2 := m_S_crossingCount) (pc2 := 13) (ls2 := [some (eR 0), some (eI x)]) (st2 := []) (y := m_G_countCrossings) (as := [some (eR 3), some (eI x)]) (w2 := (([xO P, eA 3 1 ot]) ++ wCb 2 S, c)) rfl (yWin hb rfl rfl rfl) ?_
  refine xSeg (N := 1) (r := some (.inl (some (eI zr)), (([xO P, eA 3 1 ot]) ++ wCb 2 S, c))) rfl ?_
  rfl
theorem s_candidateCount {P ot : Nat → Int} {S : wS} {a : eRow} {c : Nat × Nat} (hA : wA S a) (hI : iA a) {x : Int} {k : Nat} (hx : x = (k : Int)) (h1 : k < a 3) : ev m_S_candidateCount 0 [some (eR 0), some (eI x)] [] ([xO P, eA 3 1 ot] ++ wCb 2 S, c) = some (.inl (some (eI (((pc 30 (op a k) : Nat) : Int)))), ([xO P, eA 3 1 ot] ++ wCb 2 S, c)) := by
  obtain ⟨hw, hv, hp, hm⟩ := hA
  obtain ⟨hG, hV, hO, hT, hM⟩ := hI
  have g0 := hw.1.1.1
  have g1 := hw.1.1.2.1
  have g4 := hw.1.1.2.2
  have v2 := hv.1
  have d5 := hp.1.1
  have bG := hG.1
  have bV := hV.1
  have b5 := iT_24 bG.2.2.2.2 hT
  have hb := c_bitCount (w := ([xO P, eA 3 1 ot] ++ wCb 2 S, c)) (x := S 15 k) (m := op a k) (hp.2.1 k h1) (hO k h1).1
  generalize ((pc 30 (op a k) : Nat) : Int) = zr at hb ⊢
  refine xCallWV (N := 3) (M2 := m_S_candidateCount) (pc2 := 2) (ls2 := [some (eR 0), some (eI x)]) (st2 := []) (y := m_S_requireSlot) (as := [some (eR 0), some (eI x)]) (w2 := (([xO P, eA 3 1 ot]) ++ wCb 2 S, c)) rfl (y_slot ⟨hw, hv, hp, hm⟩ ⟨hG, hV, hO, hT, hM⟩ hx h1) ?_
  refine xLd (N := 5) (n := 24) (i := x) (F := fun zq => ev m_S_candidateCount 14 [some (eR 0), some (eI x)] [eI (S 15 zq)] (([xO P, eA 3 1 ot]) ++ wCb 2 S, c)) (k := k) rfl (wr_nat (by omega) (by omega)) (by omega) ?_
  refine xCall (N := 1) (M2 := m_S_candidateCount) (pc2 := 14) (ls2 := [some (eR 0), some (eI x)]) (st2 := []) (y := m_J_bitCount) (as := [some (eI (S 15 k))]) (w2 := (([xO P, eA 3 1 ot]) ++ wCb 2 S, c)) rfl hb ?_
  refine xSeg (N := 1) (r := some (.inl (some (eI zr)), (([xO P, eA 3 1 ot]) ++ wCb 2 S, c))) rfl ?_
  rfl
theorem s_bestWord {P ot : Nat → Int} {S : wS} {a : eRow} {c : Nat × Nat} (hA : wA S a) (hI : iA a) {x : Int} {k : Nat} (hx : x = (k : Int)) (h1 : k < a 3) : ev m_S_bestWord 0 [some (eR 0), some (eI x)] [] ([xO P, eA 3 1 ot] ++ wCb 2 S, c) = some (.inl (some (eI ((bwA (op a k).testBit (wp a) (a 2)).1))), ([xO P, eA 3 1 ot] ++ wCb 2 S, c)) := by
  obtain ⟨hw, hv, hp, hm⟩ := hA
  obtain ⟨hG, hV, hO, hT, hM⟩ := hI
  have g0 := hw.1.1.1
  have g1 := hw.1.1.2.1
  have g4 := hw.1.1.2.2
  have v2 := hv.1
  have d5 := hp.1.1
  have bG := hG.1
  have bV := hV.1
  have b5 := iT_24 bG.2.2.2.2 hT
  have hb := c_findBestWord (c := (0, 0)) (o := op a) (wl := wl a) (hd := hold a) (f := lt a) hx (by omega) v2 bV (hp.2.1 k h1) (hO k h1).1 (fun w hw9 => ⟨hv.2.1 w hw9, (hV.2 w hw9).2.1⟩) (fun w p hw9 hp9 => ⟨hv.2.2.1 w p hw9 hp9, lt_26 hV hw9 hp9⟩) (fun l hl => ⟨hv.2.2.2 l hl, by have := hold_le a l; omega⟩)
  have hb : ev m_W_findBestWord 0 [some (eR 0), some (eI x)] [] (wC S, (0, 0)) = some (.inl (some (eI (bwA (op a k).testBit (wp a) (a 2)).1)), (wC S, (0, 0))) := hb
  generalize (bwA (op a k).testBit (wp a) (a 2)).1 = zr at hb ⊢
  refine xCallWV (N := 3) (M2 := m_S_bestWord) (pc2 := 2) (ls2 := [some (eR 0), some (eI x)]) (st2 := []) (y := m_S_requireSlot) (as := [some (eR 0), some (eI x)]) (w2 := (([xO P, eA 3 1 ot]) ++ wCb 2 S, c)) rfl (y_slot ⟨hw, hv, hp, hm⟩ ⟨hG, hV, hO, hT, hM⟩ hx h1) ?_
  refine xCallW (N := 4) (M2 := m_S_bestWord) (pc2 := 10) (ls2 := [some (eR 0), some (eI x)]) (st2 := []) (y := m_W_findBestWord) (as := [some (eR 2), some (eI x)]) (w2 := (([xO P, eA 3 1 ot]) ++ wCb 2 S, c)) rfl (yWin hb rfl rfl rfl) ?_
  refine xSeg (N := 1) (r := some (.inl (some (eI zr)), (([xO P, eA 3 1 ot]) ++ wCb 2 S, c))) rfl ?_
  rfl
theorem s_firstXX {P ot : Nat → Int} {S : wS} {a : eRow} {c : Nat × Nat} (hA : wA S a) (hI : iA a) {x : Int} (bx : -2147483648 ≤ x ∧ x < 2147483648) (h : ¬ (0 ≤ x ∧ x < (a 3 : Int))) : ev m_S_firstX 0 [some (eR 0), some (eI x)] [] ([xO P, eA 3 1 ot] ++ wCb 2 S, c) = some (.inr 2, ([xO P, eA 3 1 ot] ++ wCb 2 S, (c.1 + 1, c.2 + 6))) := by
  refine xExc (N := 3) (E := 2) (M2 := m_S_firstX) (pc2 := 2) (ls2 := [some (eR 0), some (eI x)]) (st2 := []) (y := m_S_requireSlot) (as := [some (eR 0), some (eI x)]) (w2 := (([xO P, eA 3 1 ot]) ++ wCb 2 S, c)) rfl (y_slotX hA hI bx h) (by first | rfl | decide) ?_
  rfl
theorem s_firstYX {P ot : Nat → Int} {S : wS} {a : eRow} {c : Nat × Nat} (hA : wA S a) (hI : iA a) {x : Int} (bx : -2147483648 ≤ x ∧ x < 2147483648) (h : ¬ (0 ≤ x ∧ x < (a 3 : Int))) : ev m_S_firstY 0 [some (eR 0), some (eI x)] [] ([xO P, eA 3 1 ot] ++ wCb 2 S, c) = some (.inr 2, ([xO P, eA 3 1 ot] ++ wCb 2 S, (c.1 + 1, c.2 + 6))) := by
  refine xExc (N := 3) (E := 2) (M2 := m_S_firstY) (pc2 := 2) (ls2 := [some (eR 0), some (eI x)]) (st2 := []) (y := m_S_requireSlot) (as := [some (eR 0), some (eI x)]) (w2 := (([xO P, eA 3 1 ot]) ++ wCb 2 S, c)) rfl (y_slotX hA hI bx h) (by first | rfl | decide) ?_
  rfl
theorem s_lengthOfX {P ot : Nat → Int} {S : wS} {a : eRow} {c : Nat × Nat} (hA : wA S a) (hI : iA a) {x : Int} (bx : -2147483648 ≤ x ∧ x < 2147483648) (h : ¬ (0 ≤ x ∧ x < (a 3 : Int))) : ev m_S_lengthOf 0 [some (eR 0), some (eI x)] [] ([xO P, eA 3 1 ot] ++ wCb 2 S, c) = some (.inr 2, ([xO P, eA 3 1 ot] ++ wCb 2 S, (c.1 + 1, c.2 + 6))) := by
  refine xExc (N := 3) (E := 2) (M2 := m_S_lengthOf) (pc2 := 2) (ls2 := [some (eR 0), some (eI x)]) (st2 := []) (y := m_S_requireSlot) (as := [some (eR 0), some (eI x)]) (w2 := (([xO P, eA 3 1 ot]) ++ wCb 2 S, c)) rfl (y_slotX hA hI bx h) (by first | rfl | decide) ?_
  rfl
theorem s_isDownX {P ot : Nat → Int} {S : wS} {a : eRow} {c : Nat × Nat} (hA : wA S a) (hI : iA a) {x : Int} (bx : -2147483648 ≤ x ∧ x < 2147483648) (h : ¬ (0 ≤ x ∧ x < (a 3 : Int))) : ev m_S_isDown 0 [some (eR 0), some (eI x)] [] ([xO P, eA 3 1 ot] ++ wCb 2 S, c) = some (.inr 2, ([xO P, eA 3 1 ot] ++ wCb 2 S, (c.1 + 1, c.2 + 6))) := by
  refine xExc (N := 3) (E := 2) (M2 := m_S_isDown) (pc2 := 2) (ls2 := [some (eR 0), some (eI x)]) (st2 := []) (y := m_S_requireSlot) (as := [some (eR 0), some (eI x)]) (w2 := (([xO P, eA 3 1 ot]) ++ wCb 2 S, c)) rfl (y_slotX hA hI bx h) (by first | rfl | decide) ?_
  rfl
theorem s_crossingCountX {P ot : Nat → Int} {S : wS} {a : eRow} {c : Nat × Nat} (hA : wA S a) (hI : iA a) {x : Int} (bx : -2147483648 ≤ x ∧ x < 2147483648) (h : ¬ (0 ≤ x ∧ x < (a 3 : Int))) : ev m_S_crossingCount 0 [some (eR 0), some (eI x)] [] ([xO P, eA 3 1 ot] ++ wCb 2 S, c) = some (.inr 2, ([xO P, eA 3 1 ot] ++ wCb 2 S, (c.1 + 1, c.2 + 6))) := by
  refine xExc (N := 3) (E := 2) (M2 := m_S_crossingCount) (pc2 := 2) (ls2 := [some (eR 0), some (eI x)]) (st2 := []) (y := m_S_requireSlot) (as := [some (eR 0), some (eI x)]) (w2 := (([xO P, eA 3 1 ot]) ++ wCb 2 S, c)) rfl (y_slotX hA hI bx h) (by first | rfl | decide) ?_
  rfl
theorem s_candidateCountX {P ot : Nat → Int} {S : wS} {a : eRow} {c : Nat × Nat} (hA : wA S a) (hI : iA a) {x : Int} (bx : -2147483648 ≤ x ∧ x < 2147483648) (h : ¬ (0 ≤ x ∧ x < (a 3 : Int))) : ev m_S_candidateCount 0 [some (eR 0), some (eI x)] [] ([xO P, eA 3 1 ot] ++ wCb 2 S, c) = some (.inr 2, ([xO P, eA 3 1 ot] ++ wCb 2 S, (c.1 + 1, c.2 + 6))) := by
  refine xExc (N := 3) (E := 2) (M2 := m_S_candidateCount) (pc2 := 2) (ls2 := [some (eR 0), some (eI x)]) (st2 := []) (y := m_S_requireSlot) (as := [some (eR 0), some (eI x)]) (w2 := (([xO P, eA 3 1 ot]) ++ wCb 2 S, c)) rfl (y_slotX hA hI bx h) (by first | rfl | decide) ?_
  rfl
theorem s_bestWordX {P ot : Nat → Int} {S : wS} {a : eRow} {c : Nat × Nat} (hA : wA S a) (hI : iA a) {x : Int} (bx : -2147483648 ≤ x ∧ x < 2147483648) (h : ¬ (0 ≤ x ∧ x < (a 3 : Int))) : ev m_S_bestWord 0 [some (eR 0), some (eI x)] [] ([xO P, eA 3 1 ot] ++ wCb 2 S, c) = some (.inr 2, ([xO P, eA 3 1 ot] ++ wCb 2 S, (c.1 + 1, c.2 + 6))) := by
  refine xExc (N := 3) (E := 2) (M2 := m_S_bestWord) (pc2 := 2) (ls2 := [some (eR 0), some (eI x)]) (st2 := []) (y := m_S_requireSlot) (as := [some (eR 0), some (eI x)]) (w2 := (([xO P, eA 3 1 ot]) ++ wCb 2 S, c)) rfl (y_slotX hA hI bx h) (by first | rfl | decide) ?_
  rfl
theorem s_firstX {P ot : Nat → Int} {S : wS} {a : eRow} {c : Nat × Nat} (hA : wA S a) (hI : iA a) {x : Int} {k : Nat} (hx : x = (k : Int)) (h1 : k < a 3) : ev m_S_firstX 0 [some (eR 0), some (eI x)] [] ([xO P, eA 3 1 ot] ++ wCb 2 S, c) = some (.inl (some (eI (((sx a k : Nat) : Int)))), ([xO P, eA 3 1 ot] ++ wCb 2 S, c)) := by
  obtain ⟨hw, hv, hp, hm⟩ := hA
  obtain ⟨hG, hV, hO, hT, hM⟩ := hI
  have g0 := hw.1.1.1
  have g1 := hw.1.1.2.1
  have g4 := hw.1.1.2.2
  have v2 := hv.1
  have d5 := hp.1.1
  have bG := hG.1
  have bV := hV.1
  have b5 := iT_24 bG.2.2.2.2 hT
  have hb := (hw.1.2.2 k h1).1
  obtain ⟨q1, q2, q3, q4, q5, q6, q7⟩ := sl_at hG h1
  refine xCallWV (N := 3) (M2 := m_S_firstX) (pc2 := 2) (ls2 := [some (eR 0), some (eI x)]) (st2 := []) (y := m_S_requireSlot) (as := [some (eR 0), some (eI x)]) (w2 := (([xO P, eA 3 1 ot]) ++ wCb 2 S, c)) rfl (y_slot ⟨hw, hv, hp, hm⟩ ⟨hG, hV, hO, hT, hM⟩ hx h1) ?_
  refine xLd (N := 6) (n := 24) (i := x) (F := fun zq => ev m_S_firstX 17 [some (eR 0), some (eI x)] [eI (S 4 zq)] (([xO P, eA 3 1 ot]) ++ wCb 2 S, c)) (k := k) rfl (wr_nat (by omega) (by omega)) (by omega) ?_
  refine xNz (N := 2) (y := 6) (A := ev m_S_firstX 20 [some (eR 0), some (eI x)] [eI (bRem (S 4 k) 6)] (([xO P, eA 3 1 ot]) ++ wCb 2 S, c)) rfl (by decide) ?_
  refine xSeg (N := 1) (r := some (.inl (some (eI (bRem (S 4 k) 6))), (([xO P, eA 3 1 ot]) ++ wCb 2 S, c))) rfl ?_
  exact lf (by rw [hb]; exact (bRem_n (b := 6) (by omega) (by omega) (by omega)).trans (by omega))
theorem s_firstY {P ot : Nat → Int} {S : wS} {a : eRow} {c : Nat × Nat} (hA : wA S a) (hI : iA a) {x : Int} {k : Nat} (hx : x = (k : Int)) (h1 : k < a 3) : ev m_S_firstY 0 [some (eR 0), some (eI x)] [] ([xO P, eA 3 1 ot] ++ wCb 2 S, c) = some (.inl (some (eI (((sy a k : Nat) : Int)))), ([xO P, eA 3 1 ot] ++ wCb 2 S, c)) := by
  obtain ⟨hw, hv, hp, hm⟩ := hA
  obtain ⟨hG, hV, hO, hT, hM⟩ := hI
  have g0 := hw.1.1.1
  have g1 := hw.1.1.2.1
  have g4 := hw.1.1.2.2
  have v2 := hv.1
  have d5 := hp.1.1
  have bG := hG.1
  have bV := hV.1
  have b5 := iT_24 bG.2.2.2.2 hT
  have hb := (hw.1.2.2 k h1).1
  obtain ⟨q1, q2, q3, q4, q5, q6, q7⟩ := sl_at hG h1
  refine xCallWV (N := 3) (M2 := m_S_firstY) (pc2 := 2) (ls2 := [some (eR 0), some (eI x)]) (st2 := []) (y := m_S_requireSlot) (as := [some (eR 0), some (eI x)]) (w2 := (([xO P, eA 3 1 ot]) ++ wCb 2 S, c)) rfl (y_slot ⟨hw, hv, hp, hm⟩ ⟨hG, hV, hO, hT, hM⟩ hx h1) ?_
  refine xLd (N := 6) (n := 24) (i := x) (F := fun zq => ev m_S_firstY 17 [some (eR 0), some (eI x)] [eI (S 4 zq)] (([xO P, eA 3 1 ot]) ++ wCb 2 S, c)) (k := k) rfl (wr_nat (by omega) (by omega)) (by omega) ?_
  refine xNz (N := 2) (y := 6) (A := ev m_S_firstY 20 [some (eR 0), some (eI x)] [eI (bDiv (S 4 k) 6)] (([xO P, eA 3 1 ot]) ++ wCb 2 S, c)) rfl (by decide) ?_
  refine xSeg (N := 1) (r := some (.inl (some (eI (bDiv (S 4 k) 6))), (([xO P, eA 3 1 ot]) ++ wCb 2 S, c))) rfl ?_
  exact lf (by rw [hb]; exact (bDiv_n (b := 6) (by omega) (by omega) (by omega)).trans (by omega))
