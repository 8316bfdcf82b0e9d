/-! The class's questions, further. -/
set_option maxRecDepth 100000
theorem s_wordLength {P ot : Nat → Int} {S : wS} {a : eRow} {c : Nat × Nat} (hA : wA S a) (hI : iA a) {x : Int} {w : Nat} (hx : x = (w : Int)) (h1 : w < a 2) : ev m_S_wordLength 0 [some (eR 0), some (eI x)] [] ([xO P, eA 3 1 ot] ++ wCb 2 S, c) = some (.inl (some (eI (((wl a w : Nat) : Int)))), ([xO P, eA 3 1 ot] ++ wCb 2 S, c)) := by
  obtain ⟨hw, hv, hp, hm⟩ := hA
  obtain ⟨hG, hV, hO, hT, hM⟩ := hI
  have g0 := hw.1.1.1
  have g1 := hw.1.1.2.1
  have g4 := hw.1.1.2.2
  have v2 := hv.1
  have d5 := hp.1.1
  have bG := hG.1
  have bV := hV.1
  have b5 := iT_24 bG.2.2.2.2 hT
  have hb := hv.2.1 w h1
  refine xCallWV (N := 3) (M2 := m_S_wordLength) (pc2 := 2) (ls2 := [some (eR 0), some (eI x)]) (st2 := []) (y := m_S_requireWord) (as := [some (eR 0), some (eI x)]) (w2 := (([xO P, eA 3 1 ot]) ++ wCb 2 S, c)) rfl (y_word ⟨hw, hv, hp, hm⟩ ⟨hG, hV, hO, hT, hM⟩ hx h1) ?_
  refine xLd (N := 6) (n := 30) (i := x) (F := fun zq => ev m_S_wordLength 17 [some (eR 0), some (eI x)] [eI (S 12 zq)] (([xO P, eA 3 1 ot]) ++ wCb 2 S, c)) (k := w) rfl (wr_nat (by omega) (by omega)) (by omega) ?_
  refine xSeg (N := 1) (r := some (.inl (some (eI (S 12 w))), (([xO P, eA 3 1 ot]) ++ wCb 2 S, c))) rfl ?_
  exact lf hb
theorem s_prizeOf {P ot : Nat → Int} {S : wS} {a : eRow} {c : Nat × Nat} (hA : wA S a) (hI : iA a) {x : Int} {w : Nat} (hx : x = (w : Int)) (h1 : w < a 2) : ev m_S_prizeOf 0 [some (eR 0), some (eI x)] [] ([xO P, eA 3 1 ot] ++ wCb 2 S, c) = some (.inl (some (eI (((wp a w : Nat) : Int)))), ([xO P, eA 3 1 ot] ++ wCb 2 S, c)) := by
  obtain ⟨hw, hv, hp, hm⟩ := hA
  obtain ⟨hG, hV, hO, hT, hM⟩ := hI
  have g0 := hw.1.1.1
  have g1 := hw.1.1.2.1
  have g4 := hw.1.1.2.2
  have v2 := hv.1
  have d5 := hp.1.1
  have bG := hG.1
  have bV := hV.1
  have b5 := iT_24 bG.2.2.2.2 hT
  have hb := c_prize (c := (0, 0)) (L := wl a w) (f := lt a w) (hd := hold a) hx (by omega) (hv.2.1 w h1) (hV.2 w h1).2.1 (fun p hp9 => ⟨hv.2.2.1 w p h1 hp9, lt_26 hV h1 hp9⟩) (fun l hl => ⟨hv.2.2.2 l hl, by have := hold_le a l; omega⟩)
  have hb : ev m_V_prize 0 [some (eR 11), some (eI x)] [] (wC S, (0, 0)) = some (.inl (some (eI ((wp a w : Nat) : Int))), (wC S, (0, 0))) := hb
  generalize ((wp a w : Nat) : Int) = zr at hb ⊢
  refine xCallWV (N := 3) (M2 := m_S_prizeOf) (pc2 := 2) (ls2 := [some (eR 0), some (eI x)]) (st2 := []) (y := m_S_requireWord) (as := [some (eR 0), some (eI x)]) (w2 := (([xO P, eA 3 1 ot]) ++ wCb 2 S, c)) rfl (y_word ⟨hw, hv, hp, hm⟩ ⟨hG, hV, hO, hT, hM⟩ hx h1) ?_
  refine xCallW (N := 5) (M2 := m_S_prizeOf) (pc2 := 13) (ls2 := [some (eR 0), some (eI x)]) (st2 := []) (y := m_V_prize) (as := [some (eR 13), some (eI x)]) (w2 := (([xO P, eA 3 1 ot]) ++ wCb 2 S, c)) rfl (yWin hb rfl rfl rfl) ?_
  refine xSeg (N := 1) (r := some (.inl (some (eI zr)), (([xO P, eA 3 1 ot]) ++ wCb 2 S, c))) rfl ?_
  rfl
theorem s_wordLengthX {P ot : Nat → Int} {S : wS} {a : eRow} {c : Nat × Nat} (hA : wA S a) (hI : iA a) {x : Int} (bx : -2147483648 ≤ x ∧ x < 2147483648) (h : ¬ (0 ≤ x ∧ x < (a 2 : Int))) : ev m_S_wordLength 0 [some (eR 0), some (eI x)] [] ([xO P, eA 3 1 ot] ++ wCb 2 S, c) = some (.inr 2, ([xO P, eA 3 1 ot] ++ wCb 2 S, (c.1 + 1, c.2 + 6))) := by
  refine xExc (N := 3) (E := 2) (M2 := m_S_wordLength) (pc2 := 2) (ls2 := [some (eR 0), some (eI x)]) (st2 := []) (y := m_S_requireWord) (as := [some (eR 0), some (eI x)]) (w2 := (([xO P, eA 3 1 ot]) ++ wCb 2 S, c)) rfl (y_wordX hA hI bx h) (by first | rfl | decide) ?_
  rfl
theorem s_prizeOfX {P ot : Nat → Int} {S : wS} {a : eRow} {c : Nat × Nat} (hA : wA S a) (hI : iA a) {x : Int} (bx : -2147483648 ≤ x ∧ x < 2147483648) (h : ¬ (0 ≤ x ∧ x < (a 2 : Int))) : ev m_S_prizeOf 0 [some (eR 0), some (eI x)] [] ([xO P, eA 3 1 ot] ++ wCb 2 S, c) = some (.inr 2, ([xO P, eA 3 1 ot] ++ wCb 2 S, (c.1 + 1, c.2 + 6))) := by
  refine xExc (N := 3) (E := 2) (M2 := m_S_prizeOf) (pc2 := 2) (ls2 := [some (eR 0), some (eI x)]) (st2 := []) (y := m_S_requireWord) (as := [some (eR 0), some (eI x)]) (w2 := (([xO P, eA 3 1 ot]) ++ wCb 2 S, c)) rfl (y_wordX hA hI bx h) (by first | rfl | decide) ?_
  rfl
theorem s_letterOf {P ot : Nat → Int} {S : wS} {a : eRow} {c : Nat × Nat} (hA : wA S a) (hI : iA a) {x : Int} {w : Nat} (hx : x = (w : Int)) (h1 : w < a 2) {y : Int} {p : Nat} (hy : y = (p : Int)) (h2 : p < wl a w) : ev m_S_letterOf 0 [some (eR 0), some (eI x), some (eI y)] [] ([xO P, eA 3 1 ot] ++ wCb 2 S, c) = some (.inl (some (eI (((97 + lt a w p : Nat) : Int)))), ([xO P, eA 3 1 ot] ++ wCb 2 S, c)) := by
  obtain ⟨hw, hv, hp, hm⟩ := hA
  obtain ⟨hG, hV, hO, hT, hM⟩ := hI
  have g0 := hw.1.1.1
  have g1 := hw.1.1.2.1
  have g4 := hw.1.1.2.2
  have v2 := hv.1
  have d5 := hp.1.1
  have bG := hG.1
  have bV := hV.1
  have b5 := iT_24 bG.2.2.2.2 hT
  have hb := hv.2.1 w h1
  have hb2 := hv.2.2.1 w p h1 h2
  have hb3 := hV.2 w h1
  refine xCallWV (N := 3) (M2 := m_S_letterOf) (pc2 := 2) (ls2 := [some (eR 0), some (eI x), some (eI y)]) (st2 := []) (y := m_S_requireWord) (as := [some (eR 0), some (eI x)]) (w2 := (([xO P, eA 3 1 ot]) ++ wCb 2 S, c)) rfl (y_word ⟨hw, hv, hp, hm⟩ ⟨hG, hV, hO, hT, hM⟩ hx h1) ?_
  refine xLtF (N := 2) (x := y) (y := 0) (A := ev m_S_letterOf 25 [some (eR 0), some (eI x), some (eI y)] [] (([xO P, eA 3 1 ot]) ++ wCb 2 S, c)) (B := ev m_S_letterOf 9 [some (eR 0), some (eI x), some (eI y)] [] (([xO P, eA 3 1 ot]) ++ wCb 2 S, c)) rfl (wr_id (by omega) (by omega)) (show wr 0 = 0 by decide) (by omega) ?_
  refine xLd (N := 7) (n := 30) (i := x) (F := fun zq => ev m_S_letterOf 22 [some (eR 0), some (eI x), some (eI y)] [eI (S 12 zq), eI y] (([xO P, eA 3 1 ot]) ++ wCb 2 S, c)) (k := w) rfl (wr_nat (by omega) (by omega)) (by omega) ?_
  refine xLtT (N := 1) (x := y) (y := S 12 w) (A := ev m_S_letterOf 33 [some (eR 0), some (eI x), some (eI y)] [] (([xO P, eA 3 1 ot]) ++ wCb 2 S, c)) (B := ev m_S_letterOf 25 [some (eR 0), some (eI x), some (eI y)] [] (([xO P, eA 3 1 ot]) ++ wCb 2 S, c)) rfl (wr_id (by omega) (by omega)) (wr_id (by omega) (by omega)) (by omega) ?_
  refine xLd (N := 11) (n := 180) (i := (x * 6) + y) (F := fun zq => ev m_S_letterOf 52 [some (eR 0), some (eI x), some (eI y)] [eI (S 13 zq), eI 97] (([xO P, eA 3 1 ot]) ++ wCb 2 S, c)) (k := (w * 6) + p) rfl (wr_nat (by omega) (by omega)) (by omega) ?_
  refine xSeg (N := 2) (r := some (.inl (some (eI (97 + (S 13 ((w * 6) + p))))), (([xO P, eA 3 1 ot]) ++ wCb 2 S, c))) rfl ?_
  exact lf (by omega)
theorem s_letterOfX {P ot : Nat → Int} {S : wS} {a : eRow} {c : Nat × Nat} (hA : wA S a) (hI : iA a) {x : Int} (bx : -2147483648 ≤ x ∧ x < 2147483648) (h : ¬ (0 ≤ x ∧ x < (a 2 : Int))) {y : Int} : ev m_S_letterOf 0 [some (eR 0), some (eI x), some (eI y)] [] ([xO P, eA 3 1 ot] ++ wCb 2 S, c) = some (.inr 2, ([xO P, eA 3 1 ot] ++ wCb 2 S, (c.1 + 1, c.2 + 6))) := by
  refine xExc (N := 3) (E := 2) (M2 := m_S_letterOf) (pc2 := 2) (ls2 := [some (eR 0), some (eI x), some (eI y)]) (st2 := []) (y := m_S_requireWord) (as := [some (eR 0), some (eI x)]) (w2 := (([xO P, eA 3 1 ot]) ++ wCb 2 S, c)) rfl (y_wordX hA hI bx h) (by first | rfl | decide) ?_
  rfl
theorem s_letterOfY {P ot : Nat → Int} {S : wS} {a : eRow} {c : Nat × Nat} (hA : wA S a) (hI : iA a) {x : Int} {w : Nat} (hx : x = (w : Int)) (h1 : w < a 2) {y : Int} (by_ : -2147483648 ≤ y ∧ y < 2147483648) (h2 : ¬ (0 ≤ y ∧ y < (wl a w : Int))) : ev m_S_letterOf 0 [some (eR 0), some (eI x), some (eI y)] [] ([xO P, eA 3 1 ot] ++ wCb 2 S, c) = some (.inr 3, ([xO P, eA 3 1 ot] ++ wCb 2 S, (c.1 + 1, c.2 + 6))) := by
  obtain ⟨hw, hv, hp, hm⟩ := hA
  obtain ⟨hG, hV, hO, hT, hM⟩ := hI
  have g0 := hw.1.1.1
  have g1 := hw.1.1.2.1
  have g4 := hw.1.1.2.2
  have v2 := hv.1
  have d5 := hp.1.1
  have bG := hG.1
  have bV := hV.1
  have b5 := iT_24 bG.2.2.2.2 hT
  have hb := hv.2.1 w h1
  have hb3 := hV.2 w h1
  by_cases h0 : y < 0
  · refine xCallWV (N := 3) (M2 := m_S_letterOf) (pc2 := 2) (ls2 := [some (eR 0), some (eI x), some (eI y)]) (st2 := []) (y := m_S_requireWord) (as := [some (eR 0), some (eI x)]) (w2 := (([xO P, eA 3 1 ot]) ++ wCb 2 S, c)) rfl (y_word ⟨hw, hv, hp, hm⟩ ⟨hG, hV, hO, hT, hM⟩ hx h1) ?_
    refine xLtT (N := 2) (x := y) (y := 0) (A := ev m_S_letterOf 25 [some (eR 0), some (eI x), some (eI y)] [] (([xO P, eA 3 1 ot]) ++ wCb 2 S, c)) (B := ev m_S_letterOf 9 [some (eR 0), some (eI x), some (eI y)] [] (([xO P, eA 3 1 ot]) ++ wCb 2 S, c)) rfl (wr_id (by omega) (by omega)) (show wr 0 = 0 by decide) (by omega) ?_
    refine xSeg (N := 1) (r := some (.inr 3, (([xO P, eA 3 1 ot]) ++ wCb 2 S, (c.1 + 1, c.2 + 6)))) rfl ?_
    rfl
  · refine xCallWV (N := 3) (M2 := m_S_letterOf) (pc2 := 2) (ls2 := [some (eR 0), some (eI x), some (eI y)]) (st2 := []) (y := m_S_requireWord) (as := [some (eR 0), some (eI x)]) (w2 := (([xO P, eA 3 1 ot]) ++ wCb 2 S, c)) rfl (y_word ⟨hw, hv, hp, hm⟩ ⟨hG, hV, hO, hT, hM⟩ hx h1) ?_
    refine xLtF (N := 2) (x := y) (y := 0) (A := ev m_S_letterOf 25 [some (eR 0), some (eI x), some (eI y)] [] (([xO P, eA 3 1 ot]) ++ wCb 2 S, c)) (B := ev m_S_letterOf 9 [some (eR 0), some (eI x), some (eI y)] [] (([xO P, eA 3 1 ot]) ++ wCb 2 S, c)) rfl (wr_id (by omega) (by omega)) (show wr 0 = 0 by decide) (by omega) ?_
    refine xLd (N := 7) (n := 30) (i := x) (F := fun zq => ev m_S_letterOf 22 [some (eR 0), some (eI x), some (eI y)] [eI (S 12 zq), eI y] (([xO P, eA 3 1 ot]) ++ wCb 2 S, c)) (k := w) rfl (wr_nat (by omega) (by omega)) (by omega) ?_
    refine xLtF (N := 1) (x := y) (y := S 12 w) (A := ev m_S_letterOf 33 [some (eR 0), some (eI x), some (eI y)] [] (([xO P, eA 3 1 ot]) ++ wCb 2 S, c)) (B := ev m_S_letterOf 25 [some (eR 0), some (eI x), some (eI y)] [] (([xO P, eA 3 1 ot]) ++ wCb 2 S, c)) rfl (wr_id (by omega) (by omega)) (wr_id (by omega) (by omega)) (by omega) ?_
    refine xSeg (N := 1) (r := some (.inr 3, (([xO P, eA 3 1 ot]) ++ wCb 2 S, (c.1 + 1, c.2 + 6)))) rfl ?_
    rfl
theorem s_wordsWith {P ot : Nat → Int} {S : wS} {a : eRow} {c : Nat × Nat} (hA : wA S a) (hI : iA a) {x : Int} {l : Nat} (hx : x = ((97 + l : Nat) : Int)) (h1 : l < 26) : ev m_S_wordsWith 0 [some (eR 0), some (eI x)] [] ([xO P, eA 3 1 ot] ++ wCb 2 S, c) = some (.inl (some (eI (((hold a l : Nat) : Int)))), ([xO P, eA 3 1 ot] ++ wCb 2 S, c)) := by
  obtain ⟨hw, hv, hp, hm⟩ := hA
  obtain ⟨hG, hV, hO, hT, hM⟩ := hI
  have g0 := hw.1.1.1
  have g1 := hw.1.1.2.1
  have g4 := hw.1.1.2.2
  have v2 := hv.1
  have d5 := hp.1.1
  have bG := hG.1
  have bV := hV.1
  have b5 := iT_24 bG.2.2.2.2 hT
  have hb := hv.2.2.2 l h1
  refine xCallWV (N := 3) (M2 := m_S_wordsWith) (pc2 := 2) (ls2 := [some (eR 0), some (eI x)]) (st2 := []) (y := m_S_requireLetter) (as := [some (eR 0), some (eI x)]) (w2 := (([xO P, eA 3 1 ot]) ++ wCb 2 S, c)) rfl (y_letter (by omega)) ?_
  refine xLd (N := 8) (n := 26) (i := x - 97) (F := fun zq => ev m_S_wordsWith 20 [some (eR 0), some (eI x)] [eI (S 14 zq)] (([xO P, eA 3 1 ot]) ++ wCb 2 S, c)) (k := (x - 97).toNat) rfl (wr_nat (by omega) (by omega)) (by omega) ?_
  refine xSeg (N := 1) (r := some (.inl (some (eI (S 14 ((x - 97).toNat)))), (([xO P, eA 3 1 ot]) ++ wCb 2 S, c))) rfl ?_
  exact lf (by rw [show (x - 97).toNat = l by omega]; exact hb)
theorem s_wordsWithX {P ot : Nat → Int} {S : wS} {a : eRow} {c : Nat × Nat} (hA : wA S a) (hI : iA a) {x : Int} (bx : -2147483648 ≤ x ∧ x < 2147483648) (h : ¬ (97 ≤ x ∧ x ≤ 122)) : ev m_S_wordsWith 0 [some (eR 0), some (eI x)] [] ([xO P, eA 3 1 ot] ++ wCb 2 S, c) = some (.inr 1, ([xO P, eA 3 1 ot] ++ wCb 2 S, (c.1 + 1, c.2 + 6))) := by
  refine xExc (N := 3) (E := 1) (M2 := m_S_wordsWith) (pc2 := 2) (ls2 := [some (eR 0), some (eI x)]) (st2 := []) (y := m_S_requireLetter) (as := [some (eR 0), some (eI x)]) (w2 := (([xO P, eA 3 1 ot]) ++ wCb 2 S, c)) rfl (y_letterX bx h) (by first | rfl | decide) ?_
  rfl
theorem s_prizeOfLetter {P ot : Nat → Int} {S : wS} {a : eRow} {c : Nat × Nat} (hA : wA S a) (hI : iA a) {x : Int} {l : Nat} (hx : x = ((97 + l : Nat) : Int)) (h1 : l < 26) : ev m_S_prizeOfLetter 0 [some (eR 0), some (eI x)] [] ([xO P, eA 3 1 ot] ++ wCb 2 S, c) = some (.inl (some (eI (((pz a l : Nat) : Int)))), ([xO P, eA 3 1 ot] ++ wCb 2 S, c)) := by
  obtain ⟨hw, hv, hp, hm⟩ := hA
  obtain ⟨hG, hV, hO, hT, hM⟩ := hI
  have g0 := hw.1.1.1
  have g1 := hw.1.1.2.1
  have g4 := hw.1.1.2.2
  have v2 := hv.1
  have d5 := hp.1.1
  have bG := hG.1
  have bV := hV.1
  have b5 := iT_24 bG.2.2.2.2 hT
  have hb := c_letterPrize (c := (0, 0)) (x := x - 97) (k := l) (h := hold a l) (by omega) h1 (hv.2.2.2 l h1) (by have := hold_le a l; omega)
  have hb : ev m_V_letterPrize 0 [some (eR 11), some (eI (x - 97))] [] (wC S, (0, 0)) = some (.inl (some (eI ((pz a l : Nat) : Int))), (wC S, (0, 0))) := hb
  generalize ((pz a l : Nat) : Int) = zr at hb ⊢
  refine xCallWV (N := 3) (M2 := m_S_prizeOfLetter) (pc2 := 2) (ls2 := [some (eR 0), some (eI x)]) (st2 := []) (y := m_S_requireLetter) (as := [some (eR 0), some (eI x)]) (w2 := (([xO P, eA 3 1 ot]) ++ wCb 2 S, c)) rfl (y_letter (by omega)) ?_
  refine xCallW (N := 7) (M2 := m_S_prizeOfLetter) (pc2 := 16) (ls2 := [some (eR 0), some (eI x)]) (st2 := []) (y := m_V_letterPrize) (as := [some (eR 13), some (eI (x - 97))]) (w2 := (([xO P, eA 3 1 ot]) ++ wCb 2 S, c)) rfl (yWin hb rfl rfl rfl) ?_
  refine xSeg (N := 1) (r := some (.inl (some (eI zr)), (([xO P, eA 3 1 ot]) ++ wCb 2 S, c))) rfl ?_
  rfl
theorem s_prizeOfLetterX {P ot : Nat → Int} {S : wS} {a : eRow} {c : Nat × Nat} (hA : wA S a) (hI : iA a) {x : Int} (bx : -2147483648 ≤ x ∧ x < 2147483648) (h : ¬ (97 ≤ x ∧ x ≤ 122)) : ev m_S_prizeOfLetter 0 [some (eR 0), some (eI x)] [] ([xO P, eA 3 1 ot] ++ wCb 2 S, c) = some (.inr 1, ([xO P, eA 3 1 ot] ++ wCb 2 S, (c.1 + 1, c.2 + 6))) := by
  refine xExc (N := 3) (E := 1) (M2 := m_S_prizeOfLetter) (pc2 := 2) (ls2 := [some (eR 0), some (eI x)]) (st2 := []) (y := m_S_requireLetter) (as := [some (eR 0), some (eI x)]) (w2 := (([xO P, eA 3 1 ot]) ++ wCb 2 S, c)) rfl (y_letterX bx h) (by first | rfl | decide) ?_
  rfl
theorem s_isCandidate {P ot : Nat → Int} {S : wS} {a : eRow} {c : Nat × Nat} (hA : wA S a) (hI : iA a) {x : Int} {k : Nat} (hx : x = (k : Int)) (h1 : k < a 3) {y : Int} {w : Nat} (hy : y = (w : Int)) (h2 : w < a 2) : ev m_S_isCandidate 0 [some (eR 0), some (eI x), some (eI y)] [] ([xO P, eA 3 1 ot] ++ wCb 2 S, c) = some (.inl (some (eI (bI ((op a k).testBit w)))), ([xO P, eA 3 1 ot] ++ wCb 2 S, c)) := by
  obtain ⟨hw, hv, hp, hm⟩ := hA
  obtain ⟨hG, hV, hO, hT, hM⟩ := hI
  have g0 := hw.1.1.1
  have g1 := hw.1.1.2.1
  have g4 := hw.1.1.2.2
  have v2 := hv.1
  have d5 := hp.1.1
  have bG := hG.1
  have bV := hV.1
  have b5 := iT_24 bG.2.2.2.2 hT
  have hb := c_hasCandidate (c := (0, 0)) hx hy (by omega) (hp.2.1 k h1) (hO k h1).1 (by omega)
  have hz := bI_1 (b := (op a k).testBit w) rfl
  generalize bI ((op a k).testBit w) = zr at hb hz ⊢
  refine xCallWV (N := 3) (M2 := m_S_isCandidate) (pc2 := 2) (ls2 := [some (eR 0), some (eI x), some (eI y)]) (st2 := []) (y := m_S_requireSlot) (as := [some (eR 0), some (eI x)]) (w2 := (([xO P, eA 3 1 ot]) ++ wCb 2 S, c)) rfl (y_slot ⟨hw, hv, hp, hm⟩ ⟨hG, hV, hO, hT, hM⟩ hx h1) ?_
  refine xCallWV (N := 3) (M2 := m_S_isCandidate) (pc2 := 7) (ls2 := [some (eR 0), some (eI x), some (eI y)]) (st2 := []) (y := m_S_requireWord) (as := [some (eR 0), some (eI y)]) (w2 := (([xO P, eA 3 1 ot]) ++ wCb 2 S, c)) rfl (y_word ⟨hw, hv, hp, hm⟩ ⟨hG, hV, hO, hT, hM⟩ hy h2) ?_
  refine xCallW (N := 5) (M2 := m_S_isCandidate) (pc2 := 16) (ls2 := [some (eR 0), some (eI x), some (eI y)]) (st2 := []) (y := m_W_hasCandidate) (as := [some (eR 2), some (eI x), some (eI y)]) (w2 := (([xO P, eA 3 1 ot]) ++ wCb 2 S, c)) rfl (yWin hb rfl rfl rfl) ?_
  refine xRb (N := 1) (v := zr) (w2 := (([xO P, eA 3 1 ot]) ++ wCb 2 S, c)) rfl (by rw [wr_id (by omega) (by omega)]; omega) ?_
  rfl
theorem s_guessRefusal {P ot : Nat → Int} {S : wS} {a : eRow} {c : Nat × Nat} (hA : wA S a) (hI : iA a) {x : Int} {k : Nat} (hx : x = (k : Int)) (h1 : k < a 3) {y : Int} {w : Nat} (hy : y = (w : Int)) (h2 : w < a 2) : ev m_S_guessRefusal 0 [some (eR 0), some (eI x), some (eI y)] [] ([xO P, eA 3 1 ot] ++ wCb 2 S, c) = some (.inl (some (eI (((rfs (a 4) ((op a k).testBit w) (decide (pc 30 (op a k) = 1)) : Nat) : Int)))), ([xO P, eA 3 1 ot] ++ wCb 2 S, c)) := by
  obtain ⟨hw, hv, hp, hm⟩ := hA
  obtain ⟨hG, hV, hO, hT, hM⟩ := hI
  have g0 := hw.1.1.1
  have g1 := hw.1.1.2.1
  have g4 := hw.1.1.2.2
  have v2 := hv.1
  have d5 := hp.1.1
  have bG := hG.1
  have bV := hV.1
  have b5 := iT_24 bG.2.2.2.2 hT
  have hb := c_refusal (c := (0, 0)) (o := op a) hx hy (by omega) hm hM.1 (hp.2.1 k h1) (hO k h1).1 (by omega)
  generalize ((rfs (a 4) ((op a k).testBit w) (decide (pc 30 (op a k) = 1)) : Nat) : Int) = zr at hb ⊢
  refine xCallWV (N := 3) (M2 := m_S_guessRefusal) (pc2 := 2) (ls2 := [some (eR 0), some (eI x), some (eI y)]) (st2 := []) (y := m_S_requireSlot) (as := [some (eR 0), some (eI x)]) (w2 := (([xO P, eA 3 1 ot]) ++ wCb 2 S, c)) rfl (y_slot ⟨hw, hv, hp, hm⟩ ⟨hG, hV, hO, hT, hM⟩ hx h1) ?_
  refine xCallWV (N := 3) (M2 := m_S_guessRefusal) (pc2 := 7) (ls2 := [some (eR 0), some (eI x), some (eI y)]) (st2 := []) (y := m_S_requireWord) (as := [some (eR 0), some (eI y)]) (w2 := (([xO P, eA 3 1 ot]) ++ wCb 2 S, c)) rfl (y_word ⟨hw, hv, hp, hm⟩ ⟨hG, hV, hO, hT, hM⟩ hy h2) ?_
  refine xCallW (N := 5) (M2 := m_S_guessRefusal) (pc2 := 16) (ls2 := [some (eR 0), some (eI x), some (eI y)]) (st2 := []) (y := m_W_refusal) (as := [some (eR 2), some (eI x), some (eI y)]) (w2 := (([xO P, eA 3 1 ot]) ++ wCb 2 S, c)) rfl (yWin hb rfl rfl rfl) ?_
  refine xSeg (N := 1) (r := some (.inl (some (eI zr)), (([xO P, eA 3 1 ot]) ++ wCb 2 S, c))) rfl ?_
  rfl
theorem s_isCandidateX {P ot : Nat → Int} {S : wS} {a : eRow} {c : Nat × Nat} (hA : wA S a) (hI : iA a) {x : Int} (bx : -2147483648 ≤ x ∧ x < 2147483648) (h : ¬ (0 ≤ x ∧ x < (a 3 : Int))) {y : Int} : ev m_S_isCandidate 0 [some (eR 0), some (eI x), some (eI y)] [] ([xO P, eA 3 1 ot] ++ wCb 2 S, c) = some (.inr 2, ([xO P, eA 3 1 ot] ++ wCb 2 S, (c.1 + 1, c.2 + 6))) := by
  refine xExc (N := 3) (E := 2) (M2 := m_S_isCandidate) (pc2 := 2) (ls2 := [some (eR 0), some (eI x), some (eI y)]) (st2 := []) (y := m_S_requireSlot) (as := [some (eR 0), some (eI x)]) (w2 := (([xO P, eA 3 1 ot]) ++ wCb 2 S, c)) rfl (y_slotX hA hI bx h) (by first | rfl | decide) ?_
  rfl
theorem s_isCandidateY {P ot : Nat → Int} {S : wS} {a : eRow} {c : Nat × Nat} (hA : wA S a) (hI : iA a) {x : Int} {k : Nat} (hx : x = (k : Int)) (h1 : k < a 3) {y : Int} (bx : -2147483648 ≤ y ∧ y < 2147483648) (h : ¬ (0 ≤ y ∧ y < (a 2 : Int))) : ev m_S_isCandidate 0 [some (eR 0), some (eI x), some (eI y)] [] ([xO P, eA 3 1 ot] ++ wCb 2 S, c) = some (.inr 2, ([xO P, eA 3 1 ot] ++ wCb 2 S, (c.1 + 1, c.2 + 6))) := by
  refine xCallWV (N := 3) (M2 := m_S_isCandidate) (pc2 := 2) (ls2 := [some (eR 0), some (eI x), some (eI y)]) (st2 := []) (y := m_S_requireSlot) (as := [some (eR 0), some (eI x)]) (w2 := (([xO P, eA 3 1 ot]) ++ wCb 2 S, c)) rfl (y_slot hA hI hx h1) ?_
  refine xExc (N := 3) (E := 2) (M2 := m_S_isCandidate) (pc2 := 7) (ls2 := [some (eR 0), some (eI x), some (eI y)]) (st2 := []) (y := m_S_requireWord) (as := [some (eR 0), some (eI y)]) (w2 := (([xO P, eA 3 1 ot]) ++ wCb 2 S, c)) rfl (y_wordX hA hI bx h) (by first | rfl | decide) ?_
  rfl
theorem s_guessRefusalX {P ot : Nat → Int} {S : wS} {a : eRow} {c : Nat × Nat} (hA : wA S a) (hI : iA a) {x : Int} (bx : -2147483648 ≤ x ∧ x < 2147483648) (h : ¬ (0 ≤ x ∧ x < (a 3 : Int))) {y : Int} : ev m_S_guessRefusal 0 [some (eR 0), some (eI x), some (eI y)] [] ([xO P, eA 3 1 ot] ++ wCb 2 S, c) = some (.inr 2, ([xO P, eA 3 1 ot] ++ wCb 2 S, (c.1 + 1, c.2 + 6))) := by
  refine xExc (N := 3) (E := 2) (M2 := m_S_guessRefusal) (pc2 := 2) (ls2 := [some (eR 0), some (eI x), some (eI y)]) (st2 := []) (y := m_S_requireSlot) (as := [some (eR 0), some (eI x)]) (w2 := (([xO P, eA 3 1 ot]) ++ wCb 2 S, c)) rfl (y_slotX hA hI bx h) (by first | rfl | decide) ?_
  rfl
theorem s_guessRefusalY {P ot : Nat → Int} {S : wS} {a : eRow} {c : Nat × Nat} (hA : wA S a) (hI : iA a) {x : Int} {k : Nat} (hx : x = (k : Int)) (h1 : k < a 3) {y : Int} (bx : -2147483648 ≤ y ∧ y < 2147483648) (h : ¬ (0 ≤ y ∧ y < (a 2 : Int))) : ev m_S_guessRefusal 0 [some (eR 0), some (eI x), some (eI y)] [] ([xO P, eA 3 1 ot] ++ wCb 2 S, c) = some (.inr 2, ([xO P, eA 3 1 ot] ++ wCb 2 S, (c.1 + 1, c.2 + 6))) := by
  refine xCallWV (N := 3) (M2 := m_S_guessRefusal) (pc2 := 2) (ls2 := [some (eR 0), some (eI x), some (eI y)]) (st2 := []) (y := m_S_requireSlot) (as := [some (eR 0), some (eI x)]) (w2 := (([xO P, eA 3 1 ot]) ++ wCb 2 S, c)) rfl (y_slot hA hI hx h1) ?_
  refine xExc (N := 3) (E := 2) (M2 := m_S_guessRefusal) (pc2 := 7) (ls2 := [some (eR 0), some (eI x), some (eI y)]) (st2 := []) (y := m_S_requireWord) (as := [some (eR 0), some (eI y)]) (w2 := (([xO P, eA 3 1 ot]) ++ wCb 2 S, c)) rfl (y_wordX hA hI bx h) (by first | rfl | decide) ?_
  rfl
theorem s_candidateAt {P ot : Nat → Int} {S : wS} {a : eRow} {c : Nat × Nat} (hA : wA S a) (hI : iA a) {x : Int} {k : Nat} (hx : x = (k : Int)) (h1 : k < a 3) {y : Int} (by_ : -2147483648 ≤ y ∧ y < 2147483648) (h2 : (fnd (fun w => (op a k).testBit w && decide (((fb_ct (op a k).testBit w : Nat) : Int) = y)) (a 2) 0) ≠ -1) : ev m_S_candidateAt 0 [some (eR 0), some (eI x), some (eI y)] [] ([xO P, eA 3 1 ot] ++ wCb 2 S, c) = some (.inl (some (eI ((fnd (fun w => (op a k).testBit w && decide (((fb_ct (op a k).testBit w : Nat) : Int) = y)) (a 2) 0)))), ([xO P, eA 3 1 ot] ++ wCb 2 S, c)) := by
  obtain ⟨hw, hv, hp, hm⟩ := hA
  obtain ⟨hG, hV, hO, hT, hM⟩ := hI
  have g0 := hw.1.1.1
  have g1 := hw.1.1.2.1
  have g4 := hw.1.1.2.2
  have v2 := hv.1
  have d5 := hp.1.1
  have bG := hG.1
  have bV := hV.1
  have b5 := iT_24 bG.2.2.2.2 hT
  have hb := c_findCandidate (c := (0, 0)) (o := op a) hx (by omega) v2 bV (hp.2.1 k h1) (hO k h1).1 by_
  have hz := fnd_b (p := fun w => (op a k).testBit w && decide (((fb_ct (op a k).testBit w : Nat) : Int) = y)) (d := a 2) (k := 0)
  generalize (fnd (fun w => (op a k).testBit w && decide (((fb_ct (op a k).testBit w : Nat) : Int) = y)) (a 2) 0) = zr at hb hz h2 ⊢
  refine xCallWV (N := 3) (M2 := m_S_candidateAt) (pc2 := 2) (ls2 := [some (eR 0), some (eI x), some (eI y)]) (st2 := []) (y := m_S_requireSlot) (as := [some (eR 0), some (eI x)]) (w2 := (([xO P, eA 3 1 ot]) ++ wCb 2 S, c)) rfl (y_slot ⟨hw, hv, hp, hm⟩ ⟨hG, hV, hO, hT, hM⟩ hx h1) ?_
  refine xCallW (N := 5) (M2 := m_S_candidateAt) (pc2 := 11) (ls2 := [some (eR 0), some (eI x), some (eI y)]) (st2 := []) (y := m_W_findCandidate) (as := [some (eR 2), some (eI x), some (eI y)]) (w2 := (([xO P, eA 3 1 ot]) ++ wCb 2 S, c)) rfl (yWin hb rfl rfl rfl) ?_
  refine xEqF (N := 4) (x := zr) (y := (-1)) (A := ev m_S_candidateAt 20 [some (eR 0), some (eI x), some (eI y), some (eI zr)] [] (([xO P, eA 3 1 ot]) ++ wCb 2 S, c)) (B := ev m_S_candidateAt 28 [some (eR 0), some (eI x), some (eI y), some (eI zr)] [] (([xO P, eA 3 1 ot]) ++ wCb 2 S, c)) rfl (wr_id (by omega) (by omega)) (show wr (-1) = (-1) by decide) (by omega) ?_
  refine xSeg (N := 2) (r := some (.inl (some (eI zr)), (([xO P, eA 3 1 ot]) ++ wCb 2 S, c))) rfl ?_
  rfl
theorem s_candidateAtY {P ot : Nat → Int} {S : wS} {a : eRow} {c : Nat × Nat} (hA : wA S a) (hI : iA a) {x : Int} {k : Nat} (hx : x = (k : Int)) (h1 : k < a 3) {y : Int} (by_ : -2147483648 ≤ y ∧ y < 2147483648) (h2 : (fnd (fun w => (op a k).testBit w && decide (((fb_ct (op a k).testBit w : Nat) : Int) = y)) (a 2) 0) = -1) : ev m_S_candidateAt 0 [some (eR 0), some (eI x), some (eI y)] [] ([xO P, eA 3 1 ot] ++ wCb 2 S, c) = some (.inr 3, ([xO P, eA 3 1 ot] ++ wCb 2 S, (c.1 + 1, c.2 + 6))) := by
  obtain ⟨hw, hv, hp, hm⟩ := hA
  obtain ⟨hG, hV, hO, hT, hM⟩ := hI
  have g0 := hw.1.1.1
  have g1 := hw.1.1.2.1
  have g4 := hw.1.1.2.2
  have v2 := hv.1
  have d5 := hp.1.1
  have bG := hG.1
  have bV := hV.1
  have b5 := iT_24 bG.2.2.2.2 hT
  have hb := c_findCandidate (c := (0, 0)) (o := op a) hx (by omega) v2 bV (hp.2.1 k h1) (hO k h1).1 by_
  have hz := fnd_b (p := fun w => (op a k).testBit w && decide (((fb_ct (op a k).testBit w : Nat) : Int) = y)) (d := a 2) (k := 0)
  rw [h2] at hb
  refine xCallWV (N := 3) (M2 := m_S_candidateAt) (pc2 := 2) (ls2 := [some (eR 0), some (eI x), some (eI y)]) (st2 := []) (y := m_S_requireSlot) (as := [some (eR 0), some (eI x)]) (w2 := (([xO P, eA 3 1 ot]) ++ wCb 2 S, c)) rfl (y_slot ⟨hw, hv, hp, hm⟩ ⟨hG, hV, hO, hT, hM⟩ hx h1) ?_
  refine xCallW (N := 5) (M2 := m_S_candidateAt) (pc2 := 11) (ls2 := [some (eR 0), some (eI x), some (eI y)]) (st2 := []) (y := m_W_findCandidate) (as := [some (eR 2), some (eI x), some (eI y)]) (w2 := (([xO P, eA 3 1 ot]) ++ wCb 2 S, c)) rfl (yWin hb rfl rfl rfl) ?_
  refine xEqT (N := 4) (x := (-1)) (y := (-1)) (A := ev m_S_candidateAt 20 [some (eR 0), some (eI x), some (eI y), some (eI (-1))] [] (([xO P, eA 3 1 ot]) ++ wCb 2 S, c)) (B := ev m_S_candidateAt 28 [some (eR 0), some (eI x), some (eI y), some (eI (-1))] [] (([xO P, eA 3 1 ot]) ++ wCb 2 S, c)) rfl (show wr (-1) = (-1) by decide) (show wr (-1) = (-1) by decide) (by decide) ?_
  refine xSeg (N := 1) (r := some (.inr 3, (([xO P, eA 3 1 ot]) ++ wCb 2 S, (c.1 + 1, c.2 + 6)))) rfl ?_
  rfl
theorem s_candidateAtX {P ot : Nat → Int} {S : wS} {a : eRow} {c : Nat × Nat} (hA : wA S a) (hI : iA a) {x : Int} (bx : -2147483648 ≤ x ∧ x < 2147483648) (h : ¬ (0 ≤ x ∧ x < (a 3 : Int))) {y : Int} : ev m_S_candidateAt 0 [some (eR 0), some (eI x), some (eI y)] [] ([xO P, eA 3 1 ot] ++ wCb 2 S, c) = some (.inr 2, ([xO P, eA 3 1 ot] ++ wCb 2 S, (c.1 + 1, c.2 + 6))) := by
  refine xExc (N := 3) (E := 2) (M2 := m_S_candidateAt) (pc2 := 2) (ls2 := [some (eR 0), some (eI x), some (eI y)]) (st2 := []) (y := m_S_requireSlot) (as := [some (eR 0), some (eI x)]) (w2 := (([xO P, eA 3 1 ot]) ++ wCb 2 S, c)) rfl (y_slotX hA hI bx h) (by first | rfl | decide) ?_
  rfl
theorem y_crossing {P ot : Nat → Int} {S : wS} {a : eRow} {c : Nat × Nat} (hA : wA S a) (hI : iA a) {x : Int} {k : Nat} (hx : x = (k : Int)) (h1 : k < a 3) {y : Int} (by_ : -2147483648 ≤ y ∧ y < 2147483648) (h2 : (fnd (fun p => decide (oth a k p ≠ 0 ∧ ((fb_ct (fun p => decide (oth a k p ≠ 0)) p : Nat) : Int) = y)) (sl a k) 0) ≠ -1) : ev m_S_requireCrossing 0 [some (eR 0), some (eI x), some (eI y)] [] ([xO P, eA 3 1 ot] ++ wCb 2 S, c) = some (.inl (some (eI (fnd (fun p => decide (oth a k p ≠ 0 ∧ ((fb_ct (fun p => decide (oth a k p ≠ 0)) p : Nat) : Int) = y)) (sl a k) 0))), ([xO P, eA 3 1 ot] ++ wCb 2 S, c)) := by
  obtain ⟨hw, hv, hp, hm⟩ := hA
  obtain ⟨hG, hV, hO, hT, hM⟩ := hI
  have g0 := hw.1.1.1
  have g1 := hw.1.1.2.1
  have g4 := hw.1.1.2.2
  have v2 := hv.1
  have d5 := hp.1.1
  have bG := hG.1
  have bV := hV.1
  have b5 := iT_24 bG.2.2.2.2 hT
  have hb := c_findCrossing (c := (0, 0)) (O := oth a k) hx (by omega) by_ (hw.1.2.2 k h1).2.1 (sl_at hG h1).2.2.1 (fun p hp => ⟨(hw.2 k h1 p hp).1, by have := oth_le hG h1 hp; omega⟩)
  have hz := fnd_b (p := fun p => decide (oth a k p ≠ 0 ∧ ((fb_ct (fun p => decide (oth a k p ≠ 0)) p : Nat) : Int) = y)) (d := sl a k) (k := 0)
  have h6 := (sl_at hG h1).2.2.1
  generalize (fnd (fun p => decide (oth a k p ≠ 0 ∧ ((fb_ct (fun p => decide (oth a k p ≠ 0)) p : Nat) : Int) = y)) (sl a k) 0) = zr at hb hz h2 ⊢
  refine xCallW (N := 6) (M2 := m_S_requireCrossing) (pc2 := 9) (ls2 := [some (eR 0), some (eI x), some (eI y)]) (st2 := []) (y := m_G_findCrossing) (as := [some (eR 3), some (eI x), some (eI y)]) (w2 := (([xO P, eA 3 1 ot]) ++ wCb 2 S, c)) rfl (yWin hb rfl rfl rfl) ?_
  refine xEqF (N := 4) (x := zr) (y := (-1)) (A := ev m_S_requireCrossing 18 [some (eR 0), some (eI x), some (eI y), some (eI zr)] [] (([xO P, eA 3 1 ot]) ++ wCb 2 S, c)) (B := ev m_S_requireCrossing 26 [some (eR 0), some (eI x), some (eI y), some (eI zr)] [] (([xO P, eA 3 1 ot]) ++ wCb 2 S, c)) rfl (wr_id (by omega) (by omega)) (show wr (-1) = (-1) by decide) (by omega) ?_
  refine xSeg (N := 2) (r := some (.inl (some (eI zr)), (([xO P, eA 3 1 ot]) ++ wCb 2 S, c))) rfl ?_
  rfl
theorem y_crossingX {P ot : Nat → Int} {S : wS} {a : eRow} {c : Nat × Nat} (hA : wA S a) (hI : iA a) {x : Int} {k : Nat} (hx : x = (k : Int)) (h1 : k < a 3) {y : Int} (by_ : -2147483648 ≤ y ∧ y < 2147483648) (h2 : (fnd (fun p => decide (oth a k p ≠ 0 ∧ ((fb_ct (fun p => decide (oth a k p ≠ 0)) p : Nat) : Int) = y)) (sl a k) 0) = -1) : ev m_S_requireCrossing 0 [some (eR 0), some (eI x), some (eI y)] [] ([xO P, eA 3 1 ot] ++ wCb 2 S, c) = some (.inr 3, ([xO P, eA 3 1 ot] ++ wCb 2 S, (c.1 + 1, c.2 + 6))) := by
  obtain ⟨hw, hv, hp, hm⟩ := hA
  obtain ⟨hG, hV, hO, hT, hM⟩ := hI
  have g0 := hw.1.1.1
  have g1 := hw.1.1.2.1
  have g4 := hw.1.1.2.2
  have v2 := hv.1
  have d5 := hp.1.1
  have bG := hG.1
  have bV := hV.1
  have b5 := iT_24 bG.2.2.2.2 hT
  have hb := c_findCrossing (c := (0, 0)) (O := oth a k) hx (by omega) by_ (hw.1.2.2 k h1).2.1 (sl_at hG h1).2.2.1 (fun p hp => ⟨(hw.2 k h1 p hp).1, by have := oth_le hG h1 hp; omega⟩)
  have hz := fnd_b (p := fun p => decide (oth a k p ≠ 0 ∧ ((fb_ct (fun p => decide (oth a k p ≠ 0)) p : Nat) : Int) = y)) (d := sl a k) (k := 0)
  rw [h2] at hb
  refine xCallW (N := 6) (M2 := m_S_requireCrossing) (pc2 := 9) (ls2 := [some (eR 0), some (eI x), some (eI y)]) (st2 := []) (y := m_G_findCrossing) (as := [some (eR 3), some (eI x), some (eI y)]) (w2 := (([xO P, eA 3 1 ot]) ++ wCb 2 S, c)) rfl (yWin hb rfl rfl rfl) ?_
  refine xEqT (N := 4) (x := (-1)) (y := (-1)) (A := ev m_S_requireCrossing 18 [some (eR 0), some (eI x), some (eI y), some (eI (-1))] [] (([xO P, eA 3 1 ot]) ++ wCb 2 S, c)) (B := ev m_S_requireCrossing 26 [some (eR 0), some (eI x), some (eI y), some (eI (-1))] [] (([xO P, eA 3 1 ot]) ++ wCb 2 S, c)) rfl (show wr (-1) = (-1) by decide) (show wr (-1) = (-1) by decide) (by decide) ?_
  refine xSeg (N := 1) (r := some (.inr 3, (([xO P, eA 3 1 ot]) ++ wCb 2 S, (c.1 + 1, c.2 + 6)))) rfl ?_
  rfl
theorem s_crossingPlace {P ot : Nat → Int} {S : wS} {a : eRow} {c : Nat × Nat} (hA : wA S a) (hI : iA a) {x : Int} {k : Nat} (hx : x = (k : Int)) (h1 : k < a 3) {y : Int} (by_ : -2147483648 ≤ y ∧ y < 2147483648) {q : Nat} (h2 : (fnd (fun p => decide (oth a k p ≠ 0 ∧ ((fb_ct (fun p => decide (oth a k p ≠ 0)) p : Nat) : Int) = y)) (sl a k) 0) = (q : Int)) : ev m_S_crossingPlace 0 [some (eR 0), some (eI x), some (eI y)] [] ([xO P, eA 3 1 ot] ++ wCb 2 S, c) = some (.inl (some (eI ((q : Int)))), ([xO P, eA 3 1 ot] ++ wCb 2 S, c)) := by
  obtain ⟨hw, hv, hp, hm⟩ := hA
  obtain ⟨hG, hV, hO, hT, hM⟩ := hI
  have g0 := hw.1.1.1
  have g1 := hw.1.1.2.1
  have g4 := hw.1.1.2.2
  have v2 := hv.1
  have d5 := hp.1.1
  have bG := hG.1
  have bV := hV.1
  have b5 := iT_24 bG.2.2.2.2 hT
  have hc := y_crossing (P := P) (ot := ot) (c := c) ⟨hw, hv, hp, hm⟩ ⟨hG, hV, hO, hT, hM⟩ hx h1 by_ (by rw [h2]; omega)
  have hz := fnd_b (p := fun p => decide (oth a k p ≠ 0 ∧ ((fb_ct (fun p => decide (oth a k p ≠ 0)) p : Nat) : Int) = y)) (d := sl a k) (k := 0)
  rw [h2] at hc hz
  have h6 := (sl_at hG h1).2.2.1
  have hb := (hw.2 k h1 q (by omega)).1
  obtain ⟨zr, hzr⟩ : ∃ zr : Int, zr = (q : Int) := ⟨_, rfl⟩
  rw [← hzr] at hc
  refine xCallWV (N := 3) (M2 := m_S_crossingPlace) (pc2 := 2) (ls2 := [some (eR 0), some (eI x), some (eI y)]) (st2 := []) (y := m_S_requireSlot) (as := [some (eR 0), some (eI x)]) (w2 := (([xO P, eA 3 1 ot]) ++ wCb 2 S, c)) rfl (y_slot ⟨hw, hv, hp, hm⟩ ⟨hG, hV, hO, hT, hM⟩ hx h1) ?_
  refine xCallW (N := 4) (M2 := m_S_crossingPlace) (pc2 := 8) (ls2 := [some (eR 0), some (eI x), some (eI y)]) (st2 := []) (y := m_S_requireCrossing) (as := [some (eR 0), some (eI x), some (eI y)]) (w2 := (([xO P, eA 3 1 ot]) ++ wCb 2 S, c)) rfl hc ?_
  refine xSeg (N := 1) (r := some (.inl (some (eI zr)), (([xO P, eA 3 1 ot]) ++ wCb 2 S, c))) rfl ?_
  exact lf (by first | exact hzr | exact hb)
theorem s_crossingPlaceY {P ot : Nat → Int} {S : wS} {a : eRow} {c : Nat × Nat} (hA : wA S a) (hI : iA a) {x : Int} {k : Nat} (hx : x = (k : Int)) (h1 : k < a 3) {y : Int} (by_ : -2147483648 ≤ y ∧ y < 2147483648) (h2 : (fnd (fun p => decide (oth a k p ≠ 0 ∧ ((fb_ct (fun p => decide (oth a k p ≠ 0)) p : Nat) : Int) = y)) (sl a k) 0) = -1) : ev m_S_crossingPlace 0 [some (eR 0), some (eI x), some (eI y)] [] ([xO P, eA 3 1 ot] ++ wCb 2 S, c) = some (.inr 3, ([xO P, eA 3 1 ot] ++ wCb 2 S, (c.1 + 1, c.2 + 6))) := by
  refine xCallWV (N := 3) (M2 := m_S_crossingPlace) (pc2 := 2) (ls2 := [some (eR 0), some (eI x), some (eI y)]) (st2 := []) (y := m_S_requireSlot) (as := [some (eR 0), some (eI x)]) (w2 := (([xO P, eA 3 1 ot]) ++ wCb 2 S, c)) rfl (y_slot hA hI hx h1) ?_
  refine xExc (N := 4) (E := 3) (M2 := m_S_crossingPlace) (pc2 := 8) (ls2 := [some (eR 0), some (eI x), some (eI y)]) (st2 := []) (y := m_S_requireCrossing) (as := [some (eR 0), some (eI x), some (eI y)]) (w2 := (([xO P, eA 3 1 ot]) ++ wCb 2 S, c)) rfl (y_crossingX hA hI hx h1 by_ h2) (by first | rfl | decide) ?_
  rfl
theorem s_crossingPlaceX {P ot : Nat → Int} {S : wS} {a : eRow} {c : Nat × Nat} (hA : wA S a) (hI : iA a) {x : Int} (bx : -2147483648 ≤ x ∧ x < 2147483648) (h : ¬ (0 ≤ x ∧ x < (a 3 : Int))) {y : Int} : ev m_S_crossingPlace 0 [some (eR 0), some (eI x), some (eI y)] [] ([xO P, eA 3 1 ot] ++ wCb 2 S, c) = some (.inr 2, ([xO P, eA 3 1 ot] ++ wCb 2 S, (c.1 + 1, c.2 + 6))) := by
  refine xExc (N := 3) (E := 2) (M2 := m_S_crossingPlace) (pc2 := 2) (ls2 := [some (eR 0), some (eI x), some (eI y)]) (st2 := []) (y := m_S_requireSlot) (as := [some (eR 0), some (eI x)]) (w2 := (([xO P, eA 3 1 ot]) ++ wCb 2 S, c)) rfl (y_slotX hA hI bx h) (by first | rfl | decide) ?_
  rfl
theorem s_crossingSlot {P ot : Nat → Int} {S : wS} {a : eRow} {c : Nat × Nat} (hA : wA S a) (hI : iA a) {x : Int} {k : Nat} (hx : x = (k : Int)) (h1 : k < a 3) {y : Int} (by_ : -2147483648 ≤ y ∧ y < 2147483648) {q : Nat} (h2 : (fnd (fun p => decide (oth a k p ≠ 0 ∧ ((fb_ct (fun p => decide (oth a k p ≠ 0)) p : Nat) : Int) = y)) (sl a k) 0) = (q : Int)) : ev m_S_crossingSlot 0 [some (eR 0), some (eI x), some (eI y)] [] ([xO P, eA 3 1 ot] ++ wCb 2 S, c) = some (.inl (some (eI (((oth a k q : Nat) : Int) - 1))), ([xO P, eA 3 1 ot] ++ wCb 2 S, c)) := by
  obtain ⟨hw, hv, hp, hm⟩ := hA
  obtain ⟨hG, hV, hO, hT, hM⟩ := hI
  have g0 := hw.1.1.1
  have g1 := hw.1.1.2.1
  have g4 := hw.1.1.2.2
  have v2 := hv.1
  have d5 := hp.1.1
  have bG := hG.1
  have bV := hV.1
  have b5 := iT_24 bG.2.2.2.2 hT
  have hc := y_crossing (P := P) (ot := ot) (c := c) ⟨hw, hv, hp, hm⟩ ⟨hG, hV, hO, hT, hM⟩ hx h1 by_ (by rw [h2]; omega)
  have hz := fnd_b (p := fun p => decide (oth a k p ≠ 0 ∧ ((fb_ct (fun p => decide (oth a k p ≠ 0)) p : Nat) : Int) = y)) (d := sl a k) (k := 0)
  rw [h2] at hc hz
  have h6 := (sl_at hG h1).2.2.1
  have hb := (hw.2 k h1 q (by omega)).1
  obtain ⟨zr, hzr⟩ : ∃ zr : Int, zr = (q : Int) := ⟨_, rfl⟩
  rw [← hzr] at hc
  refine xCallWV (N := 3) (M2 := m_S_crossingSlot) (pc2 := 2) (ls2 := [some (eR 0), some (eI x), some (eI y)]) (st2 := []) (y := m_S_requireSlot) (as := [some (eR 0), some (eI x)]) (w2 := (([xO P, eA 3 1 ot]) ++ wCb 2 S, c)) rfl (y_slot ⟨hw, hv, hp, hm⟩ ⟨hG, hV, hO, hT, hM⟩ hx h1) ?_
  refine xCallW (N := 4) (M2 := m_S_crossingSlot) (pc2 := 8) (ls2 := [some (eR 0), some (eI x), some (eI y)]) (st2 := []) (y := m_S_requireCrossing) (as := [some (eR 0), some (eI x), some (eI y)]) (w2 := (([xO P, eA 3 1 ot]) ++ wCb 2 S, c)) rfl hc ?_
  refine xLd (N := 11) (n := 144) (i := (x * 6) + zr) (F := fun zq => ev m_S_crossingSlot 29 [some (eR 0), some (eI x), some (eI y), some (eI zr)] [eI (S 9 zq)] (([xO P, eA 3 1 ot]) ++ wCb 2 S, c)) (k := (k * 6) + q) rfl (wr_nat (by omega) (by omega)) (by omega) ?_
  refine xSeg (N := 1) (r := some (.inl (some (eI (S 9 ((k * 6) + q)))), (([xO P, eA 3 1 ot]) ++ wCb 2 S, c))) rfl ?_
  exact lf (by first | exact hzr | exact hb)
theorem s_crossingSlotY {P ot : Nat → Int} {S : wS} {a : eRow} {c : Nat × Nat} (hA : wA S a) (hI : iA a) {x : Int} {k : Nat} (hx : x = (k : Int)) (h1 : k < a 3) {y : Int} (by_ : -2147483648 ≤ y ∧ y < 2147483648) (h2 : (fnd (fun p => decide (oth a k p ≠ 0 ∧ ((fb_ct (fun p => decide (oth a k p ≠ 0)) p : Nat) : Int) = y)) (sl a k) 0) = -1) : ev m_S_crossingSlot 0 [some (eR 0), some (eI x), some (eI y)] [] ([xO P, eA 3 1 ot] ++ wCb 2 S, c) = some (.inr 3, ([xO P, eA 3 1 ot] ++ wCb 2 S, (c.1 + 1, c.2 + 6))) := by
  refine xCallWV (N := 3) (M2 := m_S_crossingSlot) (pc2 := 2) (ls2 := [some (eR 0), some (eI x), some (eI y)]) (st2 := []) (y := m_S_requireSlot) (as := [some (eR 0), some (eI x)]) (w2 := (([xO P, eA 3 1 ot]) ++ wCb 2 S, c)) rfl (y_slot hA hI hx h1) ?_
  refine xExc (N := 4) (E := 3) (M2 := m_S_crossingSlot) (pc2 := 8) (ls2 := [some (eR 0), some (eI x), some (eI y)]) (st2 := []) (y := m_S_requireCrossing) (as := [some (eR 0), some (eI x), some (eI y)]) (w2 := (([xO P, eA 3 1 ot]) ++ wCb 2 S, c)) rfl (y_crossingX hA hI hx h1 by_ h2) (by first | rfl | decide) ?_
  rfl
theorem s_crossingSlotX {P ot : Nat → Int} {S : wS} {a : eRow} {c : Nat × Nat} (hA : wA S a) (hI : iA a) {x : Int} (bx : -2147483648 ≤ x ∧ x < 2147483648) (h : ¬ (0 ≤ x ∧ x < (a 3 : Int))) {y : Int} : ev m_S_crossingSlot 0 [some (eR 0), some (eI x), some (eI y)] [] ([xO P, eA 3 1 ot] ++ wCb 2 S, c) = some (.inr 2, ([xO P, eA 3 1 ot] ++ wCb 2 S, (c.1 + 1, c.2 + 6))) := by
  refine xExc (N := 3) (E := 2) (M2 := m_S_crossingSlot) (pc2 := 2) (ls2 := [some (eR 0), some (eI x), some (eI y)]) (st2 := []) (y := m_S_requireSlot) (as := [some (eR 0), some (eI x)]) (w2 := (([xO P, eA 3 1 ot]) ++ wCb 2 S, c)) rfl (y_slotX hA hI bx h) (by first | rfl | decide) ?_
  rfl
theorem s_guessedSlot {P ot : Nat → Int} {S : wS} {a : eRow} {c : Nat × Nat} (hA : wA S a) (hI : iA a) {x : Int} {l : Nat} (hx : x = ((l + 1 : Nat) : Int)) (h1 : l < a 5) : ev m_S_guessedSlot 0 [some (eR 0), some (eI x)] [] ([xO P, eA 3 1 ot] ++ wCb 2 S, c) = some (.inl (some (eI (((gs a l : Nat) : Int)))), ([xO P, eA 3 1 ot] ++ wCb 2 S, c)) := by
  obtain ⟨hw, hv, hp, hm⟩ := hA
  obtain ⟨hG, hV, hO, hT, hM⟩ := hI
  have g0 := hw.1.1.1
  have g1 := hw.1.1.2.1
  have g4 := hw.1.1.2.2
  have v2 := hv.1
  have d5 := hp.1.1
  have bG := hG.1
  have bV := hV.1
  have b5 := iT_24 bG.2.2.2.2 hT
  have hb := (hp.2.2 l h1).1
  refine xCallWV (N := 3) (M2 := m_S_guessedSlot) (pc2 := 2) (ls2 := [some (eR 0), some (eI x)]) (st2 := []) (y := m_S_requireLevel) (as := [some (eR 0), some (eI x)]) (w2 := (([xO P, eA 3 1 ot]) ++ wCb 2 S, c)) rfl (y_level (l := l + 1) ⟨hw, hv, hp, hm⟩ ⟨hG, hV, hO, hT, hM⟩ hx (by omega) (by omega)) ?_
  refine xLd (N := 7) (n := 24) (i := x - 1) (F := fun zq => ev m_S_guessedSlot 16 [some (eR 0), some (eI x)] [eI (S 16 zq)] (([xO P, eA 3 1 ot]) ++ wCb 2 S, c)) (k := (x - 1).toNat) rfl (wr_nat (by omega) (by omega)) (by omega) ?_
  refine xSeg (N := 1) (r := some (.inl (some (eI (S 16 ((x - 1).toNat)))), (([xO P, eA 3 1 ot]) ++ wCb 2 S, c))) rfl ?_
  exact lf (by rw [show (x - 1).toNat = l by omega]; exact hb)
theorem s_guessedSlotX {P ot : Nat → Int} {S : wS} {a : eRow} {c : Nat × Nat} (hA : wA S a) (hI : iA a) {x : Int} (bx : -2147483648 ≤ x ∧ x < 2147483648) (h : ¬ (1 ≤ x ∧ x ≤ (a 5 : Int))) : ev m_S_guessedSlot 0 [some (eR 0), some (eI x)] [] ([xO P, eA 3 1 ot] ++ wCb 2 S, c) = some (.inr 3, ([xO P, eA 3 1 ot] ++ wCb 2 S, (c.1 + 1, c.2 + 6))) := by
  refine xExc (N := 3) (E := 3) (M2 := m_S_guessedSlot) (pc2 := 2) (ls2 := [some (eR 0), some (eI x)]) (st2 := []) (y := m_S_requireLevel) (as := [some (eR 0), some (eI x)]) (w2 := (([xO P, eA 3 1 ot]) ++ wCb 2 S, c)) rfl (y_levelX hA hI bx h) (by first | rfl | decide) ?_
  rfl
theorem s_guessedWord {P ot : Nat → Int} {S : wS} {a : eRow} {c : Nat × Nat} (hA : wA S a) (hI : iA a) {x : Int} {l : Nat} (hx : x = ((l + 1 : Nat) : Int)) (h1 : l < a 5) : ev m_S_guessedWord 0 [some (eR 0), some (eI x)] [] ([xO P, eA 3 1 ot] ++ wCb 2 S, c) = some (.inl (some (eI (((gw a l : Nat) : Int)))), ([xO P, eA 3 1 ot] ++ wCb 2 S, c)) := by
  obtain ⟨hw, hv, hp, hm⟩ := hA
  obtain ⟨hG, hV, hO, hT, hM⟩ := hI
  have g0 := hw.1.1.1
  have g1 := hw.1.1.2.1
  have g4 := hw.1.1.2.2
  have v2 := hv.1
  have d5 := hp.1.1
  have bG := hG.1
  have bV := hV.1
  have b5 := iT_24 bG.2.2.2.2 hT
  have hb := (hp.2.2 l h1).2.1
  refine xCallWV (N := 3) (M2 := m_S_guessedWord) (pc2 := 2) (ls2 := [some (eR 0), some (eI x)]) (st2 := []) (y := m_S_requireLevel) (as := [some (eR 0), some (eI x)]) (w2 := (([xO P, eA 3 1 ot]) ++ wCb 2 S, c)) rfl (y_level (l := l + 1) ⟨hw, hv, hp, hm⟩ ⟨hG, hV, hO, hT, hM⟩ hx (by omega) (by omega)) ?_
  refine xLd (N := 7) (n := 24) (i := x - 1) (F := fun zq => ev m_S_guessedWord 16 [some (eR 0), some (eI x)] [eI (S 17 zq)] (([xO P, eA 3 1 ot]) ++ wCb 2 S, c)) (k := (x - 1).toNat) rfl (wr_nat (by omega) (by omega)) (by omega) ?_
  refine xSeg (N := 1) (r := some (.inl (some (eI (S 17 ((x - 1).toNat)))), (([xO P, eA 3 1 ot]) ++ wCb 2 S, c))) rfl ?_
  exact lf (by rw [show (x - 1).toNat = l by omega]; exact hb)
theorem s_guessedWordX {P ot : Nat → Int} {S : wS} {a : eRow} {c : Nat × Nat} (hA : wA S a) (hI : iA a) {x : Int} (bx : -2147483648 ≤ x ∧ x < 2147483648) (h : ¬ (1 ≤ x ∧ x ≤ (a 5 : Int))) : ev m_S_guessedWord 0 [some (eR 0), some (eI x)] [] ([xO P, eA 3 1 ot] ++ wCb 2 S, c) = some (.inr 3, ([xO P, eA 3 1 ot] ++ wCb 2 S, (c.1 + 1, c.2 + 6))) := by
  refine xExc (N := 3) (E := 3) (M2 := m_S_guessedWord) (pc2 := 2) (ls2 := [some (eR 0), some (eI x)]) (st2 := []) (y := m_S_requireLevel) (as := [some (eR 0), some (eI x)]) (w2 := (([xO P, eA 3 1 ot]) ++ wCb 2 S, c)) rfl (y_levelX hA hI bx h) (by first | rfl | decide) ?_
  rfl
