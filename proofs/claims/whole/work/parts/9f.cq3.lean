/-! The class: questions without an argument; the sure letters. -/
set_option maxRecDepth 100000
theorem wA_19 {S : wS} {a : eRow} {f : Nat → Int} (h : wA S a) : wA (uS S 19 f) a := h
def SeN (a : eRow) : Nat := if a 4 ≤ 1 then sumP (sl a) (fun k p => pc 30 (unS (oth a) (plc a) (lt a) (op a) k p)) (a 3) else 0
def DbN (a : eRow) : Nat := if a 4 ≤ 1 then fb_ct (fun k => decide (pc 30 (op a k) = 1) && anyN (fun j => decide (j ≠ k ∧ (op a j &&& op a k) ≠ 0)) (a 3)) (a 3) else 0
def PzN (a : eRow) : Nat := fb_sm (fun k => fb_sm (fun w => if op a k = 2 ^ w then wp a w else 0) (a 2)) (a 3)
theorem iO_mB {a : eRow} (h : iO a) : mB (a 3) (a 2) (sl a) (wl a) (op a) := h
theorem nB_19 {S : wS} {n m : Nat} {sz wl : Nat → Nat} {O Q f : Nat → Nat → Nat} {g : Nat → Int} (h : nB S n m sz wl O Q f) : nB (uS S 19 g) n m sz wl O Q f := h
theorem s_columns {P ot : Nat → Int} {S : wS} {a : eRow} {c : Nat × Nat} (hA : wA S a) (hI : iA a)  : ev m_S_columns 0 [some (eR 0)] [] ([xO P, eA 3 1 ot] ++ wCb 2 S, c) = some (.inl (some (eI (((a 0 : Nat) : Int)))), ([xO P, eA 3 1 ot] ++ wCb 2 S, c)) := by
  obtain ⟨hw, hv, hp, hm⟩ := hA
  obtain ⟨hG, hV, hO, hT, hM⟩ := hI
  have g0 := hw.1.1.1
  have g1 := hw.1.1.2.1
  have g4 := hw.1.1.2.2
  have v2 := hv.1
  have d5 := hp.1.1
  have bG := hG.1
  have bV := hV.1
  have b5 := iT_24 bG.2.2.2.2 hT
  refine xSeg (N := 5) (r := some (.inl (some (eI (S 1 0))), (([xO P, eA 3 1 ot]) ++ wCb 2 S, c))) rfl ?_
  exact lf g0
theorem s_rows {P ot : Nat → Int} {S : wS} {a : eRow} {c : Nat × Nat} (hA : wA S a) (hI : iA a)  : ev m_S_rows 0 [some (eR 0)] [] ([xO P, eA 3 1 ot] ++ wCb 2 S, c) = some (.inl (some (eI (((a 1 : Nat) : Int)))), ([xO P, eA 3 1 ot] ++ wCb 2 S, c)) := by
  obtain ⟨hw, hv, hp, hm⟩ := hA
  obtain ⟨hG, hV, hO, hT, hM⟩ := hI
  have g0 := hw.1.1.1
  have g1 := hw.1.1.2.1
  have g4 := hw.1.1.2.2
  have v2 := hv.1
  have d5 := hp.1.1
  have bG := hG.1
  have bV := hV.1
  have b5 := iT_24 bG.2.2.2.2 hT
  refine xSeg (N := 5) (r := some (.inl (some (eI (S 1 1))), (([xO P, eA 3 1 ot]) ++ wCb 2 S, c))) rfl ?_
  exact lf g1
theorem s_slotCount {P ot : Nat → Int} {S : wS} {a : eRow} {c : Nat × Nat} (hA : wA S a) (hI : iA a)  : ev m_S_slotCount 0 [some (eR 0)] [] ([xO P, eA 3 1 ot] ++ wCb 2 S, c) = some (.inl (some (eI (((a 3 : Nat) : Int)))), ([xO P, eA 3 1 ot] ++ wCb 2 S, c)) := by
  obtain ⟨hw, hv, hp, hm⟩ := hA
  obtain ⟨hG, hV, hO, hT, hM⟩ := hI
  have g0 := hw.1.1.1
  have g1 := hw.1.1.2.1
  have g4 := hw.1.1.2.2
  have v2 := hv.1
  have d5 := hp.1.1
  have bG := hG.1
  have bV := hV.1
  have b5 := iT_24 bG.2.2.2.2 hT
  refine xSeg (N := 5) (r := some (.inl (some (eI (S 1 4))), (([xO P, eA 3 1 ot]) ++ wCb 2 S, c))) rfl ?_
  exact lf g4
theorem s_wordCount {P ot : Nat → Int} {S : wS} {a : eRow} {c : Nat × Nat} (hA : wA S a) (hI : iA a)  : ev m_S_wordCount 0 [some (eR 0)] [] ([xO P, eA 3 1 ot] ++ wCb 2 S, c) = some (.inl (some (eI (((a 2 : Nat) : Int)))), ([xO P, eA 3 1 ot] ++ wCb 2 S, c)) := by
  obtain ⟨hw, hv, hp, hm⟩ := hA
  obtain ⟨hG, hV, hO, hT, hM⟩ := hI
  have g0 := hw.1.1.1
  have g1 := hw.1.1.2.1
  have g4 := hw.1.1.2.2
  have v2 := hv.1
  have d5 := hp.1.1
  have bG := hG.1
  have bV := hV.1
  have b5 := iT_24 bG.2.2.2.2 hT
  refine xSeg (N := 5) (r := some (.inl (some (eI (S 11 0))), (([xO P, eA 3 1 ot]) ++ wCb 2 S, c))) rfl ?_
  exact lf v2
theorem s_state {P ot : Nat → Int} {S : wS} {a : eRow} {c : Nat × Nat} (hA : wA S a) (hI : iA a)  : ev m_S_state 0 [some (eR 0)] [] ([xO P, eA 3 1 ot] ++ wCb 2 S, c) = some (.inl (some (eI (((a 4 : Nat) : Int)))), ([xO P, eA 3 1 ot] ++ wCb 2 S, c)) := by
  obtain ⟨hw, hv, hp, hm⟩ := hA
  obtain ⟨hG, hV, hO, hT, hM⟩ := hI
  have g0 := hw.1.1.1
  have g1 := hw.1.1.2.1
  have g4 := hw.1.1.2.2
  have v2 := hv.1
  have d5 := hp.1.1
  have bG := hG.1
  have bV := hV.1
  have b5 := iT_24 bG.2.2.2.2 hT
  refine xSeg (N := 4) (r := some (.inl (some (eI (S 0 3))), (([xO P, eA 3 1 ot]) ++ wCb 2 S, c))) rfl ?_
  exact lf hm
theorem s_level {P ot : Nat → Int} {S : wS} {a : eRow} {c : Nat × Nat} (hA : wA S a) (hI : iA a)  : ev m_S_level 0 [some (eR 0)] [] ([xO P, eA 3 1 ot] ++ wCb 2 S, c) = some (.inl (some (eI (((a 5 : Nat) : Int)))), ([xO P, eA 3 1 ot] ++ wCb 2 S, c)) := by
  obtain ⟨hw, hv, hp, hm⟩ := hA
  obtain ⟨hG, hV, hO, hT, hM⟩ := hI
  have g0 := hw.1.1.1
  have g1 := hw.1.1.2.1
  have g4 := hw.1.1.2.2
  have v2 := hv.1
  have d5 := hp.1.1
  have bG := hG.1
  have bV := hV.1
  have b5 := iT_24 bG.2.2.2.2 hT
  refine xSeg (N := 4) (r := some (.inl (some (eI (S 0 4))), (([xO P, eA 3 1 ot]) ++ wCb 2 S, c))) rfl ?_
  exact lf d5
theorem s_guesses {P ot : Nat → Int} {S : wS} {a : eRow} {c : Nat × Nat} (hA : wA S a) (hI : iA a)  : ev m_S_guesses 0 [some (eR 0)] [] ([xO P, eA 3 1 ot] ++ wCb 2 S, c) = some (.inl (some (eI (((a 6 : Nat) : Int)))), ([xO P, eA 3 1 ot] ++ wCb 2 S, c)) := by
  obtain ⟨hw, hv, hp, hm⟩ := hA
  obtain ⟨hG, hV, hO, hT, hM⟩ := hI
  have g0 := hw.1.1.1
  have g1 := hw.1.1.2.1
  have g4 := hw.1.1.2.2
  have v2 := hv.1
  have d5 := hp.1.1
  have bG := hG.1
  have bV := hV.1
  have b5 := iT_24 bG.2.2.2.2 hT
  refine xSeg (N := 4) (r := some (.inl (some (eI (S 0 8))), (([xO P, eA 3 1 ot]) ++ wCb 2 S, c))) rfl ?_
  exact lf hp.1.2.1
theorem s_takenBack {P ot : Nat → Int} {S : wS} {a : eRow} {c : Nat × Nat} (hA : wA S a) (hI : iA a)  : ev m_S_takenBack 0 [some (eR 0)] [] ([xO P, eA 3 1 ot] ++ wCb 2 S, c) = some (.inl (some (eI (((a 7 : Nat) : Int)))), ([xO P, eA 3 1 ot] ++ wCb 2 S, c)) := by
  obtain ⟨hw, hv, hp, hm⟩ := hA
  obtain ⟨hG, hV, hO, hT, hM⟩ := hI
  have g0 := hw.1.1.1
  have g1 := hw.1.1.2.1
  have g4 := hw.1.1.2.2
  have v2 := hv.1
  have d5 := hp.1.1
  have bG := hG.1
  have bV := hV.1
  have b5 := iT_24 bG.2.2.2.2 hT
  refine xSeg (N := 4) (r := some (.inl (some (eI (S 0 9))), (([xO P, eA 3 1 ot]) ++ wCb 2 S, c))) rfl ?_
  exact lf hp.1.2.2.1
theorem s_levelDifference {P ot : Nat → Int} {S : wS} {a : eRow} {c : Nat × Nat} (hA : wA S a) (hI : iA a)  : ev m_S_levelDifference 0 [some (eR 0)] [] ([xO P, eA 3 1 ot] ++ wCb 2 S, c) = some (.inl (some (eI (((a 6 : Nat) : Int) - ((a 7 : Nat) : Int) - ((a 8 : Nat) : Int) - ((a 5 : Nat) : Int)))), ([xO P, eA 3 1 ot] ++ wCb 2 S, c)) := by
  obtain ⟨hw, hv, hp, hm⟩ := hA
  obtain ⟨hG, hV, hO, hT, hM⟩ := hI
  have g0 := hw.1.1.1
  have g1 := hw.1.1.2.1
  have g4 := hw.1.1.2.2
  have v2 := hv.1
  have d5 := hp.1.1
  have bG := hG.1
  have bV := hV.1
  have b5 := iT_24 bG.2.2.2.2 hT
  refine xSeg (N := 16) (r := some (.inl (some (eI ((((S 0 8) - (S 0 9)) - (S 0 10)) - (S 0 4)))), (([xO P, eA 3 1 ot]) ++ wCb 2 S, c))) rfl ?_
  exact lf (by rw [hp.1.2.1, hp.1.2.2.1, hp.1.2.2.2, hp.1.1])
theorem s_bestSlot {P ot : Nat → Int} {S : wS} {a : eRow} {c : Nat × Nat} (hA : wA S a) (hI : iA a)  : ev m_S_bestSlot 0 [some (eR 0)] [] ([xO P, eA 3 1 ot] ++ wCb 2 S, c) = some (.inl (some (eI ((bsA (fun k => pc 30 (op a k)) (a 3)).1))), ([xO P, eA 3 1 ot] ++ wCb 2 S, c)) := by
  obtain ⟨hw, hv, hp, hm⟩ := hA
  obtain ⟨hG, hV, hO, hT, hM⟩ := hI
  have g0 := hw.1.1.1
  have g1 := hw.1.1.2.1
  have g4 := hw.1.1.2.2
  have v2 := hv.1
  have d5 := hp.1.1
  have bG := hG.1
  have bV := hV.1
  have b5 := iT_24 bG.2.2.2.2 hT
  have hb := c_findBestSlot (c := (0, 0)) (o := op a) g4 (by omega) (fun k hk => ⟨hp.2.1 k hk, (hO k hk).1⟩)
  generalize (bsA (fun k => pc 30 (op a k)) (a 3)).1 = zr at hb ⊢
  refine xCallW (N := 3) (M2 := m_S_bestSlot) (pc2 := 4) (ls2 := [some (eR 0)]) (st2 := []) (y := m_W_findBestSlot) (as := [some (eR 2)]) (w2 := (([xO P, eA 3 1 ot]) ++ wCb 2 S, c)) rfl (yWin hb rfl rfl rfl) ?_
  refine xSeg (N := 1) (r := some (.inl (some (eI zr)), (([xO P, eA 3 1 ot]) ++ wCb 2 S, c))) rfl ?_
  rfl
theorem s_emptySlot {P ot : Nat → Int} {S : wS} {a : eRow} {c : Nat × Nat} (hA : wA S a) (hI : iA a)  : ev m_S_emptySlot 0 [some (eR 0)] [] ([xO P, eA 3 1 ot] ++ wCb 2 S, c) = some (.inl (some (eI (fnd (fun k => decide (op a k = 0)) (a 3) 0))), ([xO P, eA 3 1 ot] ++ wCb 2 S, c)) := by
  obtain ⟨hw, hv, hp, hm⟩ := hA
  obtain ⟨hG, hV, hO, hT, hM⟩ := hI
  have g0 := hw.1.1.1
  have g1 := hw.1.1.2.1
  have g4 := hw.1.1.2.2
  have v2 := hv.1
  have d5 := hp.1.1
  have bG := hG.1
  have bV := hV.1
  have b5 := iT_24 bG.2.2.2.2 hT
  have hb := c_findEmptySlot (c := (0, 0)) (o := op a) g4 (by omega) (fun k hk => ⟨hp.2.1 k hk, (hO k hk).1⟩)
  generalize fnd (fun k => decide (op a k = 0)) (a 3) 0 = zr at hb ⊢
  refine xCallW (N := 3) (M2 := m_S_emptySlot) (pc2 := 4) (ls2 := [some (eR 0)]) (st2 := []) (y := m_W_findEmptySlot) (as := [some (eR 2)]) (w2 := (([xO P, eA 3 1 ot]) ++ wCb 2 S, c)) rfl (yWin hb rfl rfl rfl) ?_
  refine xSeg (N := 1) (r := some (.inl (some (eI zr)), (([xO P, eA 3 1 ot]) ++ wCb 2 S, c))) rfl ?_
  rfl
theorem s_candidatesLeft {P ot : Nat → Int} {S : wS} {a : eRow} {c : Nat × Nat} (hA : wA S a) (hI : iA a)  : ev m_S_candidatesLeft 0 [some (eR 0)] [] ([xO P, eA 3 1 ot] ++ wCb 2 S, c) = some (.inl (some (eI (((fb_sm (fun k => pc 30 (op a k)) (a 3) : Nat) : Int)))), ([xO P, eA 3 1 ot] ++ wCb 2 S, c)) := by
  obtain ⟨hw, hv, hp, hm⟩ := hA
  obtain ⟨hG, hV, hO, hT, hM⟩ := hI
  have g0 := hw.1.1.1
  have g1 := hw.1.1.2.1
  have g4 := hw.1.1.2.2
  have v2 := hv.1
  have d5 := hp.1.1
  have bG := hG.1
  have bV := hV.1
  have b5 := iT_24 bG.2.2.2.2 hT
  have hb := c_countCandidates (c := (0, 0)) (o := op a) g4 (by omega) (fun k hk => ⟨hp.2.1 k hk, (hO k hk).1⟩)
  generalize ((fb_sm (fun k => pc 30 (op a k)) (a 3) : Nat) : Int) = zr at hb ⊢
  refine xCallW (N := 3) (M2 := m_S_candidatesLeft) (pc2 := 4) (ls2 := [some (eR 0)]) (st2 := []) (y := m_W_countCandidates) (as := [some (eR 2)]) (w2 := (([xO P, eA 3 1 ot]) ++ wCb 2 S, c)) rfl (yWin hb rfl rfl rfl) ?_
  refine xSeg (N := 1) (r := some (.inl (some (eI zr)), (([xO P, eA 3 1 ot]) ++ wCb 2 S, c))) rfl ?_
  rfl
theorem s_prizeNow {P ot : Nat → Int} {S : wS} {a : eRow} {c : Nat × Nat} (hA : wA S a) (hI : iA a)  : ev m_S_prizeNow 0 [some (eR 0)] [] ([xO P, eA 3 1 ot] ++ wCb 2 S, c) = some (.inl (some (eI (((PzN a : Nat) : Int)))), ([xO P, eA 3 1 ot] ++ wCb 2 S, c)) := by
  obtain ⟨hw, hv, hp, hm⟩ := hA
  obtain ⟨hG, hV, hO, hT, hM⟩ := hI
  have g0 := hw.1.1.1
  have g1 := hw.1.1.2.1
  have g4 := hw.1.1.2.2
  have v2 := hv.1
  have d5 := hp.1.1
  have bG := hG.1
  have bV := hV.1
  have b5 := iT_24 bG.2.2.2.2 hT
  have hb := c_sumPrizes (c := (0, 0)) (o := op a) (wl := wl a) (hd := hold a) (f := lt a) g4 (by omega) v2 bV (fun k hk => ⟨hp.2.1 k hk, (hO k hk).1⟩) (fun w hw9 => ⟨hv.2.1 w hw9, (hV.2 w hw9).2.1⟩) (fun w p hw9 hp9 => ⟨hv.2.2.1 w p hw9 hp9, lt_26 hV hw9 hp9⟩) (fun l hl => ⟨hv.2.2.2 l hl, by have := hold_le a l; omega⟩)
  have hb : ev m_W_sumPrizes 0 [some (eR 0)] [] (wC S, (0, 0)) = some (.inl (some (eI ((PzN a : Nat) : Int))), (wC S, (0, 0))) := hb
  generalize ((PzN a : Nat) : Int) = zr at hb ⊢
  refine xCallW (N := 3) (M2 := m_S_prizeNow) (pc2 := 4) (ls2 := [some (eR 0)]) (st2 := []) (y := m_W_sumPrizes) (as := [some (eR 2)]) (w2 := (([xO P, eA 3 1 ot]) ++ wCb 2 S, c)) rfl (yWin hb rfl rfl rfl) ?_
  refine xSeg (N := 1) (r := some (.inl (some (eI zr)), (([xO P, eA 3 1 ot]) ++ wCb 2 S, c))) rfl ?_
  rfl
theorem s_doubleErrors {P ot : Nat → Int} {S : wS} {a : eRow} {c : Nat × Nat} (hA : wA S a) (hI : iA a)  : ev m_S_doubleErrors 0 [some (eR 0)] [] ([xO P, eA 3 1 ot] ++ wCb 2 S, c) = some (.inl (some (eI (((DbN a : Nat) : Int)))), ([xO P, eA 3 1 ot] ++ wCb 2 S, c)) := by
  obtain ⟨hw, hv, hp, hm⟩ := hA
  obtain ⟨hG, hV, hO, hT, hM⟩ := hI
  have g0 := hw.1.1.1
  have g1 := hw.1.1.2.1
  have g4 := hw.1.1.2.2
  have v2 := hv.1
  have d5 := hp.1.1
  have bG := hG.1
  have bV := hV.1
  have b5 := iT_24 bG.2.2.2.2 hT
  have hn := c_isNarrowed (c := (0, 0)) hm hM.1
  have hb := c_countDoubles (c := (0, 0)) (o := op a) g4 (by omega) (fun k hk => ⟨hp.2.1 k hk, (hO k hk).1⟩)
  unfold DbN
  by_cases h1 : a 4 ≤ 1
  · rw [if_pos h1]
    rw [decide_eq_true h1] at hn
    generalize ((fb_ct (fun k => decide (pc 30 (op a k) = 1) && anyN (fun j => decide (j ≠ k ∧ (op a j &&& op a k) ≠ 0)) (a 3)) (a 3) : Nat) : Int) = zr at hb ⊢
    refine xCallW (N := 3) (M2 := m_S_doubleErrors) (pc2 := 4) (ls2 := [some (eR 0)]) (st2 := []) (y := m_W_isNarrowed) (as := [some (eR 2)]) (w2 := (([xO P, eA 3 1 ot]) ++ wCb 2 S, c)) rfl (yWin hn rfl rfl rfl) ?_
    refine xEqF (N := 1) (x := 1) (y := 0) (A := ev m_S_doubleErrors 20 [some (eR 0)] [] (([xO P, eA 3 1 ot]) ++ wCb 2 S, c)) (B := ev m_S_doubleErrors 10 [some (eR 0)] [] (([xO P, eA 3 1 ot]) ++ wCb 2 S, c)) rfl (show wr 1 = 1 by decide) (show wr 0 = 0 by decide) (by decide) ?_
    refine xCallW (N := 3) (M2 := m_S_doubleErrors) (pc2 := 14) (ls2 := [some (eR 0)]) (st2 := []) (y := m_W_countDoubles) (as := [some (eR 2)]) (w2 := (([xO P, eA 3 1 ot]) ++ wCb 2 S, c)) rfl (yWin hb rfl rfl rfl) ?_
    refine xSeg (N := 2) (r := some (.inl (some (eI zr)), (([xO P, eA 3 1 ot]) ++ wCb 2 S, c))) rfl ?_
    rfl
  · rw [if_neg h1]
    rw [decide_eq_false h1] at hn
    refine xCallW (N := 3) (M2 := m_S_doubleErrors) (pc2 := 4) (ls2 := [some (eR 0)]) (st2 := []) (y := m_W_isNarrowed) (as := [some (eR 2)]) (w2 := (([xO P, eA 3 1 ot]) ++ wCb 2 S, c)) rfl (yWin hn rfl rfl rfl) ?_
    refine xEqT (N := 1) (x := 0) (y := 0) (A := ev m_S_doubleErrors 20 [some (eR 0)] [] (([xO P, eA 3 1 ot]) ++ wCb 2 S, c)) (B := ev m_S_doubleErrors 10 [some (eR 0)] [] (([xO P, eA 3 1 ot]) ++ wCb 2 S, c)) rfl (show wr 0 = 0 by decide) (show wr 0 = 0 by decide) (by decide) ?_
    refine xSeg (N := 2) (r := some (.inl (some (eI 0)), (([xO P, eA 3 1 ot]) ++ wCb 2 S, c))) rfl ?_
    rfl
theorem s_supportErrors {P ot : Nat → Int} {S : wS} {a : eRow} {c : Nat × Nat} (hA : wA S a) (hI : iA a) : ∃ S' : wS, wA S' a ∧ ev m_S_supportErrors 0 [some (eR 0)] [] ([xO P, eA 3 1 ot] ++ wCb 2 S, c) = some (.inl (some (eI ((SeN a : Nat) : Int))), ([xO P, eA 3 1 ot] ++ wCb 2 S', c)) := by
  have hA9 := hA
  obtain ⟨hw, hv, hp, hm⟩ := hA
  obtain ⟨hG, hV, hO, hT, hM⟩ := hI
  have g0 := hw.1.1.1
  have g1 := hw.1.1.2.1
  have g4 := hw.1.1.2.2
  have v2 := hv.1
  have d5 := hp.1.1
  have bG := hG.1
  have bV := hV.1
  have b5 := iT_24 bG.2.2.2.2 hT
  have hn := c_isNarrowed (c := (0, 0)) hm hM.1
  unfold SeN
  by_cases h1 : a 4 ≤ 1
  · rw [if_pos h1]
    rw [decide_eq_true h1] at hn
    have hN := nB_of hw hv hG hV
    have hB : mB (a 3) (a 2) (sl a) (wl a) (op a) := iO_mB hO
    have h5 := hN.2.2.1
    have h19 : ∀ k p, k < a 3 → p < sl a k → ofF (sl a) (fun k p => lmN (op a k) (fun w => lt a w p)) (S 19) (a 3) 0 (k * 6 + p) = ((lmN (op a k) (fun w => lt a w p) : Nat) : Int) := fun k p hk hp9 => ofF_at hk hp9 (by have := (h5 k hk).2; omega)
    have hb := c_countUnsupported (c := (0, 0)) (o := op a) (sz := sl a) (f := lt a) (U := unS (oth a) (plc a) (lt a) (op a)) g4 (by omega) h5 (fun k hk => ⟨hp.2.1 k hk, (hO k hk).1⟩) (mB_gl hN hB) (fun k hk p hp9 => us_of (nB_19 (g := ofF (sl a) (fun k p => lmN (op a k) (fun w => lt a w p)) (S 19) (a 3) 0) hN) hB h19 hk hp9)
    obtain ⟨of9, hof⟩ : ∃ of9, of9 = ofF (sl a) (fun k p => lmN (op a k) (fun w => lt a w p)) (S 19) (a 3) 0 := ⟨_, rfl⟩
    rw [← hof] at hb
    refine ⟨uS S 19 of9, wA_19 hA9, ?_⟩
    generalize ((sumP (sl a) (fun k p => pc 30 (unS (oth a) (plc a) (lt a) (op a) k p)) (a 3) : Nat) : Int) = zr at hb ⊢
    refine xCallW (N := 3) (M2 := m_S_supportErrors) (pc2 := 4) (ls2 := [some (eR 0)]) (st2 := []) (y := m_W_isNarrowed) (as := [some (eR 2)]) (w2 := (([xO P, eA 3 1 ot]) ++ wCb 2 S, c)) rfl (yWin hn rfl rfl rfl) ?_
    refine xEqF (N := 1) (x := 1) (y := 0) (A := ev m_S_supportErrors 20 [some (eR 0)] [] (([xO P, eA 3 1 ot]) ++ wCb 2 S, c)) (B := ev m_S_supportErrors 10 [some (eR 0)] [] (([xO P, eA 3 1 ot]) ++ wCb 2 S, c)) rfl (show wr 1 = 1 by decide) (show wr 0 = 0 by decide) (by decide) ?_
    refine xCallW (N := 3) (M2 := m_S_supportErrors) (pc2 := 14) (ls2 := [some (eR 0)]) (st2 := []) (y := m_W_countUnsupported) (as := [some (eR 2)]) (w2 := (([xO P, eA 3 1 ot]) ++ wCb 2 S, c)) rfl (yWin hb rfl rfl rfl) ?_
    refine xSeg (N := 2) (r := some (.inl (some (eI zr)), (([xO P, eA 3 1 ot]) ++ wCb 2 (uS S 19 of9), c))) rfl ?_
    rfl
  · rw [if_neg h1]
    rw [decide_eq_false h1] at hn
    refine ⟨S, hA9, ?_⟩
    refine xCallW (N := 3) (M2 := m_S_supportErrors) (pc2 := 4) (ls2 := [some (eR 0)]) (st2 := []) (y := m_W_isNarrowed) (as := [some (eR 2)]) (w2 := (([xO P, eA 3 1 ot]) ++ wCb 2 S, c)) rfl (yWin hn rfl rfl rfl) ?_
    refine xEqT (N := 1) (x := 0) (y := 0) (A := ev m_S_supportErrors 20 [some (eR 0)] [] (([xO P, eA 3 1 ot]) ++ wCb 2 S, c)) (B := ev m_S_supportErrors 10 [some (eR 0)] [] (([xO P, eA 3 1 ot]) ++ wCb 2 S, c)) rfl (show wr 0 = 0 by decide) (show wr 0 = 0 by decide) (by decide) ?_
    refine xSeg (N := 2) (r := some (.inl (some (eI 0)), (([xO P, eA 3 1 ot]) ++ wCb 2 S, c))) rfl ?_
    rfl
/-- the sure letter of a cell -/
def suM (a : eRow) (A e : Nat) : Nat := if A = 0 then 0 else lmN (op a (A - 1)) (fun w => lt a w (pin a (A - 1) e))
def suE (a : eRow) (A : Nat) : Bool := decide (A ≠ 0 ∧ op a (A - 1) = 0)
def suA (a : eRow) (e : Nat) : Nat := suN (suE a (a (244 + e))) (suE a (a (280 + e))) (suM a (a (244 + e)) e ||| suM a (a (280 + e)) e)
theorem li_of {S : wS} {a : eRow} {e A : Nat} (hA : wA S a) (hI : iA a) (he : e < 36) (h : A = 0 ∨ (A ≤ a 3 ∧ ((sd a (A - 1) = 0 ∧ e / 6 = sy a (A - 1) ∧ sx a (A - 1) ≤ e % 6 ∧ e % 6 < sx a (A - 1) + sl a (A - 1)) ∨ (sd a (A - 1) = 1 ∧ e % 6 = sx a (A - 1) ∧ sy a (A - 1) ≤ e / 6 ∧ e / 6 < sy a (A - 1) + sl a (A - 1))))) : liOk S A e (suM a A e) (suE a A) := by
  obtain ⟨hw, hv, hp, hm⟩ := hA
  obtain ⟨hG, hV, hO, hT, hM⟩ := hI
  by_cases h0 : A = 0
  · refine Or.inl ⟨h0, if_pos h0, decide_eq_false (fun h => h.1 h0)⟩
  · rcases h with h | ⟨h1, h2⟩
    · exact absurd h h0
    · have hk : A - 1 < a 3 := by omega
      obtain ⟨q1, q2, q3⟩ := hw.1.2.2 (A - 1) hk
      obtain ⟨s1, s2, s3, s4, s5, s6, s7⟩ := sl_at hG hk
      have hpin : (e - (sy a (A - 1) * 6 + sx a (A - 1))) / strd (sd a (A - 1)) = pin a (A - 1) e ∧ pin a (A - 1) e < sl a (A - 1) ∧ sy a (A - 1) * 6 + sx a (A - 1) ≤ e := by
        unfold pin strd
        rcases h2 with ⟨d, e1, e2, e3⟩ | ⟨d, e1, e2, e3⟩
        · rw [d, if_pos rfl, if_neg (by omega), Nat.div_one]
          omega
        · rw [d, if_neg (by omega), if_pos rfl]
          refine ⟨?_, by omega, by omega⟩
          have h7 : e - (sy a (A - 1) * 6 + sx a (A - 1)) = 6 * (e / 6 - sy a (A - 1)) := by omega
          rw [h7, Nat.mul_div_cancel_left _ (by omega)]
      refine Or.inr ⟨h0, op a (A - 1), sd a (A - 1), sy a (A - 1) * 6 + sx a (A - 1), fun w => lt a w (pin a (A - 1) e), hp.2.1 _ hk, (hO _ hk).1, q3, s1, q1, hpin.2.2, by rw [hpin.1]; omega, fun w hw9 => ?_, if_neg h0, ?_⟩
      · obtain ⟨m1, m2⟩ := (hO _ hk).2 w hw9
        rw [hpin.1]
        exact ⟨hv.2.2.1 w _ m1 (by omega), lt_26 hV m1 (by omega)⟩
      · unfold suE
        exact decide_eq_decide.mpr ⟨fun h => h.2, fun h => ⟨h0, h⟩⟩
theorem li_cell {a : eRow} {e : Nat} (hG : iG a) (he : e < 36) : (a (244 + e) = 0 ∨ (a (244 + e) ≤ a 3 ∧ ((sd a (a (244 + e) - 1) = 0 ∧ e / 6 = sy a (a (244 + e) - 1) ∧ sx a (a (244 + e) - 1) ≤ e % 6 ∧ e % 6 < sx a (a (244 + e) - 1) + sl a (a (244 + e) - 1)) ∨ (sd a (a (244 + e) - 1) = 1 ∧ e % 6 = sx a (a (244 + e) - 1) ∧ sy a (a (244 + e) - 1) ≤ e / 6 ∧ e / 6 < sy a (a (244 + e) - 1) + sl a (a (244 + e) - 1))))) ∧ (a (280 + e) = 0 ∨ (a (280 + e) ≤ a 3 ∧ ((sd a (a (280 + e) - 1) = 0 ∧ e / 6 = sy a (a (280 + e) - 1) ∧ sx a (a (280 + e) - 1) ≤ e % 6 ∧ e % 6 < sx a (a (280 + e) - 1) + sl a (a (280 + e) - 1)) ∨ (sd a (a (280 + e) - 1) = 1 ∧ e % 6 = sx a (a (280 + e) - 1) ∧ sy a (a (280 + e) - 1) ≤ e / 6 ∧ e / 6 < sy a (a (280 + e) - 1) + sl a (a (280 + e) - 1))))) := by
  obtain ⟨b1, b2, b3, b4⟩ := hG.2.1 e he
  obtain ⟨c1, c2⟩ := hG.2.2.2.1 e he
  refine ⟨?_, ?_⟩
  · by_cases h : a (244 + e) = 0
    · exact Or.inl h
    · exact Or.inr ⟨b3, Or.inl (c1 h)⟩
  · by_cases h : a (280 + e) = 0
    · exact Or.inl h
    · exact Or.inr ⟨b4, Or.inr (c2 h)⟩
theorem c_sure {S : wS} {a : eRow} {c : Nat × Nat} {z : Int} {e : Nat} (hA : wA S a) (hI : iA a) (hz : z = (e : Int)) (he : e < 36) : ev m_W_sureAt 0 [some (eR 0), some (eI z)] [] (wC S, c) = some (.inl (some (eI ((suA a e : Nat) : Int))), (wC S, c)) := by
  have hG := hI.1
  have b := hG.2.1 e he
  obtain ⟨l1, l2⟩ := li_cell hG he
  have w := hA.1.1.2.1 e he
  exact c_sureAt hz he w.2.2.1 w.2.2.2 (by have := hG.1; omega) (by have := hG.1; omega) (li_of hA hI he l1) (li_of hA hI he l2)
theorem s_sureLetter {P ot : Nat → Int} {S : wS} {a : eRow} {c : Nat × Nat} (hA : wA S a) (hI : iA a) {x y : Int} {xn yn : Nat} (hx : x = (xn : Int)) (hy : y = (yn : Int)) (h1 : xn < a 0) (h2 : yn < a 1) : ev m_S_sureLetter 0 [some (eR 0), some (eI x), some (eI y)] [] ([xO P, eA 3 1 ot] ++ wCb 2 S, c) = some (.inl (some (eI (((suA a (6 * yn + xn) : Nat) : Int)))), ([xO P, eA 3 1 ot] ++ wCb 2 S, c)) := by
  obtain ⟨hw, hv, hp, hm⟩ := hA
  obtain ⟨hG, hV, hO, hT, hM⟩ := hI
  have g0 := hw.1.1.1
  have g1 := hw.1.1.2.1
  have g4 := hw.1.1.2.2
  have v2 := hv.1
  have d5 := hp.1.1
  have bG := hG.1
  have bV := hV.1
  have b5 := iT_24 bG.2.2.2.2 hT
  have hb := c_sure (c := (0, 0)) (z := y * 6 + x) (e := 6 * yn + xn) ⟨hw, hv, hp, hm⟩ ⟨hG, hV, hO, hT, hM⟩ (by omega) (by omega)
  generalize ((suA a (6 * yn + xn) : Nat) : Int) = zr at hb ⊢
  refine xCallWV (N := 4) (M2 := m_S_sureLetter) (pc2 := 3) (ls2 := [some (eR 0), some (eI x), some (eI y)]) (st2 := []) (y := m_S_requireCell) (as := [some (eR 0), some (eI x), some (eI y)]) (w2 := (([xO P, eA 3 1 ot]) ++ wCb 2 S, c)) rfl (y_cell ⟨hw, hv, hp, hm⟩ ⟨hG, hV, hO, hT, hM⟩ hx hy h1 h2) ?_
  refine xCallI (N := 5) (v := y * 6 + x) (M2 := m_S_sureLetter) (pc2 := 12) (ls2 := [some (eR 0), some (eI x), some (eI y)]) (st2 := [eR 2]) (y := m_G_cell) (as := [some (eI x), some (eI y)]) (w2 := (([xO P, eA 3 1 ot]) ++ wCb 2 S, c)) rfl c_cell (fun r12 hr12 => ?_)
  refine xCallW (N := 1) (M2 := m_S_sureLetter) (pc2 := 15) (ls2 := [some (eR 0), some (eI x), some (eI y)]) (st2 := []) (y := m_W_sureAt) (as := [some (eR 2), some (eI r12)]) (w2 := (([xO P, eA 3 1 ot]) ++ wCb 2 S, c)) rfl (by rw [hr12]; exact yWin hb rfl rfl rfl) ?_
  refine xSeg (N := 1) (r := some (.inl (some (eI zr)), (([xO P, eA 3 1 ot]) ++ wCb 2 S, c))) rfl ?_
  rfl
theorem s_sureLetterX {P ot : Nat → Int} {S : wS} {a : eRow} {c : Nat × Nat} (hA : wA S a) (hI : iA a) {x y : Int} (bx : -2147483648 ≤ x ∧ x < 2147483648) (by_ : -2147483648 ≤ y ∧ y < 2147483648) (h : inG (a 0) (a 1) x y = false) : ev m_S_sureLetter 0 [some (eR 0), some (eI x), some (eI y)] [] ([xO P, eA 3 1 ot] ++ wCb 2 S, c) = some (.inr 1, ([xO P, eA 3 1 ot] ++ wCb 2 S, (c.1 + 1, c.2 + 6))) := by
  refine xExc (N := 4) (E := 1) (M2 := m_S_sureLetter) (pc2 := 3) (ls2 := [some (eR 0), some (eI x), some (eI y)]) (st2 := []) (y := m_S_requireCell) (as := [some (eR 0), some (eI x), some (eI y)]) (w2 := (([xO P, eA 3 1 ot]) ++ wCb 2 S, c)) rfl (y_cellX hA hI bx by_ h) (by first | rfl | decide) ?_
  rfl
