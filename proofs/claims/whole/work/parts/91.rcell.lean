/-! The parser reads a cell, a block, a word, a letter, a guess. -/
theorem hb6 {bY : Nat → Int} {B : Nat → Nat} {n : Nat} (hn : n ≤ 600) (hby : ∀ i, i < 600 → bY i = (B i : Int) ∧ B i < 256) : ∀ i, i < n → bY i = (B i : Int) ∧ B i < 256 := fun i hi => hby i (by omega)
set_option maxRecDepth 100000
theorem c_openCell {P bY : Nat → Int} {B : Nat → Nat} {n e : Nat} {ln : Int} {c : Nat × Nat} {S : wS} {a : eRow} (hln : ln = (n : Int)) (hn : n ≤ 600) (hby : ∀ i, i < 600 → bY i = (B i : Int) ∧ B i < 256) (he : P 5 = (e : Int)) (hen : e ≤ n) (hw : wG S a) (hG : iG a) : ∃ P' : Nat → Int, P' 7 = P 7 ∧ poS P P' (nxS (celS B n a e)) ∧ (∀ x y e1, celS B n a e = .inr ((x, y), e1) → x < 6 ∧ y < 6 ∧ P' 10 = (x : Int) ∧ P' 11 = (y : Int)) ∧ ev m_P_readOpenCell 0 [some (eR 0)] [] ([pQ P, eO 2 [eR 2, eI ln, eSt 20], eA 0 600 bY] ++ wCb 3 S, c) = some (.inl (some (eI (bI (okS2 (celS B n a e))))), ([pQ P', eO 2 [eR 2, eI ln, eSt 20], eA 0 600 bY] ++ wCb 3 S, c)) := by
  have w0 := hw.1.1.1
  have w1 := hw.1.1.2.1
  have g0 := hG.1
  obtain ⟨P1, z1, hz1, f1, k1, p1, v1⟩ := c_num (P := P) (e := e) (lo := 0) (hi := a 0) (er := 2) (x1 := 0) (x2 := S 1 0 - 1) (x3 := 2) (c := (0, 0)) hln hn (hb6 hn hby) he hen rfl (by omega) rfl (by omega) (by omega)
  cases hr1 : nuS B n e 0 (a 0) 2 with
  | inl x =>
    have hcel : celS B n a e = .inl x := by unfold celS; rw [hr1]
    rw [hr1] at hz1 p1
    have hz1 : z1 = -1 := hz1
    subst hz1
    rw [hcel]
    refine ⟨eUp P1 10 (-1), by rw [eUp_ne (by omega)]; exact k1 7 (by omega), ?_, fun x y e1 h => by (cases h), ?_⟩
    · exact ⟨by rw [eUp_ne (by omega)]; exact p1.1, by rw [eUp_ne (by omega)]; exact p1.2⟩
    refine xCallW (N := 11) (M2 := m_P_readOpenCell) (pc2 := 16) (ls2 := [some (eR 0)]) (st2 := [eR 0]) (y := m_P_readNumber) (as := [some (eR 0), some (eI 0), some (eI ((S 1 0) - 1)), some (eI 2)]) (w2 := (([pQ P, eO 2 [eR 2, eI ln, eSt 20], eA 0 600 bY]) ++ wCb 3 S, c)) rfl (pUp v1 rfl rfl rfl) ?_
    refine xEqT (N := 5) (x := (-1)) (y := (-1)) (A := ev m_P_readOpenCell 30 [some (eR 0)] [] (([pQ (eUp P1 10 (-1)), eO 2 [eR 2, eI ln, eSt 20], eA 0 600 bY]) ++ wCb 3 S, c)) (B := ev m_P_readOpenCell 32 [some (eR 0)] [] (([pQ (eUp P1 10 (-1)), eO 2 [eR 2, eI ln, eSt 20], eA 0 600 bY]) ++ wCb 3 S, c)) rfl (show wr (-1) = (-1) by decide) (show wr (-1) = (-1) by decide) (by decide) ?_
    refine xRb (N := 2) (v := 0) (w2 := (([pQ (eUp P1 10 (-1)), eO 2 [eR 2, eI ln, eSt 20], eA 0 600 bY]) ++ wCb 3 S, c)) rfl (by decide) ?_
    rfl
  | inr q =>
    obtain ⟨x, e1⟩ := q
    rw [hr1] at hz1 p1
    have hz1 : z1 = (x : Int) := hz1
    have hx := nuS_b hr1
    have he1 := nuS_e hen hr1
    obtain ⟨P2, z2, hz2, f2, k2, p2, v2⟩ := c_num (P := eUp P1 10 z1) (e := e1) (lo := 0) (hi := a 1) (er := 2) (x1 := 0) (x2 := S 1 1 - 1) (x3 := 2) (c := (0, 0)) hln hn (hb6 hn hby) (by rw [eUp_ne (by omega)]; exact p1.2) he1 rfl (by omega) rfl (by omega) (by omega)
    have k20 : P2 10 = z1 := by rw [k2 10 (by omega), eUp_at]
    have k27 : P2 7 = P 7 := by rw [k2 7 (by omega), eUp_ne (by omega)]; exact k1 7 (by omega)
    cases hr2 : nuS B n e1 0 (a 1) 2 with
    | inl q2 =>
      have hcel : celS B n a e = .inl q2 := by unfold celS; rw [hr1]; dsimp only; rw [hr2]
      rw [hr2] at hz2 p2
      have hz2 : z2 = -1 := hz2
      subst hz2
      rw [hcel]
      refine ⟨eUp P2 11 (-1), by rw [eUp_ne (by omega)]; exact k27, ?_, fun x y e1 h => by (cases h), ?_⟩
      · exact ⟨by rw [eUp_ne (by omega)]; exact p2.1, by rw [eUp_ne (by omega)]; exact p2.2⟩
      refine xCallW (N := 11) (M2 := m_P_readOpenCell) (pc2 := 16) (ls2 := [some (eR 0)]) (st2 := [eR 0]) (y := m_P_readNumber) (as := [some (eR 0), some (eI 0), some (eI ((S 1 0) - 1)), some (eI 2)]) (w2 := (([pQ P, eO 2 [eR 2, eI ln, eSt 20], eA 0 600 bY]) ++ wCb 3 S, c)) rfl (pUp v1 rfl rfl rfl) ?_
      refine xEqF (N := 5) (x := z1) (y := (-1)) (A := ev m_P_readOpenCell 30 [some (eR 0)] [] (([pQ (eUp P1 10 z1), eO 2 [eR 2, eI ln, eSt 20], eA 0 600 bY]) ++ wCb 3 S, c)) (B := ev m_P_readOpenCell 32 [some (eR 0)] [] (([pQ (eUp P1 10 z1), eO 2 [eR 2, eI ln, eSt 20], eA 0 600 bY]) ++ wCb 3 S, c)) rfl (wr_id (by omega) (by omega)) (show wr (-1) = (-1) by decide) (by omega) ?_
      refine xCallW (N := 11) (M2 := m_P_readOpenCell) (pc2 := 48) (ls2 := [some (eR 0)]) (st2 := [eR 0]) (y := m_P_readNumber) (as := [some (eR 0), some (eI 0), some (eI ((S 1 1) - 1)), some (eI 2)]) (w2 := (([pQ (eUp P1 10 z1), eO 2 [eR 2, eI ln, eSt 20], eA 0 600 bY]) ++ wCb 3 S, c)) rfl (pUp v2 rfl rfl rfl) ?_
      refine xEqT (N := 5) (x := (-1)) (y := (-1)) (A := ev m_P_readOpenCell 62 [some (eR 0)] [] (([pQ (eUp P2 11 (-1)), eO 2 [eR 2, eI ln, eSt 20], eA 0 600 bY]) ++ wCb 3 S, c)) (B := ev m_P_readOpenCell 64 [some (eR 0)] [] (([pQ (eUp P2 11 (-1)), eO 2 [eR 2, eI ln, eSt 20], eA 0 600 bY]) ++ wCb 3 S, c)) rfl (show wr (-1) = (-1) by decide) (show wr (-1) = (-1) by decide) (by decide) ?_
      refine xRb (N := 2) (v := 0) (w2 := (([pQ (eUp P2 11 (-1)), eO 2 [eR 2, eI ln, eSt 20], eA 0 600 bY]) ++ wCb 3 S, c)) rfl (by decide) ?_
      rfl
    | inr q2 =>
      obtain ⟨y, e2⟩ := q2
      rw [hr2] at hz2 p2
      have hz2 : z2 = (y : Int) := hz2
      have hy := nuS_b hr2
      have hb2 : S 2 (y * 6 + x) = ((a (16 + (6 * y + x)) : Nat) : Int) := by
        rw [show y * 6 + x = 6 * y + x by omega]
        exact (hw.1.2.1 _ (by omega)).1
      have hb3 := (hG.2.1 (6 * y + x) (by omega)).1
      have p23 : P2 3 = P 3 := by rw [p2.1, eUp_ne (by omega)]; exact p1.1
      by_cases hb : a (16 + (6 * y + x)) = 0
      · have hcel : celS B n a e = .inr ((x, y), e2) := by unfold celS; rw [hr1]; dsimp only; rw [hr2]; dsimp only; rw [if_pos hb]
        rw [hcel]
        refine ⟨eUp P2 11 z2, by rw [eUp_ne (by omega)]; exact k27, ?_, fun x' y' e' h => ?_, ?_⟩
        · exact ⟨by rw [eUp_ne (by omega)]; exact p23, by rw [eUp_ne (by omega)]; exact p2.2⟩
        · cases h
          exact ⟨by omega, by omega, by rw [eUp_ne (by omega), k20]; exact hz1, by rw [eUp_at]; exact hz2⟩
        refine xCallW (N := 11) (M2 := m_P_readOpenCell) (pc2 := 16) (ls2 := [some (eR 0)]) (st2 := [eR 0]) (y := m_P_readNumber) (as := [some (eR 0), some (eI 0), some (eI ((S 1 0) - 1)), some (eI 2)]) (w2 := (([pQ P, eO 2 [eR 2, eI ln, eSt 20], eA 0 600 bY]) ++ wCb 3 S, c)) rfl (pUp v1 rfl rfl rfl) ?_
        refine xEqF (N := 5) (x := z1) (y := (-1)) (A := ev m_P_readOpenCell 30 [some (eR 0)] [] (([pQ (eUp P1 10 z1), eO 2 [eR 2, eI ln, eSt 20], eA 0 600 bY]) ++ wCb 3 S, c)) (B := ev m_P_readOpenCell 32 [some (eR 0)] [] (([pQ (eUp P1 10 z1), eO 2 [eR 2, eI ln, eSt 20], eA 0 600 bY]) ++ wCb 3 S, c)) rfl (wr_id (by omega) (by omega)) (show wr (-1) = (-1) by decide) (by omega) ?_
        refine xCallW (N := 11) (M2 := m_P_readOpenCell) (pc2 := 48) (ls2 := [some (eR 0)]) (st2 := [eR 0]) (y := m_P_readNumber) (as := [some (eR 0), some (eI 0), some (eI ((S 1 1) - 1)), some (eI 2)]) (w2 := (([pQ (eUp P1 10 z1), eO 2 [eR 2, eI ln, eSt 20], eA 0 600 bY]) ++ wCb 3 S, c)) rfl (pUp v2 rfl rfl rfl) ?_
        refine xEqF (N := 5) (x := z2) (y := (-1)) (A := ev m_P_readOpenCell 62 [some (eR 0)] [] (([pQ (eUp P2 11 z2), eO 2 [eR 2, eI ln, eSt 20], eA 0 600 bY]) ++ wCb 3 S, c)) (B := ev m_P_readOpenCell 64 [some (eR 0)] [] (([pQ (eUp P2 11 z2), eO 2 [eR 2, eI ln, eSt 20], eA 0 600 bY]) ++ wCb 3 S, c)) rfl (wr_id (by omega) (by omega)) (show wr (-1) = (-1) by decide) (by omega) ?_
        refine xCallI (N := 9) (v := z2 * 6 + (P2 10)) (M2 := m_P_readOpenCell) (pc2 := 82) (ls2 := [some (eR 0)]) (st2 := [eR 5]) (y := m_G_cell) (as := [some (eI (P2 10)), some (eI z2)]) (w2 := (([pQ (eUp P2 11 z2), eO 2 [eR 2, eI ln, eSt 20], eA 0 600 bY]) ++ wCb 3 S, c)) rfl c_cell (fun r82 hr82 => ?_)
        refine xLd (N := 1) (n := 36) (i := r82) (F := fun zq => ev m_P_readOpenCell 86 [some (eR 0)] [eI (S 2 zq)] (([pQ (eUp P2 11 z2), eO 2 [eR 2, eI ln, eSt 20], eA 0 600 bY]) ++ wCb 3 S, c)) (k := y * 6 + x) rfl (wr_nat (by omega) (by omega)) (by omega) ?_
        refine xEqT (N := 1) (x := S 2 (y * 6 + x)) (y := 0) (A := ev m_P_readOpenCell 97 [some (eR 0)] [] (([pQ (eUp P2 11 z2), eO 2 [eR 2, eI ln, eSt 20], eA 0 600 bY]) ++ wCb 3 S, c)) (B := ev m_P_readOpenCell 89 [some (eR 0)] [] (([pQ (eUp P2 11 z2), eO 2 [eR 2, eI ln, eSt 20], eA 0 600 bY]) ++ wCb 3 S, c)) rfl (wr_id (by omega) (by omega)) (show wr 0 = 0 by decide) (by omega) ?_
        refine xRb (N := 3) (v := 1) (w2 := (([pQ (eUp P2 11 z2), eO 2 [eR 2, eI ln, eSt 20], eA 0 600 bY]) ++ wCb 3 S, c)) rfl (by decide) ?_
        rfl
      · have hcel : celS B n a e = .inl (3, tkS B n e1) := by unfold celS; rw [hr1]; dsimp only; rw [hr2]; dsimp only; rw [if_neg hb]
        rw [hcel]
        refine ⟨eUp (eUp P2 11 z2) 3 3, by rw [eUp_ne (by omega), eUp_ne (by omega)]; exact k27, ?_, fun x y e1 h => by (cases h), ?_⟩
        · exact ⟨by rw [eUp_at]; rfl, by rw [eUp_ne (by omega), eUp_ne (by omega)]; exact f2⟩
        refine xCallW (N := 11) (M2 := m_P_readOpenCell) (pc2 := 16) (ls2 := [some (eR 0)]) (st2 := [eR 0]) (y := m_P_readNumber) (as := [some (eR 0), some (eI 0), some (eI ((S 1 0) - 1)), some (eI 2)]) (w2 := (([pQ P, eO 2 [eR 2, eI ln, eSt 20], eA 0 600 bY]) ++ wCb 3 S, c)) rfl (pUp v1 rfl rfl rfl) ?_
        refine xEqF (N := 5) (x := z1) (y := (-1)) (A := ev m_P_readOpenCell 30 [some (eR 0)] [] (([pQ (eUp P1 10 z1), eO 2 [eR 2, eI ln, eSt 20], eA 0 600 bY]) ++ wCb 3 S, c)) (B := ev m_P_readOpenCell 32 [some (eR 0)] [] (([pQ (eUp P1 10 z1), eO 2 [eR 2, eI ln, eSt 20], eA 0 600 bY]) ++ wCb 3 S, c)) rfl (wr_id (by omega) (by omega)) (show wr (-1) = (-1) by decide) (by omega) ?_
        refine xCallW (N := 11) (M2 := m_P_readOpenCell) (pc2 := 48) (ls2 := [some (eR 0)]) (st2 := [eR 0]) (y := m_P_readNumber) (as := [some (eR 0), some (eI 0), some (eI ((S 1 1) - 1)), some (eI 2)]) (w2 := (([pQ (eUp P1 10 z1), eO 2 [eR 2, eI ln, eSt 20], eA 0 600 bY]) ++ wCb 3 S, c)) rfl (pUp v2 rfl rfl rfl) ?_
        refine xEqF (N := 5) (x := z2) (y := (-1)) (A := ev m_P_readOpenCell 62 [some (eR 0)] [] (([pQ (eUp P2 11 z2), eO 2 [eR 2, eI ln, eSt 20], eA 0 600 bY]) ++ wCb 3 S, c)) (B := ev m_P_readOpenCell 64 [some (eR 0)] [] (([pQ (eUp P2 11 z2), eO 2 [eR 2, eI ln, eSt 20], eA 0 600 bY]) ++ wCb 3 S, c)) rfl (wr_id (by omega) (by omega)) (show wr (-1) = (-1) by decide) (by omega) ?_
        refine xCallI (N := 9) (v := z2 * 6 + (P2 10)) (M2 := m_P_readOpenCell) (pc2 := 82) (ls2 := [some (eR 0)]) (st2 := [eR 5]) (y := m_G_cell) (as := [some (eI (P2 10)), some (eI z2)]) (w2 := (([pQ (eUp P2 11 z2), eO 2 [eR 2, eI ln, eSt 20], eA 0 600 bY]) ++ wCb 3 S, c)) rfl c_cell (fun r82 hr82 => ?_)
        refine xLd (N := 1) (n := 36) (i := r82) (F := fun zq => ev m_P_readOpenCell 86 [some (eR 0)] [eI (S 2 zq)] (([pQ (eUp P2 11 z2), eO 2 [eR 2, eI ln, eSt 20], eA 0 600 bY]) ++ wCb 3 S, c)) (k := y * 6 + x) rfl (wr_nat (by omega) (by omega)) (by omega) ?_
        refine xEqF (N := 1) (x := S 2 (y * 6 + x)) (y := 0) (A := ev m_P_readOpenCell 97 [some (eR 0)] [] (([pQ (eUp P2 11 z2), eO 2 [eR 2, eI ln, eSt 20], eA 0 600 bY]) ++ wCb 3 S, c)) (B := ev m_P_readOpenCell 89 [some (eR 0)] [] (([pQ (eUp P2 11 z2), eO 2 [eR 2, eI ln, eSt 20], eA 0 600 bY]) ++ wCb 3 S, c)) rfl (wr_id (by omega) (by omega)) (show wr 0 = 0 by decide) (by omega) ?_
        refine xCallW (N := 3) (M2 := m_P_readOpenCell) (pc2 := 91) (ls2 := [some (eR 0)]) (st2 := []) (y := m_P_fail) (as := [some (eR 0), some (eI 3)]) (w2 := (([pQ (eUp P2 11 z2), eO 2 [eR 2, eI ln, eSt 20], eA 0 600 bY]) ++ wCb 3 S, c)) rfl (pUp c_fail rfl rfl rfl) ?_
        refine xEqT (N := 1) (x := 0) (y := 0) (A := ev m_P_readOpenCell 101 [some (eR 0)] [] (([pQ (eUp (eUp P2 11 z2) 3 3), eO 2 [eR 2, eI ln, eSt 20], eA 0 600 bY]) ++ wCb 3 S, c)) (B := ev m_P_readOpenCell 97 [some (eR 0)] [] (([pQ (eUp (eUp P2 11 z2) 3 3), eO 2 [eR 2, eI ln, eSt 20], eA 0 600 bY]) ++ wCb 3 S, c)) rfl (show wr 0 = 0 by decide) (show wr 0 = 0 by decide) (by decide) ?_
        refine xRb (N := 2) (v := 0) (w2 := (([pQ (eUp (eUp P2 11 z2) 3 3), eO 2 [eR 2, eI ln, eSt 20], eA 0 600 bY]) ++ wCb 3 S, c)) rfl (by decide) ?_
        rfl
theorem c_rBlock {P bY : Nat → Int} {B : Nat → Nat} {n e : Nat} {ln : Int} {c : Nat × Nat} {S : wS} {a : eRow} (hln : ln = (n : Int)) (hn : n ≤ 600) (hby : ∀ i, i < 600 → bY i = (B i : Int) ∧ B i < 256) (he : P 5 = (e : Int)) (hen : e ≤ n) {s : Nat} (h4 : P 4 = (s : Int)) (hw : wG S a) (hG : iG a) (hV : wV S a) (hm : a 2 ≤ 30) : ∃ P' : Nat → Int, P' 7 = P 7 ∧ poS P P' (nxS (blkS B n a s e)) ∧ (∀ x y e1, blkS B n a s e = .inr ((x, y), e1) → x < 6 ∧ y < 6 ∧ P' 10 = (x : Int) ∧ P' 11 = (y : Int)) ∧ ev m_P_readBlock 0 [some (eR 0)] [] ([pQ P, eO 2 [eR 2, eI ln, eSt 20], eA 0 600 bY] ++ wCb 3 S, c) = some (.inl (some (eI (bI (okS2 (blkS B n a s e))))), ([pQ P', eO 2 [eR 2, eI ln, eSt 20], eA 0 600 bY] ++ wCb 3 S, c)) := by
  have w11 := hV.1
  have hgv := c_hasGiven (S := S) (c := (0, 0)) (G := fun e => a (52 + e)) (fun k hk => ⟨(hw.1.2.1 k hk).2.1, by have := (hG.2.1 k hk).2.1; omega⟩)
  obtain ⟨P1, k1, p1, y1, v1⟩ := c_openCell (P := P) (S := S) (a := a) (c := c) hln hn hby he hen hw hG
  by_cases h2 : 0 < a 2
  · have hb : blkS B n a s e = .inl (6, s) := if_pos (Or.inl h2)
    rw [hb]
    refine ⟨eUp P 3 6, by rw [eUp_ne (by omega)], ⟨by rw [eUp_at]; rfl, by rw [eUp_ne (by omega)]; exact h4⟩, fun x y e1 h => by (cases h), ?_⟩
    refine xLtT (N := 5) (x := 0) (y := S 11 0) (A := ev m_P_readBlock 26 [some (eR 0)] [] (([pQ P, eO 2 [eR 2, eI ln, eSt 20], eA 0 600 bY]) ++ wCb 3 S, c)) (B := ev m_P_readBlock 13 [some (eR 0)] [] (([pQ P, eO 2 [eR 2, eI ln, eSt 20], eA 0 600 bY]) ++ wCb 3 S, c)) rfl (show wr 0 = 0 by decide) (wr_id (by omega) (by omega)) (by omega) ?_
    refine xCallW (N := 3) (M2 := m_P_readBlock) (pc2 := 29) (ls2 := [some (eR 0)]) (st2 := []) (y := m_P_fail) (as := [some (eR 0), some (eI 6)]) (w2 := (([pQ P, eO 2 [eR 2, eI ln, eSt 20], eA 0 600 bY]) ++ wCb 3 S, c)) rfl (pUp c_fail rfl rfl rfl) ?_
    refine xRb (N := 1) (v := 0) (w2 := (([pQ (eUp P 3 6), eO 2 [eR 2, eI ln, eSt 20], eA 0 600 bY]) ++ wCb 3 S, c)) rfl (by decide) ?_
    rfl
  · have hbr : bI (hvG a) = bI (anyN (fun k => decide (a (52 + k) ≠ 0)) 36) := rfl
    cases hg : hvG a with
    | true =>
      have hb : blkS B n a s e = .inl (6, s) := if_pos (Or.inr hg)
      rw [hb]
      have hgv1 : ev m_G_hasGiven 0 [some (eR 1)] [] (wC S, (0, 0)) = some (.inl (some (eI 1)), (wC S, (0, 0))) := by
        rw [hgv, ← hbr, hg]; rfl
      refine ⟨eUp P 3 6, by rw [eUp_ne (by omega)], ⟨by rw [eUp_at]; rfl, by rw [eUp_ne (by omega)]; exact h4⟩, fun x y e1 h => by (cases h), ?_⟩
      refine xLtF (N := 5) (x := 0) (y := S 11 0) (A := ev m_P_readBlock 26 [some (eR 0)] [] (([pQ P, eO 2 [eR 2, eI ln, eSt 20], eA 0 600 bY]) ++ wCb 3 S, c)) (B := ev m_P_readBlock 13 [some (eR 0)] [] (([pQ P, eO 2 [eR 2, eI ln, eSt 20], eA 0 600 bY]) ++ wCb 3 S, c)) rfl (show wr 0 = 0 by decide) (wr_id (by omega) (by omega)) (by omega) ?_
      refine xCallW (N := 4) (M2 := m_P_readBlock) (pc2 := 20) (ls2 := [some (eR 0)]) (st2 := []) (y := m_G_hasGiven) (as := [some (eR 4)]) (w2 := (([pQ P, eO 2 [eR 2, eI ln, eSt 20], eA 0 600 bY]) ++ wCb 3 S, c)) rfl (pWin hgv1 rfl rfl rfl) ?_
      refine xEqF (N := 1) (x := 1) (y := 0) (A := ev m_P_readBlock 33 [some (eR 0)] [] (([pQ P, eO 2 [eR 2, eI ln, eSt 20], eA 0 600 bY]) ++ wCb 3 S, c)) (B := ev m_P_readBlock 26 [some (eR 0)] [] (([pQ P, eO 2 [eR 2, eI ln, eSt 20], eA 0 600 bY]) ++ wCb 3 S, c)) rfl (show wr 1 = 1 by decide) (show wr 0 = 0 by decide) (by decide) ?_
      refine xCallW (N := 3) (M2 := m_P_readBlock) (pc2 := 29) (ls2 := [some (eR 0)]) (st2 := []) (y := m_P_fail) (as := [some (eR 0), some (eI 6)]) (w2 := (([pQ P, eO 2 [eR 2, eI ln, eSt 20], eA 0 600 bY]) ++ wCb 3 S, c)) rfl (pUp c_fail rfl rfl rfl) ?_
      refine xRb (N := 1) (v := 0) (w2 := (([pQ (eUp P 3 6), eO 2 [eR 2, eI ln, eSt 20], eA 0 600 bY]) ++ wCb 3 S, c)) rfl (by decide) ?_
      rfl
    | false =>
      have hb : blkS B n a s e = celS B n a e := if_neg (fun h => by rcases h with h | h; exact h2 h; rw [hg] at h; cases h)
      rw [hb]
      have hgv0 : ev m_G_hasGiven 0 [some (eR 1)] [] (wC S, (0, 0)) = some (.inl (some (eI 0)), (wC S, (0, 0))) := by
        rw [hgv, ← hbr, hg]; rfl
      refine ⟨P1, k1, p1, y1, ?_⟩
      generalize okS2 (celS B n a e) = okb at v1 ⊢
      have hok : (0 : Int) ≤ bI okb ∧ bI okb ≤ 1 := by cases okb <;> decide
      generalize bI okb = oki at v1 hok ⊢
      refine xLtF (N := 5) (x := 0) (y := S 11 0) (A := ev m_P_readBlock 26 [some (eR 0)] [] (([pQ P, eO 2 [eR 2, eI ln, eSt 20], eA 0 600 bY]) ++ wCb 3 S, c)) (B := ev m_P_readBlock 13 [some (eR 0)] [] (([pQ P, eO 2 [eR 2, eI ln, eSt 20], eA 0 600 bY]) ++ wCb 3 S, c)) rfl (show wr 0 = 0 by decide) (wr_id (by omega) (by omega)) (by omega) ?_
      refine xCallW (N := 4) (M2 := m_P_readBlock) (pc2 := 20) (ls2 := [some (eR 0)]) (st2 := []) (y := m_G_hasGiven) (as := [some (eR 4)]) (w2 := (([pQ P, eO 2 [eR 2, eI ln, eSt 20], eA 0 600 bY]) ++ wCb 3 S, c)) rfl (pWin hgv0 rfl rfl rfl) ?_
      refine xEqT (N := 1) (x := 0) (y := 0) (A := ev m_P_readBlock 33 [some (eR 0)] [] (([pQ P, eO 2 [eR 2, eI ln, eSt 20], eA 0 600 bY]) ++ wCb 3 S, c)) (B := ev m_P_readBlock 26 [some (eR 0)] [] (([pQ P, eO 2 [eR 2, eI ln, eSt 20], eA 0 600 bY]) ++ wCb 3 S, c)) rfl (show wr 0 = 0 by decide) (show wr 0 = 0 by decide) (by decide) ?_
      refine xCallW (N := 2) (M2 := m_P_readBlock) (pc2 := 34) (ls2 := [some (eR 0)]) (st2 := []) (y := m_P_readOpenCell) (as := [some (eR 0)]) (w2 := (([pQ P, eO 2 [eR 2, eI ln, eSt 20], eA 0 600 bY]) ++ wCb 3 S, c)) rfl v1 ?_
      refine xRb (N := 1) (v := oki) (w2 := (([pQ P1, eO 2 [eR 2, eI ln, eSt 20], eA 0 600 bY]) ++ wCb 3 S, c)) rfl (by rw [wr_id (by omega) (by omega)]; omega) ?_
      rfl
