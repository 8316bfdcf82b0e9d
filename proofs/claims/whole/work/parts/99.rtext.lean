/-! The parser reads the text. -/
section
variable {P bY : Nat → Int} {B : Nat → Nat} {n : Nat} {ln : Int} {c : Nat × Nat} {S : wS} {a : eRow}
set_option maxRecDepth 100000
theorem c_rGrid (hln : ln = (n : Int)) (hn : n ≤ 600) (hby : ∀ i, i < 600 → bY i = (B i : Int) ∧ B i < 256) (h5 : P 5 = 0) : ∃ P' : Nat → Int, (match griS B n with
    | .inl (k, s) => P' 3 = (k : Int) ∧ P' 4 = (s : Int) ∧ ev m_P_readGrid 0 [some (eR 0)] [] ([pQ P, eO 2 [eR 2, eI ln, eSt 20], eA 0 600 bY] ++ wCb 3 S, c) = some (.inl (some (eI 0)), ([pQ P', eO 2 [eR 2, eI ln, eSt 20], eA 0 600 bY] ++ wCb 3 S, c))
    | .inr ((w, h), e) => (P' 3 = P 3 ∧ P' 5 = (e : Int) ∧ P' 8 = (w : Int) ∧ P' 9 = (h : Int)) ∧ (2 ≤ w ∧ w ≤ 6 ∧ 2 ≤ h ∧ h ≤ 6 ∧ 0 < e ∧ e ≤ n) ∧ ev m_P_readGrid 0 [some (eR 0)] [] ([pQ P, eO 2 [eR 2, eI ln, eSt 20], eA 0 600 bY] ++ wCb 3 S, c) = some (.inl (some (eI 1)), ([pQ P', eO 2 [eR 2, eI ln, eSt 20], eA 0 600 bY] ++ wCb 3 S, c))) := by
  obtain ⟨Q, ⟨q4, q5, q6, q7⟩, q8⟩ := c_nextToken (e := 0) (c := (0, 0)) hln hn (hb6 hn hby) h5 (Nat.zero_le n)
  have t := tk_le (B := B) (n := n) (e := 0) (Nat.zero_le n)
  have ht := c_tokenIs0 (c := (0, 0)) (ln := ln) q4 q5 q6 (by omega) (by omega) hn (by omega) (hb6 hn hby)
  have q3 : Q 3 = P 3 := q7 3 (by omega) (by omega) (by omega)
  have hE : tkE B n 0 ≤ n := tkE_le (e := 0) (Nat.zero_le n)
  unfold griS
  generalize isB B (tkK B n 0) (tkS B n 0) (tkE B n 0) 0 = ib at *
  cases ib with
  | false =>
    refine ⟨eUp Q 3 1, by rw [eUp_at]; rfl, by rw [eUp_ne (by omega)]; exact q4, ?_⟩
    refine xCallWV (N := 2) (M2 := m_P_readGrid) (pc2 := 1) (ls2 := [some (eR 0)]) (st2 := []) (y := m_P_nextToken) (as := [some (eR 0)]) (w2 := (([pQ P, eO 2 [eR 2, eI ln, eSt 20], eA 0 600 bY]) ++ wCb 3 S, c)) rfl (pUp q8 rfl rfl rfl) ?_
    refine xCallW (N := 3) (M2 := m_P_readGrid) (pc2 := 7) (ls2 := [some (eR 0)]) (st2 := []) (y := m_P_tokenIs) (as := [some (eR 0), some (eSt 0)]) (w2 := (([pQ Q, eO 2 [eR 2, eI ln, eSt 20], eA 0 600 bY]) ++ wCb 3 S, c)) rfl (pUp ht rfl rfl rfl) ?_
    refine xEqT (N := 1) (x := 0) (y := 0) (A := ev m_P_readGrid 13 [some (eR 0)] [] (([pQ Q, eO 2 [eR 2, eI ln, eSt 20], eA 0 600 bY]) ++ wCb 3 S, c)) (B := ev m_P_readGrid 19 [some (eR 0)] [] (([pQ Q, eO 2 [eR 2, eI ln, eSt 20], eA 0 600 bY]) ++ wCb 3 S, c)) rfl (show wr 0 = 0 by decide) (show wr 0 = 0 by decide) (by decide) ?_
    refine xCallW (N := 3) (M2 := m_P_readGrid) (pc2 := 15) (ls2 := [some (eR 0)]) (st2 := []) (y := m_P_fail) (as := [some (eR 0), some (eI 1)]) (w2 := (([pQ Q, eO 2 [eR 2, eI ln, eSt 20], eA 0 600 bY]) ++ wCb 3 S, c)) rfl (pUp c_fail rfl rfl rfl) ?_
    refine xRb (N := 1) (v := 0) (w2 := (([pQ (eUp Q 3 1), eO 2 [eR 2, eI ln, eSt 20], eA 0 600 bY]) ++ wCb 3 S, c)) rfl (by decide) ?_
    rfl
  | true =>
    rw [if_pos rfl]
    obtain ⟨P1, z1, hz1, f1, k1, p1, v1⟩ := c_num (P := Q) (e := tkE B n 0) (lo := 2) (hi := 7) (er := 2) (x1 := 2) (x2 := 6) (x3 := 2) (c := (0, 0)) hln hn (hb6 hn hby) q5 hE rfl rfl rfl (by omega) (by omega)
    cases hr1 : nuS B n (tkE B n 0) 2 7 2 with
    | inl x =>
      rw [hr1] at hz1 p1
      have hz1 : z1 = -1 := hz1
      subst hz1
      refine ⟨eUp P1 8 (-1), by rw [eUp_ne (by omega)]; exact p1.1, by rw [eUp_ne (by omega)]; exact p1.2, ?_⟩
      refine xCallWV (N := 2) (M2 := m_P_readGrid) (pc2 := 1) (ls2 := [some (eR 0)]) (st2 := []) (y := m_P_nextToken) (as := [some (eR 0)]) (w2 := (([pQ P, eO 2 [eR 2, eI ln, eSt 20], eA 0 600 bY]) ++ wCb 3 S, c)) rfl (pUp q8 rfl rfl rfl) ?_
      refine xCallW (N := 3) (M2 := m_P_readGrid) (pc2 := 7) (ls2 := [some (eR 0)]) (st2 := []) (y := m_P_tokenIs) (as := [some (eR 0), some (eSt 0)]) (w2 := (([pQ Q, eO 2 [eR 2, eI ln, eSt 20], eA 0 600 bY]) ++ wCb 3 S, c)) rfl (pUp ht rfl rfl rfl) ?_
      refine xEqF (N := 1) (x := 1) (y := 0) (A := ev m_P_readGrid 13 [some (eR 0)] [] (([pQ Q, eO 2 [eR 2, eI ln, eSt 20], eA 0 600 bY]) ++ wCb 3 S, c)) (B := ev m_P_readGrid 19 [some (eR 0)] [] (([pQ Q, eO 2 [eR 2, eI ln, eSt 20], eA 0 600 bY]) ++ wCb 3 S, c)) rfl (show wr 1 = 1 by decide) (show wr 0 = 0 by decide) (by decide) ?_
      refine xCallW (N := 6) (M2 := m_P_readGrid) (pc2 := 25) (ls2 := [some (eR 0)]) (st2 := [eR 0]) (y := m_P_readNumber) (as := [some (eR 0), some (eI 2), some (eI 6), some (eI 2)]) (w2 := (([pQ Q, eO 2 [eR 2, eI ln, eSt 20], eA 0 600 bY]) ++ wCb 3 S, c)) rfl (pUp v1 rfl rfl rfl) ?_
      refine xEqT (N := 5) (x := (-1)) (y := (-1)) (A := ev m_P_readGrid 39 [some (eR 0)] [] (([pQ (eUp P1 8 (-1)), eO 2 [eR 2, eI ln, eSt 20], eA 0 600 bY]) ++ wCb 3 S, c)) (B := ev m_P_readGrid 41 [some (eR 0)] [] (([pQ (eUp P1 8 (-1)), eO 2 [eR 2, eI ln, eSt 20], eA 0 600 bY]) ++ wCb 3 S, c)) rfl (show wr (-1) = (-1) by decide) (show wr (-1) = (-1) by decide) (by decide) ?_
      refine xRb (N := 2) (v := 0) (w2 := (([pQ (eUp P1 8 (-1)), eO 2 [eR 2, eI ln, eSt 20], eA 0 600 bY]) ++ wCb 3 S, c)) rfl (by decide) ?_
      rfl
    | inr q =>
      obtain ⟨w, e1⟩ := q
      rw [hr1] at hz1 p1
      have hz1 : z1 = (w : Int) := hz1
      have hw := nuS_b hr1
      have he1 := nuS_e hE hr1
      dsimp only
      obtain ⟨P2, z2, hz2, f2, k2, p2, v2⟩ := c_num (P := eUp P1 8 z1) (e := e1) (lo := 2) (hi := 7) (er := 2) (x1 := 2) (x2 := 6) (x3 := 2) (c := (0, 0)) hln hn (hb6 hn hby) (by rw [eUp_ne (by omega)]; exact p1.2) he1 rfl rfl rfl (by omega) (by omega)
      have k28 : P2 8 = z1 := by rw [k2 8 (by omega), eUp_at]
      cases hr2 : nuS B n e1 2 7 2 with
      | inl x =>
        rw [hr2] at hz2 p2
        have hz2 : z2 = -1 := hz2
        subst hz2
        refine ⟨eUp P2 9 (-1), by rw [eUp_ne (by omega)]; exact p2.1, by rw [eUp_ne (by omega)]; exact p2.2, ?_⟩
        refine xCallWV (N := 2) (M2 := m_P_readGrid) (pc2 := 1) (ls2 := [some (eR 0)]) (st2 := []) (y := m_P_nextToken) (as := [some (eR 0)]) (w2 := (([pQ P, eO 2 [eR 2, eI ln, eSt 20], eA 0 600 bY]) ++ wCb 3 S, c)) rfl (pUp q8 rfl rfl rfl) ?_
        refine xCallW (N := 3) (M2 := m_P_readGrid) (pc2 := 7) (ls2 := [some (eR 0)]) (st2 := []) (y := m_P_tokenIs) (as := [some (eR 0), some (eSt 0)]) (w2 := (([pQ Q, eO 2 [eR 2, eI ln, eSt 20], eA 0 600 bY]) ++ wCb 3 S, c)) rfl (pUp ht rfl rfl rfl) ?_
        refine xEqF (N := 1) (x := 1) (y := 0) (A := ev m_P_readGrid 13 [some (eR 0)] [] (([pQ Q, eO 2 [eR 2, eI ln, eSt 20], eA 0 600 bY]) ++ wCb 3 S, c)) (B := ev m_P_readGrid 19 [some (eR 0)] [] (([pQ Q, eO 2 [eR 2, eI ln, eSt 20], eA 0 600 bY]) ++ wCb 3 S, c)) rfl (show wr 1 = 1 by decide) (show wr 0 = 0 by decide) (by decide) ?_
        refine xCallW (N := 6) (M2 := m_P_readGrid) (pc2 := 25) (ls2 := [some (eR 0)]) (st2 := [eR 0]) (y := m_P_readNumber) (as := [some (eR 0), some (eI 2), some (eI 6), some (eI 2)]) (w2 := (([pQ Q, eO 2 [eR 2, eI ln, eSt 20], eA 0 600 bY]) ++ wCb 3 S, c)) rfl (pUp v1 rfl rfl rfl) ?_
        refine xEqF (N := 5) (x := z1) (y := (-1)) (A := ev m_P_readGrid 39 [some (eR 0)] [] (([pQ (eUp P1 8 z1), eO 2 [eR 2, eI ln, eSt 20], eA 0 600 bY]) ++ wCb 3 S, c)) (B := ev m_P_readGrid 41 [some (eR 0)] [] (([pQ (eUp P1 8 z1), eO 2 [eR 2, eI ln, eSt 20], eA 0 600 bY]) ++ wCb 3 S, c)) rfl (wr_id (by omega) (by omega)) (show wr (-1) = (-1) by decide) (by omega) ?_
        refine xCallW (N := 6) (M2 := m_P_readGrid) (pc2 := 47) (ls2 := [some (eR 0)]) (st2 := [eR 0]) (y := m_P_readNumber) (as := [some (eR 0), some (eI 2), some (eI 6), some (eI 2)]) (w2 := (([pQ (eUp P1 8 z1), eO 2 [eR 2, eI ln, eSt 20], eA 0 600 bY]) ++ wCb 3 S, c)) rfl (pUp v2 rfl rfl rfl) ?_
        refine xEqT (N := 5) (x := (-1)) (y := (-1)) (A := ev m_P_readGrid 72 [some (eR 0)] [] (([pQ (eUp P2 9 (-1)), eO 2 [eR 2, eI ln, eSt 20], eA 0 600 bY]) ++ wCb 3 S, c)) (B := ev m_P_readGrid 61 [some (eR 0)] [] (([pQ (eUp P2 9 (-1)), eO 2 [eR 2, eI ln, eSt 20], eA 0 600 bY]) ++ wCb 3 S, c)) rfl (show wr (-1) = (-1) by decide) (show wr (-1) = (-1) by decide) (by decide) ?_
        refine xRb (N := 2) (v := 0) (w2 := (([pQ (eUp P2 9 (-1)), eO 2 [eR 2, eI ln, eSt 20], eA 0 600 bY]) ++ wCb 3 S, c)) rfl (by decide) ?_
        rfl
      | inr q =>
        obtain ⟨h, e2⟩ := q
        rw [hr2] at hz2 p2
        have hz2 : z2 = (h : Int) := hz2
        have hh := nuS_b hr2
        have he2 := nuS_e he1 hr2
        have p23 : P2 3 = P 3 := by rw [p2.1, eUp_ne (by omega), p1.1]; exact q3
        dsimp only
        obtain ⟨P3, k3, p3, v3⟩ := c_sem (P := eUp P2 9 z2) (e := e2) (c := (0, 0)) hln hn (hb6 hn hby) (by rw [eUp_ne (by omega)]; exact p2.2) he2
        cases hs : smS B n e2 with
        | inl x =>
          rw [hs] at p3 v3
          refine ⟨P3, p3.1, p3.2, ?_⟩
          refine xCallWV (N := 2) (M2 := m_P_readGrid) (pc2 := 1) (ls2 := [some (eR 0)]) (st2 := []) (y := m_P_nextToken) (as := [some (eR 0)]) (w2 := (([pQ P, eO 2 [eR 2, eI ln, eSt 20], eA 0 600 bY]) ++ wCb 3 S, c)) rfl (pUp q8 rfl rfl rfl) ?_
          refine xCallW (N := 3) (M2 := m_P_readGrid) (pc2 := 7) (ls2 := [some (eR 0)]) (st2 := []) (y := m_P_tokenIs) (as := [some (eR 0), some (eSt 0)]) (w2 := (([pQ Q, eO 2 [eR 2, eI ln, eSt 20], eA 0 600 bY]) ++ wCb 3 S, c)) rfl (pUp ht rfl rfl rfl) ?_
          refine xEqF (N := 1) (x := 1) (y := 0) (A := ev m_P_readGrid 13 [some (eR 0)] [] (([pQ Q, eO 2 [eR 2, eI ln, eSt 20], eA 0 600 bY]) ++ wCb 3 S, c)) (B := ev m_P_readGrid 19 [some (eR 0)] [] (([pQ Q, eO 2 [eR 2, eI ln, eSt 20], eA 0 600 bY]) ++ wCb 3 S, c)) rfl (show wr 1 = 1 by decide) (show wr 0 = 0 by decide) (by decide) ?_
          refine xCallW (N := 6) (M2 := m_P_readGrid) (pc2 := 25) (ls2 := [some (eR 0)]) (st2 := [eR 0]) (y := m_P_readNumber) (as := [some (eR 0), some (eI 2), some (eI 6), some (eI 2)]) (w2 := (([pQ Q, eO 2 [eR 2, eI ln, eSt 20], eA 0 600 bY]) ++ wCb 3 S, c)) rfl (pUp v1 rfl rfl rfl) ?_
          refine xEqF (N := 5) (x := z1) (y := (-1)) (A := ev m_P_readGrid 39 [some (eR 0)] [] (([pQ (eUp P1 8 z1), eO 2 [eR 2, eI ln, eSt 20], eA 0 600 bY]) ++ wCb 3 S, c)) (B := ev m_P_readGrid 41 [some (eR 0)] [] (([pQ (eUp P1 8 z1), eO 2 [eR 2, eI ln, eSt 20], eA 0 600 bY]) ++ wCb 3 S, c)) rfl (wr_id (by omega) (by omega)) (show wr (-1) = (-1) by decide) (by omega) ?_
          refine xCallW (N := 6) (M2 := m_P_readGrid) (pc2 := 47) (ls2 := [some (eR 0)]) (st2 := [eR 0]) (y := m_P_readNumber) (as := [some (eR 0), some (eI 2), some (eI 6), some (eI 2)]) (w2 := (([pQ (eUp P1 8 z1), eO 2 [eR 2, eI ln, eSt 20], eA 0 600 bY]) ++ wCb 3 S, c)) rfl (pUp v2 rfl rfl rfl) ?_
          refine xEqF (N := 5) (x := z2) (y := (-1)) (A := ev m_P_readGrid 72 [some (eR 0)] [] (([pQ (eUp P2 9 z2), eO 2 [eR 2, eI ln, eSt 20], eA 0 600 bY]) ++ wCb 3 S, c)) (B := ev m_P_readGrid 61 [some (eR 0)] [] (([pQ (eUp P2 9 z2), eO 2 [eR 2, eI ln, eSt 20], eA 0 600 bY]) ++ wCb 3 S, c)) rfl (wr_id (by omega) (by omega)) (show wr (-1) = (-1) by decide) (by omega) ?_
          refine xCallW (N := 2) (M2 := m_P_readGrid) (pc2 := 62) (ls2 := [some (eR 0)]) (st2 := []) (y := m_P_readSemicolon) (as := [some (eR 0)]) (w2 := (([pQ (eUp P2 9 z2), eO 2 [eR 2, eI ln, eSt 20], eA 0 600 bY]) ++ wCb 3 S, c)) rfl (pUp v3 rfl rfl rfl) ?_
          refine xEqT (N := 1) (x := 0) (y := 0) (A := ev m_P_readGrid 72 [some (eR 0)] [] (([pQ P3, eO 2 [eR 2, eI ln, eSt 20], eA 0 600 bY]) ++ wCb 3 S, c)) (B := ev m_P_readGrid 68 [some (eR 0)] [] (([pQ P3, eO 2 [eR 2, eI ln, eSt 20], eA 0 600 bY]) ++ wCb 3 S, c)) rfl (show wr 0 = 0 by decide) (show wr 0 = 0 by decide) (by decide) ?_
          refine xRb (N := 2) (v := 0) (w2 := (([pQ P3, eO 2 [eR 2, eI ln, eSt 20], eA 0 600 bY]) ++ wCb 3 S, c)) rfl (by decide) ?_
          rfl
        | inr e3 =>
          rw [hs] at p3 v3
          have he3 := smS_e he2 hs
          refine ⟨P3, ⟨by rw [p3.1, eUp_ne (by omega)]; exact p23, p3.2, by rw [k3 8 (by omega), eUp_ne (by omega), k28]; exact hz1, by rw [k3 9 (by omega), eUp_at]; exact hz2⟩, by omega, ?_⟩
          refine xCallWV (N := 2) (M2 := m_P_readGrid) (pc2 := 1) (ls2 := [some (eR 0)]) (st2 := []) (y := m_P_nextToken) (as := [some (eR 0)]) (w2 := (([pQ P, eO 2 [eR 2, eI ln, eSt 20], eA 0 600 bY]) ++ wCb 3 S, c)) rfl (pUp q8 rfl rfl rfl) ?_
          refine xCallW (N := 3) (M2 := m_P_readGrid) (pc2 := 7) (ls2 := [some (eR 0)]) (st2 := []) (y := m_P_tokenIs) (as := [some (eR 0), some (eSt 0)]) (w2 := (([pQ Q, eO 2 [eR 2, eI ln, eSt 20], eA 0 600 bY]) ++ wCb 3 S, c)) rfl (pUp ht rfl rfl rfl) ?_
          refine xEqF (N := 1) (x := 1) (y := 0) (A := ev m_P_readGrid 13 [some (eR 0)] [] (([pQ Q, eO 2 [eR 2, eI ln, eSt 20], eA 0 600 bY]) ++ wCb 3 S, c)) (B := ev m_P_readGrid 19 [some (eR 0)] [] (([pQ Q, eO 2 [eR 2, eI ln, eSt 20], eA 0 600 bY]) ++ wCb 3 S, c)) rfl (show wr 1 = 1 by decide) (show wr 0 = 0 by decide) (by decide) ?_
          refine xCallW (N := 6) (M2 := m_P_readGrid) (pc2 := 25) (ls2 := [some (eR 0)]) (st2 := [eR 0]) (y := m_P_readNumber) (as := [some (eR 0), some (eI 2), some (eI 6), some (eI 2)]) (w2 := (([pQ Q, eO 2 [eR 2, eI ln, eSt 20], eA 0 600 bY]) ++ wCb 3 S, c)) rfl (pUp v1 rfl rfl rfl) ?_
          refine xEqF (N := 5) (x := z1) (y := (-1)) (A := ev m_P_readGrid 39 [some (eR 0)] [] (([pQ (eUp P1 8 z1), eO 2 [eR 2, eI ln, eSt 20], eA 0 600 bY]) ++ wCb 3 S, c)) (B := ev m_P_readGrid 41 [some (eR 0)] [] (([pQ (eUp P1 8 z1), eO 2 [eR 2, eI ln, eSt 20], eA 0 600 bY]) ++ wCb 3 S, c)) rfl (wr_id (by omega) (by omega)) (show wr (-1) = (-1) by decide) (by omega) ?_
          refine xCallW (N := 6) (M2 := m_P_readGrid) (pc2 := 47) (ls2 := [some (eR 0)]) (st2 := [eR 0]) (y := m_P_readNumber) (as := [some (eR 0), some (eI 2), some (eI 6), some (eI 2)]) (w2 := (([pQ (eUp P1 8 z1), eO 2 [eR 2, eI ln, eSt 20], eA 0 600 bY]) ++ wCb 3 S, c)) rfl (pUp v2 rfl rfl rfl) ?_
          refine xEqF (N := 5) (x := z2) (y := (-1)) (A := ev m_P_readGrid 72 [some (eR 0)] [] (([pQ (eUp P2 9 z2), eO 2 [eR 2, eI ln, eSt 20], eA 0 600 bY]) ++ wCb 3 S, c)) (B := ev m_P_readGrid 61 [some (eR 0)] [] (([pQ (eUp P2 9 z2), eO 2 [eR 2, eI ln, eSt 20], eA 0 600 bY]) ++ wCb 3 S, c)) rfl (wr_id (by omega) (by omega)) (show wr (-1) = (-1) by decide) (by omega) ?_
          refine xCallW (N := 2) (M2 := m_P_readGrid) (pc2 := 62) (ls2 := [some (eR 0)]) (st2 := []) (y := m_P_readSemicolon) (as := [some (eR 0)]) (w2 := (([pQ (eUp P2 9 z2), eO 2 [eR 2, eI ln, eSt 20], eA 0 600 bY]) ++ wCb 3 S, c)) rfl (pUp v3 rfl rfl rfl) ?_
          refine xEqF (N := 1) (x := 1) (y := 0) (A := ev m_P_readGrid 72 [some (eR 0)] [] (([pQ P3, eO 2 [eR 2, eI ln, eSt 20], eA 0 600 bY]) ++ wCb 3 S, c)) (B := ev m_P_readGrid 68 [some (eR 0)] [] (([pQ P3, eO 2 [eR 2, eI ln, eSt 20], eA 0 600 bY]) ++ wCb 3 S, c)) rfl (show wr 1 = 1 by decide) (show wr 0 = 0 by decide) (by decide) ?_
          refine xRb (N := 3) (v := 1) (w2 := (([pQ P3, eO 2 [eR 2, eI ln, eSt 20], eA 0 600 bY]) ++ wCb 3 S, c)) rfl (by decide) ?_
          rfl
/-- what the text has come to -/
def pT (P' : Nat → Int) (S' : wS) (v : Int) : Option (Nat × Nat) × eRow → Prop
  | (none, a) => v = 1 ∧ P' 3 = 0 ∧ wA S' a ∧ iA a
  | (some (k, s), a) => v = 0 ∧ P' 3 = (k : Int) ∧ P' 4 = (s : Int) ∧ wA S' a ∧ iA a
theorem c_rdL (hln : ln = (n : Int)) (hn : n ≤ 600) (hby : ∀ i, i < 600 → bY i = (B i : Int) ∧ B i < 256) : ∀ (d : Nat), d ≤ 600 → ∀ (e : Nat) (a : eRow) (P : Nat → Int) (S : wS) (y : Int), y = ((600 - d : Nat) : Int) → P 3 = 0 → P 5 = (e : Int) → e ≤ n → n < e + d → wA S a → iA a → ∃ (P' : Nat → Int) (S' : wS) (v : Int), pT P' S' v (runS B n d a e) ∧ ev m_P_readText 36 [some (eR 0), some (eI y)] [] ([pQ P, eO 2 [eR 2, eI ln, eSt 20], eA 0 600 bY] ++ wCb 3 S, c) = some (.inl (some (eI v)), ([pQ P', eO 2 [eR 2, eI ln, eSt 20], eA 0 600 bY] ++ wCb 3 S', c)) := by
  intro d
  induction d with
  | zero => intro _ e a P S y _ _ _ h1 h2; omega
  | succ d ih =>
    intro hd e a P S y hy h3 h5 hen hne hA hI
    obtain ⟨Q, ⟨q4, q5, q6, q7⟩, q8⟩ := c_nextToken (c := (0, 0)) hln hn (hb6 hn hby) h5 hen
    have q3 : Q 3 = 0 := (q7 3 (by omega) (by omega) (by omega)).trans h3
    have t := tk_le (B := B) hen
    by_cases hK : tkK B n e = 0
    · have hr : runS B n (d + 1) a e = (none, a) := if_pos hK
      rw [hr]
      refine ⟨Q, S, 1, ⟨rfl, q3, hA, hI⟩, ?_⟩
      refine xLtT (N := 3) (x := y) (y := 600) (A := ev m_P_readText 43 [some (eR 0), some (eI y)] [] (([pQ P, eO 2 [eR 2, eI ln, eSt 20], eA 0 600 bY]) ++ wCb 3 S, c)) (B := ev m_P_readText 75 [some (eR 0), some (eI y)] [] (([pQ P, eO 2 [eR 2, eI ln, eSt 20], eA 0 600 bY]) ++ wCb 3 S, c)) rfl (wr_id (by omega) (by omega)) (show wr 600 = 600 by decide) (by omega) ?_
      refine xCallWV (N := 2) (M2 := m_P_readText) (pc2 := 44) (ls2 := [some (eR 0), some (eI y)]) (st2 := []) (y := m_P_nextToken) (as := [some (eR 0)]) (w2 := (([pQ P, eO 2 [eR 2, eI ln, eSt 20], eA 0 600 bY]) ++ wCb 3 S, c)) rfl (pUp q8 rfl rfl rfl) ?_
      refine xEqT (N := 3) (x := Q 6) (y := 0) (A := ev m_P_readText 54 [some (eR 0), some (eI y)] [] (([pQ Q, eO 2 [eR 2, eI ln, eSt 20], eA 0 600 bY]) ++ wCb 3 S, c)) (B := ev m_P_readText 56 [some (eR 0), some (eI y)] [] (([pQ Q, eO 2 [eR 2, eI ln, eSt 20], eA 0 600 bY]) ++ wCb 3 S, c)) rfl (wr_id (by omega) (by omega)) (show wr 0 = 0 by decide) (by omega) ?_
      refine xRb (N := 2) (v := 1) (w2 := (([pQ Q, eO 2 [eR 2, eI ln, eSt 20], eA 0 600 bY]) ++ wCb 3 S, c)) rfl (by decide) ?_
      rfl
    · have hr : runS B n (d + 1) a e = (match staS B n a (tkS B n e) (tkE B n e) (kwS B n e) with
        | .inl x => (some x, a)
        | .inr (a', e') => runS B n d a' e') := if_neg hK
      rw [hr]
      obtain ⟨P1, hp⟩ := c_stmt (S := S) (c := c) hln hn hby q4 q5 q6 hen hA hI
      cases hst : staS B n a (tkS B n e) (tkE B n e) (kwS B n e) with
      | inl z =>
        obtain ⟨k, s⟩ := z
        rw [hst] at hp
        obtain ⟨p1, p2, p3⟩ := hp
        refine ⟨P1, S, 0, ⟨rfl, p1, p2, hA, hI⟩, ?_⟩
        refine xLtT (N := 3) (x := y) (y := 600) (A := ev m_P_readText 43 [some (eR 0), some (eI y)] [] (([pQ P, eO 2 [eR 2, eI ln, eSt 20], eA 0 600 bY]) ++ wCb 3 S, c)) (B := ev m_P_readText 75 [some (eR 0), some (eI y)] [] (([pQ P, eO 2 [eR 2, eI ln, eSt 20], eA 0 600 bY]) ++ wCb 3 S, c)) rfl (wr_id (by omega) (by omega)) (show wr 600 = 600 by decide) (by omega) ?_
        refine xCallWV (N := 2) (M2 := m_P_readText) (pc2 := 44) (ls2 := [some (eR 0), some (eI y)]) (st2 := []) (y := m_P_nextToken) (as := [some (eR 0)]) (w2 := (([pQ P, eO 2 [eR 2, eI ln, eSt 20], eA 0 600 bY]) ++ wCb 3 S, c)) rfl (pUp q8 rfl rfl rfl) ?_
        refine xEqF (N := 3) (x := Q 6) (y := 0) (A := ev m_P_readText 54 [some (eR 0), some (eI y)] [] (([pQ Q, eO 2 [eR 2, eI ln, eSt 20], eA 0 600 bY]) ++ wCb 3 S, c)) (B := ev m_P_readText 56 [some (eR 0), some (eI y)] [] (([pQ Q, eO 2 [eR 2, eI ln, eSt 20], eA 0 600 bY]) ++ wCb 3 S, c)) rfl (wr_id (by omega) (by omega)) (show wr 0 = 0 by decide) (by omega) ?_
        refine xCallW (N := 2) (M2 := m_P_readText) (pc2 := 57) (ls2 := [some (eR 0), some (eI y)]) (st2 := []) (y := m_P_readStatement) (as := [some (eR 0)]) (w2 := (([pQ Q, eO 2 [eR 2, eI ln, eSt 20], eA 0 600 bY]) ++ wCb 3 S, c)) rfl p3 ?_
        refine xEqT (N := 1) (x := 0) (y := 0) (A := ev m_P_readText 63 [some (eR 0), some (eI y)] [] (([pQ P1, eO 2 [eR 2, eI ln, eSt 20], eA 0 600 bY]) ++ wCb 3 S, c)) (B := ev m_P_readText 65 [some (eR 0), some (eI y)] [] (([pQ P1, eO 2 [eR 2, eI ln, eSt 20], eA 0 600 bY]) ++ wCb 3 S, c)) rfl (show wr 0 = 0 by decide) (show wr 0 = 0 by decide) (by decide) ?_
        refine xRb (N := 2) (v := 0) (w2 := (([pQ P1, eO 2 [eR 2, eI ln, eSt 20], eA 0 600 bY]) ++ wCb 3 S, c)) rfl (by decide) ?_
        rfl
      | inr q =>
        obtain ⟨a', e'⟩ := q
        rw [hst] at hp
        obtain ⟨p1, p2, p3, S1, p4, p5, p6⟩ := hp
        have hm := staS_m (tkE_le hen) hst
        obtain ⟨P', S', v, i1, i2⟩ := ih (by omega) e' a' P1 S1 (y + 1) (by omega) (p1.trans q3) p2 hm.2 (by omega) p4 p5
        refine ⟨P', S', v, i1, ?_⟩
        refine xLtT (N := 3) (x := y) (y := 600) (A := ev m_P_readText 43 [some (eR 0), some (eI y)] [] (([pQ P, eO 2 [eR 2, eI ln, eSt 20], eA 0 600 bY]) ++ wCb 3 S, c)) (B := ev m_P_readText 75 [some (eR 0), some (eI y)] [] (([pQ P, eO 2 [eR 2, eI ln, eSt 20], eA 0 600 bY]) ++ wCb 3 S, c)) rfl (wr_id (by omega) (by omega)) (show wr 600 = 600 by decide) (by omega) ?_
        refine xCallWV (N := 2) (M2 := m_P_readText) (pc2 := 44) (ls2 := [some (eR 0), some (eI y)]) (st2 := []) (y := m_P_nextToken) (as := [some (eR 0)]) (w2 := (([pQ P, eO 2 [eR 2, eI ln, eSt 20], eA 0 600 bY]) ++ wCb 3 S, c)) rfl (pUp q8 rfl rfl rfl) ?_
        refine xEqF (N := 3) (x := Q 6) (y := 0) (A := ev m_P_readText 54 [some (eR 0), some (eI y)] [] (([pQ Q, eO 2 [eR 2, eI ln, eSt 20], eA 0 600 bY]) ++ wCb 3 S, c)) (B := ev m_P_readText 56 [some (eR 0), some (eI y)] [] (([pQ Q, eO 2 [eR 2, eI ln, eSt 20], eA 0 600 bY]) ++ wCb 3 S, c)) rfl (wr_id (by omega) (by omega)) (show wr 0 = 0 by decide) (by omega) ?_
        refine xCallW (N := 2) (M2 := m_P_readText) (pc2 := 57) (ls2 := [some (eR 0), some (eI y)]) (st2 := []) (y := m_P_readStatement) (as := [some (eR 0)]) (w2 := (([pQ Q, eO 2 [eR 2, eI ln, eSt 20], eA 0 600 bY]) ++ wCb 3 S, c)) rfl p3 ?_
        refine xEqF (N := 1) (x := 1) (y := 0) (A := ev m_P_readText 63 [some (eR 0), some (eI y)] [] (([pQ P1, eO 2 [eR 2, eI ln, eSt 20], eA 0 600 bY]) ++ wCb 3 S, c)) (B := ev m_P_readText 65 [some (eR 0), some (eI y)] [] (([pQ P1, eO 2 [eR 2, eI ln, eSt 20], eA 0 600 bY]) ++ wCb 3 S, c)) rfl (show wr 1 = 1 by decide) (show wr 0 = 0 by decide) (by decide) ?_
        refine xCallWV (N := 2) (M2 := m_P_readText) (pc2 := 66) (ls2 := [some (eR 0), some (eI y)]) (st2 := []) (y := m_P_doStatement) (as := [some (eR 0)]) (w2 := (([pQ P1, eO 2 [eR 2, eI ln, eSt 20], eA 0 600 bY]) ++ wCb 3 S, c)) rfl p6 ?_
        refine xSeg (N := 2) (r := ev m_P_readText 36 [some (eR 0), some (eI (y + 1))] [] (([pQ P1, eO 2 [eR 2, eI ln, eSt 20], eA 0 600 bY]) ++ wCb 3 S1, c)) rfl ?_
        exact i2
theorem c_readText (hln : ln = (n : Int)) (hn : n ≤ 600) (hby : ∀ i, i < 600 → bY i = (B i : Int) ∧ B i < 256) : ∃ (P' : Nat → Int) (S' : wS) (v : Int), (match txS B n with
    | .inl (k, s) => v = 0 ∧ P' 3 = (k : Int) ∧ P' 4 = (s : Int)
    | .inr q => pT P' S' v q) ∧ ev m_P_readText 0 [some (eR 0)] [] ([pQ P, eO 2 [eR 2, eI ln, eSt 20], eA 0 600 bY] ++ wCb 3 S, c) = some (.inl (some (eI v)), ([pQ P', eO 2 [eR 2, eI ln, eSt 20], eA 0 600 bY] ++ wCb 3 S', c)) := by
  obtain ⟨P1, hp⟩ := c_rGrid (P := eUp (eUp P 3 0) 5 0) (S := S) (c := c) hln hn hby (by rw [eUp_at])
  unfold txS
  cases hg : griS B n with
  | inl z =>
    obtain ⟨k, s⟩ := z
    rw [hg] at hp
    obtain ⟨p1, p2, p3⟩ := hp
    refine ⟨P1, S, 0, ⟨rfl, p1, p2⟩, ?_⟩
    refine xCallW (N := 8) (M2 := m_P_readText) (pc2 := 11) (ls2 := [some (eR 0)]) (st2 := []) (y := m_P_readGrid) (as := [some (eR 0)]) (w2 := (([pQ (eUp (eUp P 3 0) 5 0), eO 2 [eR 2, eI ln, eSt 20], eA 0 600 bY]) ++ wCb 3 S, c)) rfl p3 ?_
    refine xEqT (N := 1) (x := 0) (y := 0) (A := ev m_P_readText 17 [some (eR 0)] [] (([pQ P1, eO 2 [eR 2, eI ln, eSt 20], eA 0 600 bY]) ++ wCb 3 S, c)) (B := ev m_P_readText 19 [some (eR 0)] [] (([pQ P1, eO 2 [eR 2, eI ln, eSt 20], eA 0 600 bY]) ++ wCb 3 S, c)) rfl (show wr 0 = 0 by decide) (show wr 0 = 0 by decide) (by decide) ?_
    refine xRb (N := 2) (v := 0) (w2 := (([pQ P1, eO 2 [eR 2, eI ln, eSt 20], eA 0 600 bY]) ++ wCb 3 S, c)) rfl (by decide) ?_
    rfl
  | inr q =>
    obtain ⟨⟨w, h⟩, e⟩ := q
    rw [hg] at hp
    obtain ⟨⟨p1, p2, p3, p4⟩, ⟨w1, w2, w3, w4, w5, w6⟩, p5⟩ := hp
    obtain ⟨S1, n1, n2⟩ := c_wstart (S := S) (c := (0, 0)) p3 p4 ⟨w1, w2⟩ ⟨w3, w4⟩
    obtain ⟨P', S', v, i1, i2⟩ := c_rdL (c := c) hln hn hby 600 (by omega) e (stA w h) P1 S1 0 rfl (by rw [p1, eUp_ne (by omega), eUp_at]) p2 w6 (by omega) n1 (iA_st ⟨w1, w2⟩ ⟨w3, w4⟩)
    refine ⟨P', S', v, i1, ?_⟩
    refine xCallW (N := 8) (M2 := m_P_readText) (pc2 := 11) (ls2 := [some (eR 0)]) (st2 := []) (y := m_P_readGrid) (as := [some (eR 0)]) (w2 := (([pQ (eUp (eUp P 3 0) 5 0), eO 2 [eR 2, eI ln, eSt 20], eA 0 600 bY]) ++ wCb 3 S, c)) rfl p5 ?_
    refine xEqF (N := 1) (x := 1) (y := 0) (A := ev m_P_readText 17 [some (eR 0)] [] (([pQ P1, eO 2 [eR 2, eI ln, eSt 20], eA 0 600 bY]) ++ wCb 3 S, c)) (B := ev m_P_readText 19 [some (eR 0)] [] (([pQ P1, eO 2 [eR 2, eI ln, eSt 20], eA 0 600 bY]) ++ wCb 3 S, c)) rfl (show wr 1 = 1 by decide) (show wr 0 = 0 by decide) (by decide) ?_
    refine xCallWV (N := 7) (M2 := m_P_readText) (pc2 := 31) (ls2 := [some (eR 0)]) (st2 := []) (y := m_W_start) (as := [some (eR 3), some (eI (P1 8)), some (eI (P1 9))]) (w2 := (([pQ P1, eO 2 [eR 2, eI ln, eSt 20], eA 0 600 bY]) ++ wCb 3 S, c)) rfl (pWin n2 rfl rfl rfl) ?_
    refine xSeg (N := 2) (r := ev m_P_readText 36 [some (eR 0), some (eI 0)] [] (([pQ P1, eO 2 [eR 2, eI ln, eSt 20], eA 0 600 bY]) ++ wCb 3 S1, c)) rfl ?_
    exact i2
end
