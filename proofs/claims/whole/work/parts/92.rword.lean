/-! The parser reads a word, a letter, a guess, back, solve. -/
theorem fwS_b {a : eRow} {B : Nat → Nat} {S L : Nat} : -1 ≤ fwS a B S L ∧ fwS a B S L < (a 2 : Int) := by
  have h := fnd_b (p := fun k => decide (wl a k = L) && allN (fun p => decide (B (S + p) = 97 + lt a k p)) L) (d := a 2) (k := 0)
  rw [Nat.zero_add] at h
  exact h
set_option maxRecDepth 100000
theorem c_fw {S : wS} {a : eRow} {B : Nat → Nat} {bY : Nat → Int} {n F L : Nat} {v z : Int} (hn : n ≤ 600) (hby : ∀ i, i < 600 → bY i = (B i : Int) ∧ B i < 256) (hV : wV S a) (iV9 : iV a) (hv : v = (F : Int)) (hz : z = (L : Int)) (hF : F + L ≤ n) : ev m_V_find 0 [some (eR 11), some (eR 20), some (eI v), some (eI z)] [] (wC S ++ [eA 0 600 bY], (0, 0)) = some (.inl (some (eI (fwS a B F L))), (wC S ++ [eA 0 600 bY], (0, 0))) :=
  c_find (m := a 2) (wl := wl a) (f := lt a) (tx := B) hV.1 iV9.1 (fun k hk => ⟨hV.2.1 k hk, (iV9.2 k hk).2.1⟩) (fun k p hk hp => ⟨hV.2.2.1 k p hk hp, lt_26 iV9 hk hp⟩) hv hz (by omega) (by omega) hby
theorem c_rWord {P bY : Nat → Int} {B : Nat → Nat} {n e : Nat} {ln : Int} {c : Nat × Nat} {S : wS} {a : eRow} (hln : ln = (n : Int)) (hn : n ≤ 600) (hby : ∀ i, i < 600 → bY i = (B i : Int) ∧ B i < 256) (he : P 5 = (e : Int)) (hen : e ≤ n) {s : Nat} (h4 : P 4 = (s : Int)) (hV : wV S a) (iV9 : iV a) : ∃ P' : Nat → Int, P' 7 = P 7 ∧ poS P P' (match wrdS B n a s e with | .inl x => .inl x | .inr e1 => .inr e1) ∧ (∀ e1, wrdS B n a s e = .inr e1 → P' 15 = ((tkS B n e : Nat) : Int) ∧ P' 16 = ((tkE B n e - tkS B n e : Nat) : Int) ∧ e1 = tkE B n e ∧ a 2 < 30 ∧ tkK B n e = 1 ∧ 2 ≤ tkE B n e - tkS B n e ∧ tkE B n e - tkS B n e ≤ 6) ∧ ev m_P_readNewWord 0 [some (eR 0)] [] ([pQ P, eO 2 [eR 2, eI ln, eSt 20], eA 0 600 bY] ++ wCb 3 S, c) = some (.inl (some (eI (bI (okS2 (wrdS B n a s e))))), ([pQ P', eO 2 [eR 2, eI ln, eSt 20], eA 0 600 bY] ++ wCb 3 S, c)) := by
  have w11 := hV.1
  have g2 := iV9.1
  by_cases h2 : 30 ≤ a 2
  · have hb : wrdS B n a s e = .inl (5, s) := if_pos h2
    rw [hb]
    refine ⟨eUp P 3 5, by rw [eUp_ne (by omega)], ⟨by rw [eUp_at]; rfl, by rw [eUp_ne (by omega)]; exact h4⟩, fun e1 h => by (cases h), ?_⟩
    refine xLtF (N := 6) (x := S 11 0) (y := 30) (A := ev m_P_readNewWord 21 [some (eR 0)] [] (([pQ P, eO 2 [eR 2, eI ln, eSt 20], eA 0 600 bY]) ++ wCb 3 S, c)) (B := ev m_P_readNewWord 15 [some (eR 0)] [] (([pQ P, eO 2 [eR 2, eI ln, eSt 20], eA 0 600 bY]) ++ wCb 3 S, c)) rfl (wr_id (by omega) (by omega)) (show wr 30 = 30 by decide) (by omega) ?_
    refine xCallW (N := 3) (M2 := m_P_readNewWord) (pc2 := 17) (ls2 := [some (eR 0)]) (st2 := []) (y := m_P_fail) (as := [some (eR 0), some (eI 5)]) (w2 := (([pQ P, eO 2 [eR 2, eI ln, eSt 20], eA 0 600 bY]) ++ wCb 3 S, c)) rfl (pUp c_fail rfl rfl rfl) ?_
    refine xRb (N := 1) (v := 0) (w2 := (([pQ (eUp P 3 5), eO 2 [eR 2, eI ln, eSt 20], eA 0 600 bY]) ++ wCb 3 S, c)) rfl (by decide) ?_
    rfl
  · obtain ⟨Q, ⟨q4, q5, q6, q7⟩, q8⟩ := c_nextToken (c := (0, 0)) hln hn (hb6 hn hby) he hen
    obtain ⟨t1, t2, t3, t4, t5⟩ := tk_le (B := B) hen
    have q3 : Q 3 = P 3 := q7 3 (by omega) (by omega) (by omega)
    have q77 : Q 7 = P 7 := q7 7 (by omega) (by omega) (by omega)
    unfold wrdS
    rw [if_neg h2]
    generalize tkK B n e = K9 at q6 t4 t5 ⊢
    generalize tkS B n e = S9 at q4 t1 t2 t5 ⊢
    generalize tkE B n e = E9 at q5 t2 t3 t5 ⊢
    by_cases hK : K9 = 1
    · rw [if_pos hK]
      by_cases hL : 2 ≤ E9 - S9 ∧ E9 - S9 ≤ 6
      · rw [if_pos hL]
        have hf := c_fw (S := S) (a := a) (v := Q 4) (z := Q 5 - Q 4) (F := S9) (L := E9 - S9) hn hby hV iV9 q4 (by omega) (by omega)
        have hfb := fwS_b (a := a) (B := B) (S := S9) (L := E9 - S9)
        generalize fwS a B S9 (E9 - S9) = fi at hf hfb ⊢
        by_cases hfi : fi = -1
        · rw [if_pos hfi]
          refine ⟨eUp (eUp Q 15 (Q 4)) 16 (Q 5 - Q 4), by rw [eUp_ne (by omega), eUp_ne (by omega)]; exact q77, ⟨by rw [eUp_ne (by omega), eUp_ne (by omega)]; exact q3, by rw [eUp_ne (by omega), eUp_ne (by omega)]; exact q5⟩, fun e1 h => ?_, ?_⟩
          · cases h
            exact ⟨by rw [eUp_ne (by omega), eUp_at]; exact q4, by rw [eUp_at]; omega, rfl, by omega, hK, hL.1, hL.2⟩
          refine xLtT (N := 6) (x := S 11 0) (y := 30) (A := ev m_P_readNewWord 21 [some (eR 0)] [] (([pQ P, eO 2 [eR 2, eI ln, eSt 20], eA 0 600 bY]) ++ wCb 3 S, c)) (B := ev m_P_readNewWord 15 [some (eR 0)] [] (([pQ P, eO 2 [eR 2, eI ln, eSt 20], eA 0 600 bY]) ++ wCb 3 S, c)) rfl (wr_id (by omega) (by omega)) (show wr 30 = 30 by decide) (by omega) ?_
          refine xCallWV (N := 2) (M2 := m_P_readNewWord) (pc2 := 22) (ls2 := [some (eR 0)]) (st2 := []) (y := m_P_nextToken) (as := [some (eR 0)]) (w2 := (([pQ P, eO 2 [eR 2, eI ln, eSt 20], eA 0 600 bY]) ++ wCb 3 S, c)) rfl (pUp q8 rfl rfl rfl) ?_
          refine xEqT (N := 4) (x := Q 6) (y := 1) (A := ev m_P_readNewWord 39 [some (eR 0)] [] (([pQ Q, eO 2 [eR 2, eI ln, eSt 20], eA 0 600 bY]) ++ wCb 3 S, c)) (B := ev m_P_readNewWord 33 [some (eR 0)] [] (([pQ Q, eO 2 [eR 2, eI ln, eSt 20], eA 0 600 bY]) ++ wCb 3 S, c)) rfl (wr_id (by omega) (by omega)) (show wr 1 = 1 by decide) (by omega) ?_
          refine xLtF (N := 15) (x := ((Q 5) - (Q 4))) (y := 2) (A := ev m_P_readNewWord 77 [some (eR 0)] [] (([pQ (eUp (eUp Q 15 (Q 4)) 16 ((Q 5) - (Q 4))), eO 2 [eR 2, eI ln, eSt 20], eA 0 600 bY]) ++ wCb 3 S, c)) (B := ev m_P_readNewWord 68 [some (eR 0)] [] (([pQ (eUp (eUp Q 15 (Q 4)) 16 ((Q 5) - (Q 4))), eO 2 [eR 2, eI ln, eSt 20], eA 0 600 bY]) ++ wCb 3 S, c)) rfl (wr_id (by omega) (by omega)) (show wr 2 = 2 by decide) (by omega) ?_
          refine xLtF (N := 4) (x := 6) (y := ((Q 5) - (Q 4))) (A := ev m_P_readNewWord 77 [some (eR 0)] [] (([pQ (eUp (eUp Q 15 (Q 4)) 16 ((Q 5) - (Q 4))), eO 2 [eR 2, eI ln, eSt 20], eA 0 600 bY]) ++ wCb 3 S, c)) (B := ev m_P_readNewWord 83 [some (eR 0)] [] (([pQ (eUp (eUp Q 15 (Q 4)) 16 ((Q 5) - (Q 4))), eO 2 [eR 2, eI ln, eSt 20], eA 0 600 bY]) ++ wCb 3 S, c)) rfl (show wr 6 = 6 by decide) (wr_id (by omega) (by omega)) (by omega) ?_
          refine xCallW (N := 10) (M2 := m_P_readNewWord) (pc2 := 102) (ls2 := [some (eR 0)]) (st2 := []) (y := m_V_find) (as := [some (eR 14), some (eR 2), some (eI (Q 4)), some (eI ((Q 5) - (Q 4)))]) (w2 := (([pQ (eUp (eUp Q 15 (Q 4)) 16 ((Q 5) - (Q 4))), eO 2 [eR 2, eI ln, eSt 20], eA 0 600 bY]) ++ wCb 3 S, c)) rfl (pWinT hf rfl rfl rfl) ?_
          refine xEqT (N := 2) (x := fi) (y := (-1)) (A := ev m_P_readNewWord 117 [some (eR 0)] [] (([pQ (eUp (eUp Q 15 (Q 4)) 16 (Q 5 - Q 4)), eO 2 [eR 2, eI ln, eSt 20], eA 0 600 bY]) ++ wCb 3 S, c)) (B := ev m_P_readNewWord 109 [some (eR 0)] [] (([pQ (eUp (eUp Q 15 (Q 4)) 16 (Q 5 - Q 4)), eO 2 [eR 2, eI ln, eSt 20], eA 0 600 bY]) ++ wCb 3 S, c)) rfl (wr_id (by omega) (by omega)) (show wr (-1) = (-1) by decide) (by omega) ?_
          refine xRb (N := 3) (v := 1) (w2 := (([pQ (eUp (eUp Q 15 (Q 4)) 16 (Q 5 - Q 4)), eO 2 [eR 2, eI ln, eSt 20], eA 0 600 bY]) ++ wCb 3 S, c)) rfl (by decide) ?_
          rfl
        · rw [if_neg hfi]
          refine ⟨eUp (eUp (eUp Q 15 (Q 4)) 16 (Q 5 - Q 4)) 3 3, by rw [eUp_ne (by omega), eUp_ne (by omega), eUp_ne (by omega)]; exact q77, ⟨by rw [eUp_at]; rfl, by rw [eUp_ne (by omega), eUp_ne (by omega), eUp_ne (by omega)]; exact q4⟩, fun e1 h => by (cases h), ?_⟩
          refine xLtT (N := 6) (x := S 11 0) (y := 30) (A := ev m_P_readNewWord 21 [some (eR 0)] [] (([pQ P, eO 2 [eR 2, eI ln, eSt 20], eA 0 600 bY]) ++ wCb 3 S, c)) (B := ev m_P_readNewWord 15 [some (eR 0)] [] (([pQ P, eO 2 [eR 2, eI ln, eSt 20], eA 0 600 bY]) ++ wCb 3 S, c)) rfl (wr_id (by omega) (by omega)) (show wr 30 = 30 by decide) (by omega) ?_
          refine xCallWV (N := 2) (M2 := m_P_readNewWord) (pc2 := 22) (ls2 := [some (eR 0)]) (st2 := []) (y := m_P_nextToken) (as := [some (eR 0)]) (w2 := (([pQ P, eO 2 [eR 2, eI ln, eSt 20], eA 0 600 bY]) ++ wCb 3 S, c)) rfl (pUp q8 rfl rfl rfl) ?_
          refine xEqT (N := 4) (x := Q 6) (y := 1) (A := ev m_P_readNewWord 39 [some (eR 0)] [] (([pQ Q, eO 2 [eR 2, eI ln, eSt 20], eA 0 600 bY]) ++ wCb 3 S, c)) (B := ev m_P_readNewWord 33 [some (eR 0)] [] (([pQ Q, eO 2 [eR 2, eI ln, eSt 20], eA 0 600 bY]) ++ wCb 3 S, c)) rfl (wr_id (by omega) (by omega)) (show wr 1 = 1 by decide) (by omega) ?_
          refine xLtF (N := 15) (x := ((Q 5) - (Q 4))) (y := 2) (A := ev m_P_readNewWord 77 [some (eR 0)] [] (([pQ (eUp (eUp Q 15 (Q 4)) 16 ((Q 5) - (Q 4))), eO 2 [eR 2, eI ln, eSt 20], eA 0 600 bY]) ++ wCb 3 S, c)) (B := ev m_P_readNewWord 68 [some (eR 0)] [] (([pQ (eUp (eUp Q 15 (Q 4)) 16 ((Q 5) - (Q 4))), eO 2 [eR 2, eI ln, eSt 20], eA 0 600 bY]) ++ wCb 3 S, c)) rfl (wr_id (by omega) (by omega)) (show wr 2 = 2 by decide) (by omega) ?_
          refine xLtF (N := 4) (x := 6) (y := ((Q 5) - (Q 4))) (A := ev m_P_readNewWord 77 [some (eR 0)] [] (([pQ (eUp (eUp Q 15 (Q 4)) 16 ((Q 5) - (Q 4))), eO 2 [eR 2, eI ln, eSt 20], eA 0 600 bY]) ++ wCb 3 S, c)) (B := ev m_P_readNewWord 83 [some (eR 0)] [] (([pQ (eUp (eUp Q 15 (Q 4)) 16 ((Q 5) - (Q 4))), eO 2 [eR 2, eI ln, eSt 20], eA 0 600 bY]) ++ wCb 3 S, c)) rfl (show wr 6 = 6 by decide) (wr_id (by omega) (by omega)) (by omega) ?_
          refine xCallW (N := 10) (M2 := m_P_readNewWord) (pc2 := 102) (ls2 := [some (eR 0)]) (st2 := []) (y := m_V_find) (as := [some (eR 14), some (eR 2), some (eI (Q 4)), some (eI ((Q 5) - (Q 4)))]) (w2 := (([pQ (eUp (eUp Q 15 (Q 4)) 16 ((Q 5) - (Q 4))), eO 2 [eR 2, eI ln, eSt 20], eA 0 600 bY]) ++ wCb 3 S, c)) rfl (pWinT hf rfl rfl rfl) ?_
          refine xEqF (N := 2) (x := fi) (y := (-1)) (A := ev m_P_readNewWord 117 [some (eR 0)] [] (([pQ (eUp (eUp Q 15 (Q 4)) 16 (Q 5 - Q 4)), eO 2 [eR 2, eI ln, eSt 20], eA 0 600 bY]) ++ wCb 3 S, c)) (B := ev m_P_readNewWord 109 [some (eR 0)] [] (([pQ (eUp (eUp Q 15 (Q 4)) 16 (Q 5 - Q 4)), eO 2 [eR 2, eI ln, eSt 20], eA 0 600 bY]) ++ wCb 3 S, c)) rfl (wr_id (by omega) (by omega)) (show wr (-1) = (-1) by decide) (by omega) ?_
          refine xCallW (N := 3) (M2 := m_P_readNewWord) (pc2 := 111) (ls2 := [some (eR 0)]) (st2 := []) (y := m_P_fail) (as := [some (eR 0), some (eI 3)]) (w2 := (([pQ (eUp (eUp Q 15 (Q 4)) 16 (Q 5 - Q 4)), eO 2 [eR 2, eI ln, eSt 20], eA 0 600 bY]) ++ wCb 3 S, c)) rfl (pUp c_fail rfl rfl rfl) ?_
          refine xEqT (N := 1) (x := 0) (y := 0) (A := ev m_P_readNewWord 121 [some (eR 0)] [] (([pQ (eUp (eUp (eUp Q 15 (Q 4)) 16 (Q 5 - Q 4)) 3 3), eO 2 [eR 2, eI ln, eSt 20], eA 0 600 bY]) ++ wCb 3 S, c)) (B := ev m_P_readNewWord 117 [some (eR 0)] [] (([pQ (eUp (eUp (eUp Q 15 (Q 4)) 16 (Q 5 - Q 4)) 3 3), eO 2 [eR 2, eI ln, eSt 20], eA 0 600 bY]) ++ wCb 3 S, c)) rfl (show wr 0 = 0 by decide) (show wr 0 = 0 by decide) (by decide) ?_
          refine xRb (N := 2) (v := 0) (w2 := (([pQ (eUp (eUp (eUp Q 15 (Q 4)) 16 (Q 5 - Q 4)) 3 3), eO 2 [eR 2, eI ln, eSt 20], eA 0 600 bY]) ++ wCb 3 S, c)) rfl (by decide) ?_
          rfl
      · rw [if_neg hL]
        refine ⟨eUp (eUp (eUp Q 15 (Q 4)) 16 (Q 5 - Q 4)) 3 2, by rw [eUp_ne (by omega), eUp_ne (by omega), eUp_ne (by omega)]; exact q77, ⟨by rw [eUp_at]; rfl, by rw [eUp_ne (by omega), eUp_ne (by omega), eUp_ne (by omega)]; exact q4⟩, fun e1 h => by (cases h), ?_⟩
        by_cases hL2 : E9 - S9 < 2
        · refine xLtT (N := 6) (x := S 11 0) (y := 30) (A := ev m_P_readNewWord 21 [some (eR 0)] [] (([pQ P, eO 2 [eR 2, eI ln, eSt 20], eA 0 600 bY]) ++ wCb 3 S, c)) (B := ev m_P_readNewWord 15 [some (eR 0)] [] (([pQ P, eO 2 [eR 2, eI ln, eSt 20], eA 0 600 bY]) ++ wCb 3 S, c)) rfl (wr_id (by omega) (by omega)) (show wr 30 = 30 by decide) (by omega) ?_
          refine xCallWV (N := 2) (M2 := m_P_readNewWord) (pc2 := 22) (ls2 := [some (eR 0)]) (st2 := []) (y := m_P_nextToken) (as := [some (eR 0)]) (w2 := (([pQ P, eO 2 [eR 2, eI ln, eSt 20], eA 0 600 bY]) ++ wCb 3 S, c)) rfl (pUp q8 rfl rfl rfl) ?_
          refine xEqT (N := 4) (x := Q 6) (y := 1) (A := ev m_P_readNewWord 39 [some (eR 0)] [] (([pQ Q, eO 2 [eR 2, eI ln, eSt 20], eA 0 600 bY]) ++ wCb 3 S, c)) (B := ev m_P_readNewWord 33 [some (eR 0)] [] (([pQ Q, eO 2 [eR 2, eI ln, eSt 20], eA 0 600 bY]) ++ wCb 3 S, c)) rfl (wr_id (by omega) (by omega)) (show wr 1 = 1 by decide) (by omega) ?_
          refine xLtT (N := 15) (x := ((Q 5) - (Q 4))) (y := 2) (A := ev m_P_readNewWord 77 [some (eR 0)] [] (([pQ (eUp (eUp Q 15 (Q 4)) 16 ((Q 5) - (Q 4))), eO 2 [eR 2, eI ln, eSt 20], eA 0 600 bY]) ++ wCb 3 S, c)) (B := ev m_P_readNewWord 68 [some (eR 0)] [] (([pQ (eUp (eUp Q 15 (Q 4)) 16 ((Q 5) - (Q 4))), eO 2 [eR 2, eI ln, eSt 20], eA 0 600 bY]) ++ wCb 3 S, c)) rfl (wr_id (by omega) (by omega)) (show wr 2 = 2 by decide) (by omega) ?_
          refine xCallW (N := 3) (M2 := m_P_readNewWord) (pc2 := 79) (ls2 := [some (eR 0)]) (st2 := []) (y := m_P_fail) (as := [some (eR 0), some (eI 2)]) (w2 := (([pQ (eUp (eUp Q 15 (Q 4)) 16 ((Q 5) - (Q 4))), eO 2 [eR 2, eI ln, eSt 20], eA 0 600 bY]) ++ wCb 3 S, c)) rfl (pUp c_fail rfl rfl rfl) ?_
          refine xRb (N := 1) (v := 0) (w2 := (([pQ (eUp (eUp (eUp Q 15 (Q 4)) 16 (Q 5 - Q 4)) 3 2), eO 2 [eR 2, eI ln, eSt 20], eA 0 600 bY]) ++ wCb 3 S, c)) rfl (by decide) ?_
          rfl
        · refine xLtT (N := 6) (x := S 11 0) (y := 30) (A := ev m_P_readNewWord 21 [some (eR 0)] [] (([pQ P, eO 2 [eR 2, eI ln, eSt 20], eA 0 600 bY]) ++ wCb 3 S, c)) (B := ev m_P_readNewWord 15 [some (eR 0)] [] (([pQ P, eO 2 [eR 2, eI ln, eSt 20], eA 0 600 bY]) ++ wCb 3 S, c)) rfl (wr_id (by omega) (by omega)) (show wr 30 = 30 by decide) (by omega) ?_
          refine xCallWV (N := 2) (M2 := m_P_readNewWord) (pc2 := 22) (ls2 := [some (eR 0)]) (st2 := []) (y := m_P_nextToken) (as := [some (eR 0)]) (w2 := (([pQ P, eO 2 [eR 2, eI ln, eSt 20], eA 0 600 bY]) ++ wCb 3 S, c)) rfl (pUp q8 rfl rfl rfl) ?_
          refine xEqT (N := 4) (x := Q 6) (y := 1) (A := ev m_P_readNewWord 39 [some (eR 0)] [] (([pQ Q, eO 2 [eR 2, eI ln, eSt 20], eA 0 600 bY]) ++ wCb 3 S, c)) (B := ev m_P_readNewWord 33 [some (eR 0)] [] (([pQ Q, eO 2 [eR 2, eI ln, eSt 20], eA 0 600 bY]) ++ wCb 3 S, c)) rfl (wr_id (by omega) (by omega)) (show wr 1 = 1 by decide) (by omega) ?_
          refine xLtF (N := 15) (x := ((Q 5) - (Q 4))) (y := 2) (A := ev m_P_readNewWord 77 [some (eR 0)] [] (([pQ (eUp (eUp Q 15 (Q 4)) 16 ((Q 5) - (Q 4))), eO 2 [eR 2, eI ln, eSt 20], eA 0 600 bY]) ++ wCb 3 S, c)) (B := ev m_P_readNewWord 68 [some (eR 0)] [] (([pQ (eUp (eUp Q 15 (Q 4)) 16 ((Q 5) - (Q 4))), eO 2 [eR 2, eI ln, eSt 20], eA 0 600 bY]) ++ wCb 3 S, c)) rfl (wr_id (by omega) (by omega)) (show wr 2 = 2 by decide) (by omega) ?_
          refine xLtT (N := 4) (x := 6) (y := ((Q 5) - (Q 4))) (A := ev m_P_readNewWord 77 [some (eR 0)] [] (([pQ (eUp (eUp Q 15 (Q 4)) 16 ((Q 5) - (Q 4))), eO 2 [eR 2, eI ln, eSt 20], eA 0 600 bY]) ++ wCb 3 S, c)) (B := ev m_P_readNewWord 83 [some (eR 0)] [] (([pQ (eUp (eUp Q 15 (Q 4)) 16 ((Q 5) - (Q 4))), eO 2 [eR 2, eI ln, eSt 20], eA 0 600 bY]) ++ wCb 3 S, c)) rfl (show wr 6 = 6 by decide) (wr_id (by omega) (by omega)) (by omega) ?_
          refine xCallW (N := 3) (M2 := m_P_readNewWord) (pc2 := 79) (ls2 := [some (eR 0)]) (st2 := []) (y := m_P_fail) (as := [some (eR 0), some (eI 2)]) (w2 := (([pQ (eUp (eUp Q 15 (Q 4)) 16 ((Q 5) - (Q 4))), eO 2 [eR 2, eI ln, eSt 20], eA 0 600 bY]) ++ wCb 3 S, c)) rfl (pUp c_fail rfl rfl rfl) ?_
          refine xRb (N := 1) (v := 0) (w2 := (([pQ (eUp (eUp (eUp Q 15 (Q 4)) 16 (Q 5 - Q 4)) 3 2), eO 2 [eR 2, eI ln, eSt 20], eA 0 600 bY]) ++ wCb 3 S, c)) rfl (by decide) ?_
          rfl
    · rw [if_neg hK]
      refine ⟨eUp Q 3 1, by rw [eUp_ne (by omega)]; exact q77, ⟨by rw [eUp_at]; rfl, by rw [eUp_ne (by omega)]; exact q4⟩, fun e1 h => by (cases h), ?_⟩
      refine xLtT (N := 6) (x := S 11 0) (y := 30) (A := ev m_P_readNewWord 21 [some (eR 0)] [] (([pQ P, eO 2 [eR 2, eI ln, eSt 20], eA 0 600 bY]) ++ wCb 3 S, c)) (B := ev m_P_readNewWord 15 [some (eR 0)] [] (([pQ P, eO 2 [eR 2, eI ln, eSt 20], eA 0 600 bY]) ++ wCb 3 S, c)) rfl (wr_id (by omega) (by omega)) (show wr 30 = 30 by decide) (by omega) ?_
      refine xCallWV (N := 2) (M2 := m_P_readNewWord) (pc2 := 22) (ls2 := [some (eR 0)]) (st2 := []) (y := m_P_nextToken) (as := [some (eR 0)]) (w2 := (([pQ P, eO 2 [eR 2, eI ln, eSt 20], eA 0 600 bY]) ++ wCb 3 S, c)) rfl (pUp q8 rfl rfl rfl) ?_
      refine xEqF (N := 4) (x := Q 6) (y := 1) (A := ev m_P_readNewWord 39 [some (eR 0)] [] (([pQ Q, eO 2 [eR 2, eI ln, eSt 20], eA 0 600 bY]) ++ wCb 3 S, c)) (B := ev m_P_readNewWord 33 [some (eR 0)] [] (([pQ Q, eO 2 [eR 2, eI ln, eSt 20], eA 0 600 bY]) ++ wCb 3 S, c)) rfl (wr_id (by omega) (by omega)) (show wr 1 = 1 by decide) (by omega) ?_
      refine xCallW (N := 3) (M2 := m_P_readNewWord) (pc2 := 35) (ls2 := [some (eR 0)]) (st2 := []) (y := m_P_fail) (as := [some (eR 0), some (eI 1)]) (w2 := (([pQ Q, eO 2 [eR 2, eI ln, eSt 20], eA 0 600 bY]) ++ wCb 3 S, c)) rfl (pUp c_fail rfl rfl rfl) ?_
      refine xRb (N := 1) (v := 0) (w2 := (([pQ (eUp Q 3 1), eO 2 [eR 2, eI ln, eSt 20], eA 0 600 bY]) ++ wCb 3 S, c)) rfl (by decide) ?_
      rfl
theorem c_rLetter {P bY : Nat → Int} {B : Nat → Nat} {n e : Nat} {ln : Int} {c : Nat × Nat} {S : wS} {a : eRow} (hln : ln = (n : Int)) (hn : n ≤ 600) (hby : ∀ i, i < 600 → bY i = (B i : Int) ∧ B i < 256) (he : P 5 = (e : Int)) (hen : e ≤ n) (hw : wG S a) (hG : iG a) : ∃ P' : Nat → Int, P' 7 = P 7 ∧ poS P P' (match letS B n a e with | .inl x => .inl x | .inr (_, (_, e1)) => .inr e1) ∧ (∀ x y v e1, letS B n a e = .inr ((x, y), (v, e1)) → x < 6 ∧ y < 6 ∧ 97 ≤ v ∧ v ≤ 122 ∧ P' 10 = (x : Int) ∧ P' 11 = (y : Int) ∧ P' 12 = (v : Int)) ∧ ev m_P_readLetter 0 [some (eR 0)] [] ([pQ P, eO 2 [eR 2, eI ln, eSt 20], eA 0 600 bY] ++ wCb 3 S, c) = some (.inl (some (eI (bI (okS2 (letS B n a e))))), ([pQ P', eO 2 [eR 2, eI ln, eSt 20], eA 0 600 bY] ++ wCb 3 S, c)) := by
  obtain ⟨P1, k1, p1, y1, v1⟩ := c_openCell (P := P) (S := S) (a := a) (c := c) hln hn hby he hen hw hG
  unfold letS
  cases hr : celS B n a e with
  | inl x =>
    rw [hr] at p1 v1
    refine ⟨P1, k1, p1, fun x y v e1 h => by (cases h), ?_⟩
    refine xCallW (N := 2) (M2 := m_P_readLetter) (pc2 := 1) (ls2 := [some (eR 0)]) (st2 := []) (y := m_P_readOpenCell) (as := [some (eR 0)]) (w2 := (([pQ P, eO 2 [eR 2, eI ln, eSt 20], eA 0 600 bY]) ++ wCb 3 S, c)) rfl v1 ?_
    refine xEqT (N := 1) (x := 0) (y := 0) (A := ev m_P_readLetter 7 [some (eR 0)] [] (([pQ P1, eO 2 [eR 2, eI ln, eSt 20], eA 0 600 bY]) ++ wCb 3 S, c)) (B := ev m_P_readLetter 9 [some (eR 0)] [] (([pQ P1, eO 2 [eR 2, eI ln, eSt 20], eA 0 600 bY]) ++ wCb 3 S, c)) rfl (show wr 0 = 0 by decide) (show wr 0 = 0 by decide) (by decide) ?_
    refine xRb (N := 2) (v := 0) (w2 := (([pQ P1, eO 2 [eR 2, eI ln, eSt 20], eA 0 600 bY]) ++ wCb 3 S, c)) rfl (by decide) ?_
    rfl
  | inr q =>
    obtain ⟨⟨x, y⟩, e1⟩ := q
    rw [hr] at p1 v1
    obtain ⟨y2, y3, y4, y5⟩ := y1 x y e1 hr
    have he1 : e1 ≤ n := by
      unfold celS at hr
      cases hr1 : nuS B n e 0 (a 0) 2 with
      | inl z => rw [hr1] at hr; cases hr
      | inr z =>
        obtain ⟨x1, e2⟩ := z
        rw [hr1] at hr
        dsimp only at hr
        cases hr2 : nuS B n e2 0 (a 1) 2 with
        | inl z => rw [hr2] at hr; cases hr
        | inr z =>
          obtain ⟨x2, e3⟩ := z
          rw [hr2] at hr
          dsimp only at hr
          split at hr
          · cases hr; exact nuS_e (nuS_e hen hr1) hr2
          · cases hr
    dsimp only
    obtain ⟨Q, ⟨q4, q5, q6, q7⟩, q8⟩ := c_nextToken (P := P1) (c := (0, 0)) hln hn (hb6 hn hby) p1.2 he1
    obtain ⟨t1, t2, t3, t4, t5⟩ := tk_le (B := B) he1
    have q3 : Q 3 = P 3 := (q7 3 (by omega) (by omega) (by omega)).trans p1.1
    have q77 : Q 7 = P 7 := (q7 7 (by omega) (by omega) (by omega)).trans k1
    have q10 := q7 10 (by omega) (by omega) (by omega)
    have q11 := q7 11 (by omega) (by omega) (by omega)
    generalize tkK B n e1 = K9 at q6 t4 t5 ⊢
    generalize tkS B n e1 = S9 at q4 t1 t2 t5 ⊢
    generalize tkE B n e1 = E9 at q5 t2 t3 t5 ⊢
    by_cases hK : K9 = 1
    · obtain ⟨t6, t7, t8⟩ := t5 (by omega)
      by_cases hL : E9 - S9 = 1
      · rw [if_pos ⟨hK, hL⟩]
        have hb := hby S9 (by omega)
        have h97 := kd_1.mp (t8.symm.trans hK)
        refine ⟨eUp Q 12 (bY S9), by rw [eUp_ne (by omega)]; exact q77, ⟨by rw [eUp_ne (by omega)]; exact q3, by rw [eUp_ne (by omega)]; exact q5⟩, fun x' y' v' e' h => ?_, ?_⟩
        · cases h
          exact ⟨y2, y3, h97.1, h97.2, by rw [eUp_ne (by omega), q10]; exact y4, by rw [eUp_ne (by omega), q11]; exact y5, by rw [eUp_at]; exact hb.1⟩
        refine xCallW (N := 2) (M2 := m_P_readLetter) (pc2 := 1) (ls2 := [some (eR 0)]) (st2 := []) (y := m_P_readOpenCell) (as := [some (eR 0)]) (w2 := (([pQ P, eO 2 [eR 2, eI ln, eSt 20], eA 0 600 bY]) ++ wCb 3 S, c)) rfl v1 ?_
        refine xEqF (N := 1) (x := 1) (y := 0) (A := ev m_P_readLetter 7 [some (eR 0)] [] (([pQ P1, eO 2 [eR 2, eI ln, eSt 20], eA 0 600 bY]) ++ wCb 3 S, c)) (B := ev m_P_readLetter 9 [some (eR 0)] [] (([pQ P1, eO 2 [eR 2, eI ln, eSt 20], eA 0 600 bY]) ++ wCb 3 S, c)) rfl (show wr 1 = 1 by decide) (show wr 0 = 0 by decide) (by decide) ?_
        refine xCallWV (N := 2) (M2 := m_P_readLetter) (pc2 := 10) (ls2 := [some (eR 0)]) (st2 := []) (y := m_P_nextToken) (as := [some (eR 0)]) (w2 := (([pQ P1, eO 2 [eR 2, eI ln, eSt 20], eA 0 600 bY]) ++ wCb 3 S, c)) rfl (pUp q8 rfl rfl rfl) ?_
        refine xEqT (N := 4) (x := Q 6) (y := 1) (A := ev m_P_readLetter 21 [some (eR 0)] [] (([pQ Q, eO 2 [eR 2, eI ln, eSt 20], eA 0 600 bY]) ++ wCb 3 S, c)) (B := ev m_P_readLetter 34 [some (eR 0)] [] (([pQ Q, eO 2 [eR 2, eI ln, eSt 20], eA 0 600 bY]) ++ wCb 3 S, c)) rfl (wr_id (by omega) (by omega)) (show wr 1 = 1 by decide) (by omega) ?_
        refine xEqT (N := 7) (x := (Q 5) - (Q 4)) (y := 1) (A := ev m_P_readLetter 40 [some (eR 0)] [] (([pQ Q, eO 2 [eR 2, eI ln, eSt 20], eA 0 600 bY]) ++ wCb 3 S, c)) (B := ev m_P_readLetter 34 [some (eR 0)] [] (([pQ Q, eO 2 [eR 2, eI ln, eSt 20], eA 0 600 bY]) ++ wCb 3 S, c)) rfl (wr_id (by omega) (by omega)) (show wr 1 = 1 by decide) (by omega) ?_
        refine xLd (N := 6) (n := 600) (i := Q 4) (F := fun zq => ev m_P_readLetter 50 [some (eR 0)] [eI (bY zq), eR 0] (([pQ Q, eO 2 [eR 2, eI ln, eSt 20], eA 0 600 bY]) ++ wCb 3 S, c)) (k := S9) rfl (wr_nat (by omega) (by omega)) (by omega) ?_
        refine xRb (N := 3) (v := 1) (w2 := (([pQ (eUp Q 12 (bY S9)), eO 2 [eR 2, eI ln, eSt 20], eA 0 600 bY]) ++ wCb 3 S, c)) rfl (by decide) ?_
        rfl
      · rw [if_neg (fun h => hL h.2)]
        refine ⟨eUp Q 3 1, by rw [eUp_ne (by omega)]; exact q77, ⟨by rw [eUp_at]; rfl, by rw [eUp_ne (by omega)]; exact q4⟩, fun x y v e1 h => by (cases h), ?_⟩
        refine xCallW (N := 2) (M2 := m_P_readLetter) (pc2 := 1) (ls2 := [some (eR 0)]) (st2 := []) (y := m_P_readOpenCell) (as := [some (eR 0)]) (w2 := (([pQ P, eO 2 [eR 2, eI ln, eSt 20], eA 0 600 bY]) ++ wCb 3 S, c)) rfl v1 ?_
        refine xEqF (N := 1) (x := 1) (y := 0) (A := ev m_P_readLetter 7 [some (eR 0)] [] (([pQ P1, eO 2 [eR 2, eI ln, eSt 20], eA 0 600 bY]) ++ wCb 3 S, c)) (B := ev m_P_readLetter 9 [some (eR 0)] [] (([pQ P1, eO 2 [eR 2, eI ln, eSt 20], eA 0 600 bY]) ++ wCb 3 S, c)) rfl (show wr 1 = 1 by decide) (show wr 0 = 0 by decide) (by decide) ?_
        refine xCallWV (N := 2) (M2 := m_P_readLetter) (pc2 := 10) (ls2 := [some (eR 0)]) (st2 := []) (y := m_P_nextToken) (as := [some (eR 0)]) (w2 := (([pQ P1, eO 2 [eR 2, eI ln, eSt 20], eA 0 600 bY]) ++ wCb 3 S, c)) rfl (pUp q8 rfl rfl rfl) ?_
        refine xEqT (N := 4) (x := Q 6) (y := 1) (A := ev m_P_readLetter 21 [some (eR 0)] [] (([pQ Q, eO 2 [eR 2, eI ln, eSt 20], eA 0 600 bY]) ++ wCb 3 S, c)) (B := ev m_P_readLetter 34 [some (eR 0)] [] (([pQ Q, eO 2 [eR 2, eI ln, eSt 20], eA 0 600 bY]) ++ wCb 3 S, c)) rfl (wr_id (by omega) (by omega)) (show wr 1 = 1 by decide) (by omega) ?_
        refine xEqF (N := 7) (x := (Q 5) - (Q 4)) (y := 1) (A := ev m_P_readLetter 40 [some (eR 0)] [] (([pQ Q, eO 2 [eR 2, eI ln, eSt 20], eA 0 600 bY]) ++ wCb 3 S, c)) (B := ev m_P_readLetter 34 [some (eR 0)] [] (([pQ Q, eO 2 [eR 2, eI ln, eSt 20], eA 0 600 bY]) ++ wCb 3 S, c)) rfl (wr_id (by omega) (by omega)) (show wr 1 = 1 by decide) (by omega) ?_
        refine xCallW (N := 3) (M2 := m_P_readLetter) (pc2 := 36) (ls2 := [some (eR 0)]) (st2 := []) (y := m_P_fail) (as := [some (eR 0), some (eI 1)]) (w2 := (([pQ Q, eO 2 [eR 2, eI ln, eSt 20], eA 0 600 bY]) ++ wCb 3 S, c)) rfl (pUp c_fail rfl rfl rfl) ?_
        refine xRb (N := 1) (v := 0) (w2 := (([pQ (eUp Q 3 1), eO 2 [eR 2, eI ln, eSt 20], eA 0 600 bY]) ++ wCb 3 S, c)) rfl (by decide) ?_
        rfl
    · rw [if_neg (fun h => hK h.1)]
      refine ⟨eUp Q 3 1, by rw [eUp_ne (by omega)]; exact q77, ⟨by rw [eUp_at]; rfl, by rw [eUp_ne (by omega)]; exact q4⟩, fun x y v e1 h => by (cases h), ?_⟩
      refine xCallW (N := 2) (M2 := m_P_readLetter) (pc2 := 1) (ls2 := [some (eR 0)]) (st2 := []) (y := m_P_readOpenCell) (as := [some (eR 0)]) (w2 := (([pQ P, eO 2 [eR 2, eI ln, eSt 20], eA 0 600 bY]) ++ wCb 3 S, c)) rfl v1 ?_
      refine xEqF (N := 1) (x := 1) (y := 0) (A := ev m_P_readLetter 7 [some (eR 0)] [] (([pQ P1, eO 2 [eR 2, eI ln, eSt 20], eA 0 600 bY]) ++ wCb 3 S, c)) (B := ev m_P_readLetter 9 [some (eR 0)] [] (([pQ P1, eO 2 [eR 2, eI ln, eSt 20], eA 0 600 bY]) ++ wCb 3 S, c)) rfl (show wr 1 = 1 by decide) (show wr 0 = 0 by decide) (by decide) ?_
      refine xCallWV (N := 2) (M2 := m_P_readLetter) (pc2 := 10) (ls2 := [some (eR 0)]) (st2 := []) (y := m_P_nextToken) (as := [some (eR 0)]) (w2 := (([pQ P1, eO 2 [eR 2, eI ln, eSt 20], eA 0 600 bY]) ++ wCb 3 S, c)) rfl (pUp q8 rfl rfl rfl) ?_
      refine xEqF (N := 4) (x := Q 6) (y := 1) (A := ev m_P_readLetter 21 [some (eR 0)] [] (([pQ Q, eO 2 [eR 2, eI ln, eSt 20], eA 0 600 bY]) ++ wCb 3 S, c)) (B := ev m_P_readLetter 34 [some (eR 0)] [] (([pQ Q, eO 2 [eR 2, eI ln, eSt 20], eA 0 600 bY]) ++ wCb 3 S, c)) rfl (wr_id (by omega) (by omega)) (show wr 1 = 1 by decide) (by omega) ?_
      refine xCallW (N := 3) (M2 := m_P_readLetter) (pc2 := 36) (ls2 := [some (eR 0)]) (st2 := []) (y := m_P_fail) (as := [some (eR 0), some (eI 1)]) (w2 := (([pQ Q, eO 2 [eR 2, eI ln, eSt 20], eA 0 600 bY]) ++ wCb 3 S, c)) rfl (pUp c_fail rfl rfl rfl) ?_
      refine xRb (N := 1) (v := 0) (w2 := (([pQ (eUp Q 3 1), eO 2 [eR 2, eI ln, eSt 20], eA 0 600 bY]) ++ wCb 3 S, c)) rfl (by decide) ?_
      rfl
theorem c_rBack {P bY : Nat → Int} {B : Nat → Nat} {n e : Nat} {ln : Int} {c : Nat × Nat} {S : wS} {a : eRow} (hln : ln = (n : Int)) (hn : n ≤ 600) (hby : ∀ i, i < 600 → bY i = (B i : Int) ∧ B i < 256) (he : P 5 = (e : Int)) (hen : e ≤ n) {s : Nat} (h4 : P 4 = (s : Int)) (hp : wP S a) (h5 : a 5 ≤ 24) : ∃ P' : Nat → Int, P' 7 = P 7 ∧ poS P P' (bacS a s e) ∧ (∀ e1, bacS a s e = .inr e1 → 0 < a 5) ∧ ev m_P_readBack 0 [some (eR 0)] [] ([pQ P, eO 2 [eR 2, eI ln, eSt 20], eA 0 600 bY] ++ wCb 3 S, c) = some (.inl (some (eI (bI (okS2 (bacS a s e))))), ([pQ P', eO 2 [eR 2, eI ln, eSt 20], eA 0 600 bY] ++ wCb 3 S, c)) := by
  have w4 := hp.1.1
  unfold bacS
  by_cases hd : 0 < a 5
  · rw [if_pos hd]
    refine ⟨P, rfl, ⟨rfl, he⟩, fun _ _ => hd, ?_⟩
    refine xLtT (N := 4) (x := 0) (y := S 0 4) (A := ev m_P_readBack 19 [some (eR 0)] [] (([pQ P, eO 2 [eR 2, eI ln, eSt 20], eA 0 600 bY]) ++ wCb 3 S, c)) (B := ev m_P_readBack 10 [some (eR 0)] [] (([pQ P, eO 2 [eR 2, eI ln, eSt 20], eA 0 600 bY]) ++ wCb 3 S, c)) rfl (show wr 0 = 0 by decide) (wr_id (by omega) (by omega)) (by omega) ?_
    refine xRb (N := 3) (v := 1) (w2 := (([pQ P, eO 2 [eR 2, eI ln, eSt 20], eA 0 600 bY]) ++ wCb 3 S, c)) rfl (by decide) ?_
    rfl
  · rw [if_neg hd]
    refine ⟨eUp P 3 6, by rw [eUp_ne (by omega)], ⟨by rw [eUp_at]; rfl, by rw [eUp_ne (by omega)]; exact h4⟩, fun e1 h => by (cases h), ?_⟩
    refine xLtF (N := 4) (x := 0) (y := S 0 4) (A := ev m_P_readBack 19 [some (eR 0)] [] (([pQ P, eO 2 [eR 2, eI ln, eSt 20], eA 0 600 bY]) ++ wCb 3 S, c)) (B := ev m_P_readBack 10 [some (eR 0)] [] (([pQ P, eO 2 [eR 2, eI ln, eSt 20], eA 0 600 bY]) ++ wCb 3 S, c)) rfl (show wr 0 = 0 by decide) (wr_id (by omega) (by omega)) (by omega) ?_
    refine xCallW (N := 3) (M2 := m_P_readBack) (pc2 := 13) (ls2 := [some (eR 0)]) (st2 := []) (y := m_P_fail) (as := [some (eR 0), some (eI 6)]) (w2 := (([pQ P, eO 2 [eR 2, eI ln, eSt 20], eA 0 600 bY]) ++ wCb 3 S, c)) rfl (pUp c_fail rfl rfl rfl) ?_
    refine xEqT (N := 1) (x := 0) (y := 0) (A := ev m_P_readBack 23 [some (eR 0)] [] (([pQ (eUp P 3 6), eO 2 [eR 2, eI ln, eSt 20], eA 0 600 bY]) ++ wCb 3 S, c)) (B := ev m_P_readBack 19 [some (eR 0)] [] (([pQ (eUp P 3 6), eO 2 [eR 2, eI ln, eSt 20], eA 0 600 bY]) ++ wCb 3 S, c)) rfl (show wr 0 = 0 by decide) (show wr 0 = 0 by decide) (by decide) ?_
    refine xRb (N := 2) (v := 0) (w2 := (([pQ (eUp P 3 6), eO 2 [eR 2, eI ln, eSt 20], eA 0 600 bY]) ++ wCb 3 S, c)) rfl (by decide) ?_
    rfl
theorem c_rSolve {P bY : Nat → Int} {B : Nat → Nat} {n e : Nat} {ln : Int} {c : Nat × Nat} {S : wS} {a : eRow} (hln : ln = (n : Int)) (hn : n ≤ 600) (hby : ∀ i, i < 600 → bY i = (B i : Int) ∧ B i < 256) (he : P 5 = (e : Int)) (hen : e ≤ n)  : ∃ P' : Nat → Int, P' 7 = P 7 ∧ poS P P' (nxS (nuS B n e 0 201 2)) ∧ (∀ v e1, nuS B n e 0 201 2 = .inr (v, e1) → v ≤ 200 ∧ P' 17 = (v : Int)) ∧ ev m_P_readSolve 0 [some (eR 0)] [] ([pQ P, eO 2 [eR 2, eI ln, eSt 20], eA 0 600 bY] ++ wCb 3 S, c) = some (.inl (some (eI (bI (okS2 (nuS B n e 0 201 2))))), ([pQ P', eO 2 [eR 2, eI ln, eSt 20], eA 0 600 bY] ++ wCb 3 S, c)) := by
  obtain ⟨P1, z1, hz1, f1, k1, p1, v1⟩ := c_num (P := P) (e := e) (lo := 0) (hi := 201) (er := 2) (x1 := 0) (x2 := 200) (x3 := 2) (c := (0, 0)) hln hn (hb6 hn hby) he hen rfl rfl rfl (by omega) (by omega)
  cases hr : nuS B n e 0 201 2 with
  | inl x =>
    rw [hr] at hz1 p1
    have hz1 : z1 = -1 := hz1
    subst hz1
    refine ⟨eUp P1 17 (-1), by rw [eUp_ne (by omega)]; exact k1 7 (by omega), ⟨by rw [eUp_ne (by omega)]; exact p1.1, by rw [eUp_ne (by omega)]; exact p1.2⟩, fun v e1 h => by (cases h), ?_⟩
    refine xCallW (N := 6) (M2 := m_P_readSolve) (pc2 := 7) (ls2 := [some (eR 0)]) (st2 := [eR 0]) (y := m_P_readNumber) (as := [some (eR 0), some (eI 0), some (eI 200), some (eI 2)]) (w2 := (([pQ P, eO 2 [eR 2, eI ln, eSt 20], eA 0 600 bY]) ++ wCb 3 S, c)) rfl (pUp v1 rfl rfl rfl) ?_
    refine xEqT (N := 5) (x := (-1)) (y := (-1)) (A := ev m_P_readSolve 25 [some (eR 0)] [] (([pQ (eUp P1 17 (-1)), eO 2 [eR 2, eI ln, eSt 20], eA 0 600 bY]) ++ wCb 3 S, c)) (B := ev m_P_readSolve 21 [some (eR 0)] [] (([pQ (eUp P1 17 (-1)), eO 2 [eR 2, eI ln, eSt 20], eA 0 600 bY]) ++ wCb 3 S, c)) rfl (show wr (-1) = (-1) by decide) (show wr (-1) = (-1) by decide) (by decide) ?_
    refine xRb (N := 2) (v := 0) (w2 := (([pQ (eUp P1 17 (-1)), eO 2 [eR 2, eI ln, eSt 20], eA 0 600 bY]) ++ wCb 3 S, c)) rfl (by decide) ?_
    rfl
  | inr q =>
    obtain ⟨v, e1⟩ := q
    rw [hr] at hz1 p1
    have hz1 : z1 = (v : Int) := hz1
    have hv := nuS_b hr
    refine ⟨eUp P1 17 z1, by rw [eUp_ne (by omega)]; exact k1 7 (by omega), ⟨by rw [eUp_ne (by omega)]; exact p1.1, by rw [eUp_ne (by omega)]; exact p1.2⟩, fun v' e' h => ?_, ?_⟩
    · cases h
      exact ⟨by omega, by rw [eUp_at]; exact hz1⟩
    refine xCallW (N := 6) (M2 := m_P_readSolve) (pc2 := 7) (ls2 := [some (eR 0)]) (st2 := [eR 0]) (y := m_P_readNumber) (as := [some (eR 0), some (eI 0), some (eI 200), some (eI 2)]) (w2 := (([pQ P, eO 2 [eR 2, eI ln, eSt 20], eA 0 600 bY]) ++ wCb 3 S, c)) rfl (pUp v1 rfl rfl rfl) ?_
    refine xEqF (N := 5) (x := z1) (y := (-1)) (A := ev m_P_readSolve 25 [some (eR 0)] [] (([pQ (eUp P1 17 z1), eO 2 [eR 2, eI ln, eSt 20], eA 0 600 bY]) ++ wCb 3 S, c)) (B := ev m_P_readSolve 21 [some (eR 0)] [] (([pQ (eUp P1 17 z1), eO 2 [eR 2, eI ln, eSt 20], eA 0 600 bY]) ++ wCb 3 S, c)) rfl (wr_id (by omega) (by omega)) (show wr (-1) = (-1) by decide) (by omega) ?_
    refine xRb (N := 3) (v := 1) (w2 := (([pQ (eUp P1 17 z1), eO 2 [eR 2, eI ln, eSt 20], eA 0 600 bY]) ++ wCb 3 S, c)) rfl (by decide) ?_
    rfl
theorem rfs_0 {md : Nat} {b s : Bool} (h : rfs md b s = 0) : md = 0 ∧ b = true ∧ s = false := by
  unfold rfs at h
  split at h
  · omega
  · rename_i h0
    refine ⟨by omega, ?_⟩
    cases b <;> cases s <;> simp at h ⊢
theorem pc_gt {m w : Nat} (hm : m < 1073741824) (h : m.testBit w = true) (h1 : decide (pc 30 m = 1) = false) : 1 < pc 30 m := by
  have h2 : pc 30 m ≠ 1 := of_decide_eq_false h1
  have h3 : pc 30 m ≠ 0 := fun h0 => by rw [pc_0 hm h0 w] at h; cases h
  omega
theorem c_rGuess {P bY : Nat → Int} {B : Nat → Nat} {n e : Nat} {ln : Int} {c : Nat × Nat} {S : wS} {a : eRow} (hln : ln = (n : Int)) (hn : n ≤ 600) (hby : ∀ i, i < 600 → bY i = (B i : Int) ∧ B i < 256) (he : P 5 = (e : Int)) (hen : e ≤ n) (hA : wA S a) (hI : iA a) : ∃ P' : Nat → Int, P' 7 = P 7 ∧ poS P P' (match gueS B n a e with | .inl x => .inl x | .inr (_, e1) => .inr e1) ∧ (∀ k w e1, gueS B n a e = .inr ((k, w), e1) → k < a 3 ∧ 1 < pc 30 (op a k) ∧ (op a k).testBit w = true ∧ P' 13 = (k : Int) ∧ P' 14 = (w : Int)) ∧ ev m_P_readGuess 0 [some (eR 0)] [] ([pQ P, eO 2 [eR 2, eI ln, eSt 20], eA 0 600 bY] ++ wCb 3 S, c) = some (.inl (some (eI (bI (okS2 (gueS B n a e))))), ([pQ P', eO 2 [eR 2, eI ln, eSt 20], eA 0 600 bY] ++ wCb 3 S, c)) := by
  obtain ⟨hw, hV, hp, hm⟩ := hA
  obtain ⟨hG, iV9, hO, hT, hM⟩ := hI
  have w14 := hw.1.1.2.2
  have g3 := hG.1.2.2.2.2
  have g2 := iV9.1
  obtain ⟨P1, z1, hz1, f1, k1, p1, v1⟩ := c_num (P := P) (e := e) (lo := 0) (hi := a 3) (er := 4) (x1 := 0) (x2 := S 1 4 - 1) (x3 := 4) (c := (0, 0)) hln hn (hb6 hn hby) he hen rfl (by omega) rfl (by omega) (by omega)
  unfold gueS
  cases hr : nuS B n e 0 (a 3) 4 with
  | inl x =>
    rw [hr] at hz1 p1
    have hz1 : z1 = -1 := hz1
    subst hz1
    refine ⟨eUp P1 13 (-1), by rw [eUp_ne (by omega)]; exact k1 7 (by omega), ⟨by rw [eUp_ne (by omega)]; exact p1.1, by rw [eUp_ne (by omega)]; exact p1.2⟩, fun k w e1 h => by (cases h), ?_⟩
    refine xCallW (N := 11) (M2 := m_P_readGuess) (pc2 := 16) (ls2 := [some (eR 0)]) (st2 := [eR 0]) (y := m_P_readNumber) (as := [some (eR 0), some (eI 0), some (eI ((S 1 4) - 1)), some (eI 4)]) (w2 := (([pQ P, eO 2 [eR 2, eI ln, eSt 20], eA 0 600 bY]) ++ wCb 3 S, c)) rfl (pUp v1 rfl rfl rfl) ?_
    refine xEqT (N := 5) (x := (-1)) (y := (-1)) (A := ev m_P_readGuess 30 [some (eR 0)] [] (([pQ (eUp P1 13 (-1)), eO 2 [eR 2, eI ln, eSt 20], eA 0 600 bY]) ++ wCb 3 S, c)) (B := ev m_P_readGuess 32 [some (eR 0)] [] (([pQ (eUp P1 13 (-1)), eO 2 [eR 2, eI ln, eSt 20], eA 0 600 bY]) ++ wCb 3 S, c)) rfl (show wr (-1) = (-1) by decide) (show wr (-1) = (-1) by decide) (by decide) ?_
    refine xRb (N := 2) (v := 0) (w2 := (([pQ (eUp P1 13 (-1)), eO 2 [eR 2, eI ln, eSt 20], eA 0 600 bY]) ++ wCb 3 S, c)) rfl (by decide) ?_
    rfl
  | inr q =>
    obtain ⟨k, e1⟩ := q
    rw [hr] at hz1 p1
    have hz1 : z1 = (k : Int) := hz1
    have hk := nuS_b hr
    have he1 := nuS_e hen hr
    dsimp only
    obtain ⟨Q, ⟨q4, q5, q6, q7⟩, q8⟩ := c_nextToken (P := eUp P1 13 z1) (c := (0, 0)) hln hn (hb6 hn hby) (by rw [eUp_ne (by omega)]; exact p1.2) he1
    obtain ⟨t1, t2, t3, t4, t5⟩ := tk_le (B := B) he1
    have q3 : Q 3 = P 3 := by rw [q7 3 (by omega) (by omega) (by omega), eUp_ne (by omega)]; exact p1.1
    have q77 : Q 7 = P 7 := by rw [q7 7 (by omega) (by omega) (by omega), eUp_ne (by omega)]; exact k1 7 (by omega)
    have q13 : Q 13 = z1 := by rw [q7 13 (by omega) (by omega) (by omega), eUp_at]
    generalize tkK B n e1 = K9 at q6 t4 t5 ⊢
    generalize tkS B n e1 = S9 at q4 t1 t2 t5 ⊢
    generalize tkE B n e1 = E9 at q5 t2 t3 t5 ⊢
    by_cases hK : K9 = 1
    · rw [if_pos hK]
      have hf := c_fw (S := S) (a := a) (v := Q 4) (z := Q 5 - Q 4) (F := S9) (L := E9 - S9) hn hby hV iV9 q4 (by omega) (by omega)
      have hfb := fwS_b (a := a) (B := B) (S := S9) (L := E9 - S9)
      generalize fwS a B S9 (E9 - S9) = fi at hf hfb ⊢
      by_cases hfi : fi = -1
      · rw [if_pos hfi]
        subst hfi
        refine ⟨eUp (eUp Q 14 (-1)) 3 4, by rw [eUp_ne (by omega), eUp_ne (by omega)]; exact q77, ⟨by rw [eUp_at]; rfl, by rw [eUp_ne (by omega), eUp_ne (by omega)]; exact q4⟩, fun k w e1 h => by (cases h), ?_⟩
        refine xCallW (N := 11) (M2 := m_P_readGuess) (pc2 := 16) (ls2 := [some (eR 0)]) (st2 := [eR 0]) (y := m_P_readNumber) (as := [some (eR 0), some (eI 0), some (eI ((S 1 4) - 1)), some (eI 4)]) (w2 := (([pQ P, eO 2 [eR 2, eI ln, eSt 20], eA 0 600 bY]) ++ wCb 3 S, c)) rfl (pUp v1 rfl rfl rfl) ?_
        refine xEqF (N := 5) (x := z1) (y := (-1)) (A := ev m_P_readGuess 30 [some (eR 0)] [] (([pQ (eUp P1 13 z1), eO 2 [eR 2, eI ln, eSt 20], eA 0 600 bY]) ++ wCb 3 S, c)) (B := ev m_P_readGuess 32 [some (eR 0)] [] (([pQ (eUp P1 13 z1), eO 2 [eR 2, eI ln, eSt 20], eA 0 600 bY]) ++ wCb 3 S, c)) rfl (wr_id (by omega) (by omega)) (show wr (-1) = (-1) by decide) (by omega) ?_
        refine xCallWV (N := 2) (M2 := m_P_readGuess) (pc2 := 33) (ls2 := [some (eR 0)]) (st2 := []) (y := m_P_nextToken) (as := [some (eR 0)]) (w2 := (([pQ (eUp P1 13 z1), eO 2 [eR 2, eI ln, eSt 20], eA 0 600 bY]) ++ wCb 3 S, c)) rfl (pUp q8 rfl rfl rfl) ?_
        refine xEqT (N := 4) (x := Q 6) (y := 1) (A := ev m_P_readGuess 50 [some (eR 0)] [] (([pQ Q, eO 2 [eR 2, eI ln, eSt 20], eA 0 600 bY]) ++ wCb 3 S, c)) (B := ev m_P_readGuess 44 [some (eR 0)] [] (([pQ Q, eO 2 [eR 2, eI ln, eSt 20], eA 0 600 bY]) ++ wCb 3 S, c)) rfl (wr_id (by omega) (by omega)) (show wr 1 = 1 by decide) (by omega) ?_
        refine xCallW (N := 14) (M2 := m_P_readGuess) (pc2 := 75) (ls2 := [some (eR 0)]) (st2 := [eR 0]) (y := m_V_find) (as := [some (eR 14), some (eR 2), some (eI (Q 4)), some (eI ((Q 5) - (Q 4)))]) (w2 := (([pQ Q, eO 2 [eR 2, eI ln, eSt 20], eA 0 600 bY]) ++ wCb 3 S, c)) rfl (pWinT hf rfl rfl rfl) ?_
        refine xEqT (N := 5) (x := (-1)) (y := (-1)) (A := ev m_P_readGuess 89 [some (eR 0)] [] (([pQ (eUp Q 14 (-1)), eO 2 [eR 2, eI ln, eSt 20], eA 0 600 bY]) ++ wCb 3 S, c)) (B := ev m_P_readGuess 95 [some (eR 0)] [] (([pQ (eUp Q 14 (-1)), eO 2 [eR 2, eI ln, eSt 20], eA 0 600 bY]) ++ wCb 3 S, c)) rfl (show wr (-1) = (-1) by decide) (show wr (-1) = (-1) by decide) (by decide) ?_
        refine xCallW (N := 3) (M2 := m_P_readGuess) (pc2 := 91) (ls2 := [some (eR 0)]) (st2 := []) (y := m_P_fail) (as := [some (eR 0), some (eI 4)]) (w2 := (([pQ (eUp Q 14 (-1)), eO 2 [eR 2, eI ln, eSt 20], eA 0 600 bY]) ++ wCb 3 S, c)) rfl (pUp c_fail rfl rfl rfl) ?_
        refine xRb (N := 1) (v := 0) (w2 := (([pQ (eUp (eUp Q 14 (-1)) 3 4), eO 2 [eR 2, eI ln, eSt 20], eA 0 600 bY]) ++ wCb 3 S, c)) rfl (by decide) ?_
        rfl
      · rw [if_neg hfi]
        have hO1 := (hO k (by omega)).1
        have hrf := c_refusal (S := S) (c := (0, 0)) (x := Q 13) (y := fi) (k := k) (w := fi.toNat) (md := a 4) (o := op a) (by omega) (by omega) (by omega) hm hM.1 (hp.2.1 k (by omega)) hO1 (by omega)
        have hr0 := fun h => rfs_0 (md := a 4) (b := (op a k).testBit fi.toNat) (s := decide (pc 30 (op a k) = 1)) h
        have hrb : rfs (a 4) ((op a k).testBit fi.toNat) (decide (pc 30 (op a k) = 1)) ≤ 3 := by
          unfold rfs
          split
          · omega
          · cases (op a k).testBit fi.toNat <;> cases decide (pc 30 (op a k) = 1) <;> decide
        generalize rfs (a 4) ((op a k).testBit fi.toNat) (decide (pc 30 (op a k) = 1)) = rf at hrf hr0 hrb ⊢
        obtain ⟨rz, hrz⟩ : ∃ rz : Int, rz = (rf : Int) := ⟨_, rfl⟩
        rw [← hrz] at hrf
        by_cases hz : rf = 0
        · rw [if_pos hz]
          refine ⟨eUp Q 14 fi, by rw [eUp_ne (by omega)]; exact q77, ⟨by rw [eUp_ne (by omega)]; exact q3, by rw [eUp_ne (by omega)]; exact q5⟩, fun k' w' e' h => ?_, ?_⟩
          · cases h
            obtain ⟨r1, r2, r3⟩ := hr0 hz
            exact ⟨by omega, pc_gt hO1 r2 r3, r2, by rw [eUp_ne (by omega)]; omega, by rw [eUp_at]; omega⟩
          refine xCallW (N := 11) (M2 := m_P_readGuess) (pc2 := 16) (ls2 := [some (eR 0)]) (st2 := [eR 0]) (y := m_P_readNumber) (as := [some (eR 0), some (eI 0), some (eI ((S 1 4) - 1)), some (eI 4)]) (w2 := (([pQ P, eO 2 [eR 2, eI ln, eSt 20], eA 0 600 bY]) ++ wCb 3 S, c)) rfl (pUp v1 rfl rfl rfl) ?_
          refine xEqF (N := 5) (x := z1) (y := (-1)) (A := ev m_P_readGuess 30 [some (eR 0)] [] (([pQ (eUp P1 13 z1), eO 2 [eR 2, eI ln, eSt 20], eA 0 600 bY]) ++ wCb 3 S, c)) (B := ev m_P_readGuess 32 [some (eR 0)] [] (([pQ (eUp P1 13 z1), eO 2 [eR 2, eI ln, eSt 20], eA 0 600 bY]) ++ wCb 3 S, c)) rfl (wr_id (by omega) (by omega)) (show wr (-1) = (-1) by decide) (by omega) ?_
          refine xCallWV (N := 2) (M2 := m_P_readGuess) (pc2 := 33) (ls2 := [some (eR 0)]) (st2 := []) (y := m_P_nextToken) (as := [some (eR 0)]) (w2 := (([pQ (eUp P1 13 z1), eO 2 [eR 2, eI ln, eSt 20], eA 0 600 bY]) ++ wCb 3 S, c)) rfl (pUp q8 rfl rfl rfl) ?_
          refine xEqT (N := 4) (x := Q 6) (y := 1) (A := ev m_P_readGuess 50 [some (eR 0)] [] (([pQ Q, eO 2 [eR 2, eI ln, eSt 20], eA 0 600 bY]) ++ wCb 3 S, c)) (B := ev m_P_readGuess 44 [some (eR 0)] [] (([pQ Q, eO 2 [eR 2, eI ln, eSt 20], eA 0 600 bY]) ++ wCb 3 S, c)) rfl (wr_id (by omega) (by omega)) (show wr 1 = 1 by decide) (by omega) ?_
          refine xCallW (N := 14) (M2 := m_P_readGuess) (pc2 := 75) (ls2 := [some (eR 0)]) (st2 := [eR 0]) (y := m_V_find) (as := [some (eR 14), some (eR 2), some (eI (Q 4)), some (eI ((Q 5) - (Q 4)))]) (w2 := (([pQ Q, eO 2 [eR 2, eI ln, eSt 20], eA 0 600 bY]) ++ wCb 3 S, c)) rfl (pWinT hf rfl rfl rfl) ?_
          refine xEqF (N := 5) (x := fi) (y := (-1)) (A := ev m_P_readGuess 89 [some (eR 0)] [] (([pQ (eUp Q 14 fi), eO 2 [eR 2, eI ln, eSt 20], eA 0 600 bY]) ++ wCb 3 S, c)) (B := ev m_P_readGuess 95 [some (eR 0)] [] (([pQ (eUp Q 14 fi), eO 2 [eR 2, eI ln, eSt 20], eA 0 600 bY]) ++ wCb 3 S, c)) rfl (wr_id (by omega) (by omega)) (show wr (-1) = (-1) by decide) (by omega) ?_
          refine xCallW (N := 7) (M2 := m_P_readGuess) (pc2 := 107) (ls2 := [some (eR 0)]) (st2 := []) (y := m_W_refusal) (as := [some (eR 3), some (eI (Q 13)), some (eI fi)]) (w2 := (([pQ (eUp Q 14 fi), eO 2 [eR 2, eI ln, eSt 20], eA 0 600 bY]) ++ wCb 3 S, c)) rfl (pWin hrf rfl rfl rfl) ?_
          refine xEqT (N := 1) (x := rz) (y := 0) (A := ev m_P_readGuess 122 [some (eR 0)] [] (([pQ (eUp Q 14 fi), eO 2 [eR 2, eI ln, eSt 20], eA 0 600 bY]) ++ wCb 3 S, c)) (B := ev m_P_readGuess 113 [some (eR 0)] [] (([pQ (eUp Q 14 fi), eO 2 [eR 2, eI ln, eSt 20], eA 0 600 bY]) ++ wCb 3 S, c)) rfl (wr_id (by omega) (by omega)) (show wr 0 = 0 by decide) (by omega) ?_
          refine xRb (N := 3) (v := 1) (w2 := (([pQ (eUp Q 14 fi), eO 2 [eR 2, eI ln, eSt 20], eA 0 600 bY]) ++ wCb 3 S, c)) rfl (by decide) ?_
          rfl
        · rw [if_neg hz]
          refine ⟨eUp (eUp Q 14 fi) 3 6, by rw [eUp_ne (by omega), eUp_ne (by omega)]; exact q77, ⟨by rw [eUp_at]; rfl, by rw [eUp_ne (by omega), eUp_ne (by omega)]; exact q4⟩, fun k w e1 h => by (cases h), ?_⟩
          refine xCallW (N := 11) (M2 := m_P_readGuess) (pc2 := 16) (ls2 := [some (eR 0)]) (st2 := [eR 0]) (y := m_P_readNumber) (as := [some (eR 0), some (eI 0), some (eI ((S 1 4) - 1)), some (eI 4)]) (w2 := (([pQ P, eO 2 [eR 2, eI ln, eSt 20], eA 0 600 bY]) ++ wCb 3 S, c)) rfl (pUp v1 rfl rfl rfl) ?_
          refine xEqF (N := 5) (x := z1) (y := (-1)) (A := ev m_P_readGuess 30 [some (eR 0)] [] (([pQ (eUp P1 13 z1), eO 2 [eR 2, eI ln, eSt 20], eA 0 600 bY]) ++ wCb 3 S, c)) (B := ev m_P_readGuess 32 [some (eR 0)] [] (([pQ (eUp P1 13 z1), eO 2 [eR 2, eI ln, eSt 20], eA 0 600 bY]) ++ wCb 3 S, c)) rfl (wr_id (by omega) (by omega)) (show wr (-1) = (-1) by decide) (by omega) ?_
          refine xCallWV (N := 2) (M2 := m_P_readGuess) (pc2 := 33) (ls2 := [some (eR 0)]) (st2 := []) (y := m_P_nextToken) (as := [some (eR 0)]) (w2 := (([pQ (eUp P1 13 z1), eO 2 [eR 2, eI ln, eSt 20], eA 0 600 bY]) ++ wCb 3 S, c)) rfl (pUp q8 rfl rfl rfl) ?_
          refine xEqT (N := 4) (x := Q 6) (y := 1) (A := ev m_P_readGuess 50 [some (eR 0)] [] (([pQ Q, eO 2 [eR 2, eI ln, eSt 20], eA 0 600 bY]) ++ wCb 3 S, c)) (B := ev m_P_readGuess 44 [some (eR 0)] [] (([pQ Q, eO 2 [eR 2, eI ln, eSt 20], eA 0 600 bY]) ++ wCb 3 S, c)) rfl (wr_id (by omega) (by omega)) (show wr 1 = 1 by decide) (by omega) ?_
          refine xCallW (N := 14) (M2 := m_P_readGuess) (pc2 := 75) (ls2 := [some (eR 0)]) (st2 := [eR 0]) (y := m_V_find) (as := [some (eR 14), some (eR 2), some (eI (Q 4)), some (eI ((Q 5) - (Q 4)))]) (w2 := (([pQ Q, eO 2 [eR 2, eI ln, eSt 20], eA 0 600 bY]) ++ wCb 3 S, c)) rfl (pWinT hf rfl rfl rfl) ?_
          refine xEqF (N := 5) (x := fi) (y := (-1)) (A := ev m_P_readGuess 89 [some (eR 0)] [] (([pQ (eUp Q 14 fi), eO 2 [eR 2, eI ln, eSt 20], eA 0 600 bY]) ++ wCb 3 S, c)) (B := ev m_P_readGuess 95 [some (eR 0)] [] (([pQ (eUp Q 14 fi), eO 2 [eR 2, eI ln, eSt 20], eA 0 600 bY]) ++ wCb 3 S, c)) rfl (wr_id (by omega) (by omega)) (show wr (-1) = (-1) by decide) (by omega) ?_
          refine xCallW (N := 7) (M2 := m_P_readGuess) (pc2 := 107) (ls2 := [some (eR 0)]) (st2 := []) (y := m_W_refusal) (as := [some (eR 3), some (eI (Q 13)), some (eI fi)]) (w2 := (([pQ (eUp Q 14 fi), eO 2 [eR 2, eI ln, eSt 20], eA 0 600 bY]) ++ wCb 3 S, c)) rfl (pWin hrf rfl rfl rfl) ?_
          refine xEqF (N := 1) (x := rz) (y := 0) (A := ev m_P_readGuess 122 [some (eR 0)] [] (([pQ (eUp Q 14 fi), eO 2 [eR 2, eI ln, eSt 20], eA 0 600 bY]) ++ wCb 3 S, c)) (B := ev m_P_readGuess 113 [some (eR 0)] [] (([pQ (eUp Q 14 fi), eO 2 [eR 2, eI ln, eSt 20], eA 0 600 bY]) ++ wCb 3 S, c)) rfl (wr_id (by omega) (by omega)) (show wr 0 = 0 by decide) (by omega) ?_
          refine xCallW (N := 3) (M2 := m_P_readGuess) (pc2 := 116) (ls2 := [some (eR 0)]) (st2 := []) (y := m_P_fail) (as := [some (eR 0), some (eI 6)]) (w2 := (([pQ (eUp Q 14 fi), eO 2 [eR 2, eI ln, eSt 20], eA 0 600 bY]) ++ wCb 3 S, c)) rfl (pUp c_fail rfl rfl rfl) ?_
          refine xEqT (N := 1) (x := 0) (y := 0) (A := ev m_P_readGuess 126 [some (eR 0)] [] (([pQ (eUp (eUp Q 14 fi) 3 6), eO 2 [eR 2, eI ln, eSt 20], eA 0 600 bY]) ++ wCb 3 S, c)) (B := ev m_P_readGuess 122 [some (eR 0)] [] (([pQ (eUp (eUp Q 14 fi) 3 6), eO 2 [eR 2, eI ln, eSt 20], eA 0 600 bY]) ++ wCb 3 S, c)) rfl (show wr 0 = 0 by decide) (show wr 0 = 0 by decide) (by decide) ?_
          refine xRb (N := 2) (v := 0) (w2 := (([pQ (eUp (eUp Q 14 fi) 3 6), eO 2 [eR 2, eI ln, eSt 20], eA 0 600 bY]) ++ wCb 3 S, c)) rfl (by decide) ?_
          rfl
    · rw [if_neg hK]
      refine ⟨eUp Q 3 1, by rw [eUp_ne (by omega)]; exact q77, ⟨by rw [eUp_at]; rfl, by rw [eUp_ne (by omega)]; exact q4⟩, fun k w e1 h => by (cases h), ?_⟩
      refine xCallW (N := 11) (M2 := m_P_readGuess) (pc2 := 16) (ls2 := [some (eR 0)]) (st2 := [eR 0]) (y := m_P_readNumber) (as := [some (eR 0), some (eI 0), some (eI ((S 1 4) - 1)), some (eI 4)]) (w2 := (([pQ P, eO 2 [eR 2, eI ln, eSt 20], eA 0 600 bY]) ++ wCb 3 S, c)) rfl (pUp v1 rfl rfl rfl) ?_
      refine xEqF (N := 5) (x := z1) (y := (-1)) (A := ev m_P_readGuess 30 [some (eR 0)] [] (([pQ (eUp P1 13 z1), eO 2 [eR 2, eI ln, eSt 20], eA 0 600 bY]) ++ wCb 3 S, c)) (B := ev m_P_readGuess 32 [some (eR 0)] [] (([pQ (eUp P1 13 z1), eO 2 [eR 2, eI ln, eSt 20], eA 0 600 bY]) ++ wCb 3 S, c)) rfl (wr_id (by omega) (by omega)) (show wr (-1) = (-1) by decide) (by omega) ?_
      refine xCallWV (N := 2) (M2 := m_P_readGuess) (pc2 := 33) (ls2 := [some (eR 0)]) (st2 := []) (y := m_P_nextToken) (as := [some (eR 0)]) (w2 := (([pQ (eUp P1 13 z1), eO 2 [eR 2, eI ln, eSt 20], eA 0 600 bY]) ++ wCb 3 S, c)) rfl (pUp q8 rfl rfl rfl) ?_
      refine xEqF (N := 4) (x := Q 6) (y := 1) (A := ev m_P_readGuess 50 [some (eR 0)] [] (([pQ Q, eO 2 [eR 2, eI ln, eSt 20], eA 0 600 bY]) ++ wCb 3 S, c)) (B := ev m_P_readGuess 44 [some (eR 0)] [] (([pQ Q, eO 2 [eR 2, eI ln, eSt 20], eA 0 600 bY]) ++ wCb 3 S, c)) rfl (wr_id (by omega) (by omega)) (show wr 1 = 1 by decide) (by omega) ?_
      refine xCallW (N := 3) (M2 := m_P_readGuess) (pc2 := 46) (ls2 := [some (eR 0)]) (st2 := []) (y := m_P_fail) (as := [some (eR 0), some (eI 1)]) (w2 := (([pQ Q, eO 2 [eR 2, eI ln, eSt 20], eA 0 600 bY]) ++ wCb 3 S, c)) rfl (pUp c_fail rfl rfl rfl) ?_
      refine xRb (N := 1) (v := 0) (w2 := (([pQ (eUp Q 3 1), eO 2 [eR 2, eI ln, eSt 20], eA 0 600 bY]) ++ wCb 3 S, c)) rfl (by decide) ?_
      rfl
