/-! The parser reads a statement and does it. -/
theorem nuS_m {B : Nat → Nat} {n e lo hi er v e1 : Nat} (he : e ≤ n) (h : nuS B n e lo hi er = .inr (v, e1)) : e ≤ e1 ∧ e1 ≤ n := by
  have t := tk_le (B := B) he
  rw [(nuS_b h).2.2.2.1]
  omega
theorem celS_m {B : Nat → Nat} {n e e1 : Nat} {a : eRow} {q : Nat × Nat} (he : e ≤ n) (h : celS B n a e = .inr (q, e1)) : e ≤ e1 ∧ e1 ≤ n := by
  unfold celS at h
  cases hr1 : nuS B n e 0 (a 0) 2 with
  | inl z => rw [hr1] at h; cases h
  | inr z =>
    obtain ⟨x1, e2⟩ := z
    rw [hr1] at h
    dsimp only at h
    have m1 := nuS_m he hr1
    cases hr2 : nuS B n e2 0 (a 1) 2 with
    | inl z => rw [hr2] at h; cases h
    | inr z =>
      obtain ⟨x2, e3⟩ := z
      rw [hr2] at h
      dsimp only at h
      have m2 := nuS_m m1.2 hr2
      split at h
      · cases h; omega
      · cases h
theorem finS_L {B : Nat → Nat} {n e : Nat} {a : eRow} {z : Nat × Nat} (h : smS B n e = .inl z) : finS B n (.inr (a, e)) = .inl z := by unfold finS; dsimp only; rw [h]
theorem finS_R {B : Nat → Nat} {n e e2 : Nat} {a : eRow} (h : smS B n e = .inr e2) : finS B n (.inr (a, e)) = .inr (a, e2) := by unfold finS; dsimp only; rw [h]
theorem finS_m {B : Nat → Nat} {n e e' : Nat} {r : zR (eRow × Nat)} {a' : eRow} (hr : ∀ a1 e1, r = .inr (a1, e1) → e ≤ e1 ∧ e1 ≤ n) (h : finS B n r = .inr (a', e')) : e < e' ∧ e' ≤ n := by
  cases r with
  | inl z => cases h
  | inr q =>
    obtain ⟨a1, e1⟩ := q
    obtain ⟨h1, h2⟩ := hr a1 e1 rfl
    cases hs : smS B n e1 with
    | inl z => rw [finS_L hs] at h; cases h
    | inr e2 =>
      rw [finS_R hs] at h
      cases h
      have := smS_e h2 hs
      omega
theorem staS_m {B : Nat → Nat} {n s e e' k : Nat} {a a' : eRow} (he : e ≤ n) (h : staS B n a s e k = .inr (a', e')) : e < e' ∧ e' ≤ n := by
  have tk := fun e he => tk_le (B := B) (n := n) (e := e) he
  match k, h with
  | 0, h => cases h
  | 1, h =>
    refine finS_m (fun a1 e1 hr => ?_) h
    cases hb : blkS B n a s e with
    | inl z => rw [hb] at hr; cases hr
    | inr q =>
      obtain ⟨⟨x, y⟩, e2⟩ := q
      rw [hb] at hr
      cases hr
      unfold blkS at hb
      split at hb
      · cases hb
      · exact celS_m he hb
  | 2, h =>
    refine finS_m (fun a1 e1 hr => ?_) h
    cases hb : wrdS B n a s e with
    | inl z => rw [hb] at hr; cases hr
    | inr e2 =>
      rw [hb] at hr
      cases hr
      have t := tk e he
      unfold wrdS at hb
      repeat' split at hb
      all_goals first | (cases hb; omega) | cases hb
  | 3, h =>
    refine finS_m (fun a1 e1 hr => ?_) h
    cases hb : letS B n a e with
    | inl z => rw [hb] at hr; cases hr
    | inr q =>
      obtain ⟨⟨x, y⟩, ⟨v, e2⟩⟩ := q
      rw [hb] at hr
      cases hr
      unfold letS at hb
      cases hc : celS B n a e with
      | inl z => rw [hc] at hb; cases hb
      | inr q =>
        obtain ⟨q, e3⟩ := q
        rw [hc] at hb
        dsimp only at hb
        have m := celS_m he hc
        have t := tk e3 m.2
        split at hb
        · cases hb; omega
        · cases hb
  | 4, h =>
    refine finS_m (fun a1 e1 hr => ?_) h
    cases hb : gueS B n a e with
    | inl z => rw [hb] at hr; cases hr
    | inr q =>
      obtain ⟨⟨x, y⟩, e2⟩ := q
      rw [hb] at hr
      cases hr
      unfold gueS at hb
      cases hc : nuS B n e 0 (a 3) 4 with
      | inl z => rw [hc] at hb; cases hb
      | inr q =>
        obtain ⟨q, e3⟩ := q
        rw [hc] at hb
        dsimp only at hb
        have m := nuS_m he hc
        have t := tk e3 m.2
        repeat' split at hb
        all_goals first | (cases hb; omega) | cases hb
  | 5, h =>
    refine finS_m (fun a1 e1 hr => ?_) h
    cases hb : bacS a s e with
    | inl z => rw [hb] at hr; cases hr
    | inr e2 =>
      rw [hb] at hr
      cases hr
      unfold bacS at hb
      split at hb
      · cases hb; omega
      · cases hb
  | 6, h =>
    refine finS_m (fun a1 e1 hr => ?_) h
    cases hb : nuS B n e 0 201 2 with
    | inl z => rw [hb] at hr; cases hr
    | inr q =>
      obtain ⟨v, e2⟩ := q
      rw [hb] at hr
      cases hr
      exact nuS_m he hb
  | k + 7, h => cases h
theorem kw_le {B : Nat → Nat} {K S E : Nat} : kwK B K S E ≤ 6 := by
  unfold kwK
  cases isB B K S E 1 <;> cases isB B K S E 2 <;> cases isB B K S E 3 <;> cases isB B K S E 4 <;> cases isB B K S E 5 <;> cases isB B K S E 6 <;> decide
section
variable {P bY : Nat → Int} {B : Nat → Nat} {n : Nat} {ln : Int} {c : Nat × Nat} {S : wS} {a : eRow}
set_option maxRecDepth 100000
theorem c_soT {S9 E9 K9 : Nat} (h4 : P 4 = (S9 : Int)) (h5 : P 5 = (E9 : Int)) (h6 : P 6 = (K9 : Int)) (hSE : S9 ≤ E9) (hE : E9 ≤ n) (hn : n ≤ 600) (hK : K9 ≤ 3) (hby : ∀ i, i < n → bY i = (B i : Int) ∧ B i < 256) : ev m_P_statementOfToken 0 [some (eR 0)] [] ([pQ P, eO 2 [eR 2, eI ln, eSt 20], eA 0 600 bY] ++ wCb 3 S, c) = some (.inl (some (eI ((kwK B K9 S9 E9 : Nat) : Int))), ([pQ P, eO 2 [eR 2, eI ln, eSt 20], eA 0 600 bY] ++ wCb 3 S, c)) := by
  have t1 := c_tokenIs1 (c := (0, 0)) (ln := ln) h4 h5 h6 hSE hE hn hK hby
  have t2 := c_tokenIs2 (c := (0, 0)) (ln := ln) h4 h5 h6 hSE hE hn hK hby
  have t3 := c_tokenIs3 (c := (0, 0)) (ln := ln) h4 h5 h6 hSE hE hn hK hby
  have t4 := c_tokenIs4 (c := (0, 0)) (ln := ln) h4 h5 h6 hSE hE hn hK hby
  have t5 := c_tokenIs5 (c := (0, 0)) (ln := ln) h4 h5 h6 hSE hE hn hK hby
  have t6 := c_tokenIs6 (c := (0, 0)) (ln := ln) h4 h5 h6 hSE hE hn hK hby
  unfold kwK
  generalize isB B K9 S9 E9 1 = b1 at *
  generalize isB B K9 S9 E9 2 = b2 at *
  generalize isB B K9 S9 E9 3 = b3 at *
  generalize isB B K9 S9 E9 4 = b4 at *
  generalize isB B K9 S9 E9 5 = b5 at *
  generalize isB B K9 S9 E9 6 = b6 at *
  cases b1 with
  | true =>
    refine xCallW (N := 3) (M2 := m_P_statementOfToken) (pc2 := 3) (ls2 := [some (eR 0)]) (st2 := []) (y := m_P_tokenIs) (as := [some (eR 0), some (eSt 1)]) (w2 := (([pQ P, eO 2 [eR 2, eI ln, eSt 20], eA 0 600 bY]) ++ wCb 3 S, c)) rfl (pUp t1 rfl rfl rfl) ?_
    refine xEqF (N := 1) (x := 1) (y := 0) (A := ev m_P_statementOfToken 11 [some (eR 0)] [] (([pQ P, eO 2 [eR 2, eI ln, eSt 20], eA 0 600 bY]) ++ wCb 3 S, c)) (B := ev m_P_statementOfToken 9 [some (eR 0)] [] (([pQ P, eO 2 [eR 2, eI ln, eSt 20], eA 0 600 bY]) ++ wCb 3 S, c)) rfl (show wr 1 = 1 by decide) (show wr 0 = 0 by decide) (by decide) ?_
    refine xSeg (N := 2) (r := some (.inl (some (eI 1)), (([pQ P, eO 2 [eR 2, eI ln, eSt 20], eA 0 600 bY]) ++ wCb 3 S, c))) rfl ?_
    rfl
  | false =>
    cases b2 with
    | true =>
      refine xCallW (N := 3) (M2 := m_P_statementOfToken) (pc2 := 3) (ls2 := [some (eR 0)]) (st2 := []) (y := m_P_tokenIs) (as := [some (eR 0), some (eSt 1)]) (w2 := (([pQ P, eO 2 [eR 2, eI ln, eSt 20], eA 0 600 bY]) ++ wCb 3 S, c)) rfl (pUp t1 rfl rfl rfl) ?_
      refine xEqT (N := 1) (x := 0) (y := 0) (A := ev m_P_statementOfToken 11 [some (eR 0)] [] (([pQ P, eO 2 [eR 2, eI ln, eSt 20], eA 0 600 bY]) ++ wCb 3 S, c)) (B := ev m_P_statementOfToken 9 [some (eR 0)] [] (([pQ P, eO 2 [eR 2, eI ln, eSt 20], eA 0 600 bY]) ++ wCb 3 S, c)) rfl (show wr 0 = 0 by decide) (show wr 0 = 0 by decide) (by decide) ?_
      refine xCallW (N := 3) (M2 := m_P_statementOfToken) (pc2 := 14) (ls2 := [some (eR 0)]) (st2 := []) (y := m_P_tokenIs) (as := [some (eR 0), some (eSt 2)]) (w2 := (([pQ P, eO 2 [eR 2, eI ln, eSt 20], eA 0 600 bY]) ++ wCb 3 S, c)) rfl (pUp t2 rfl rfl rfl) ?_
      refine xEqF (N := 1) (x := 1) (y := 0) (A := ev m_P_statementOfToken 22 [some (eR 0)] [] (([pQ P, eO 2 [eR 2, eI ln, eSt 20], eA 0 600 bY]) ++ wCb 3 S, c)) (B := ev m_P_statementOfToken 20 [some (eR 0)] [] (([pQ P, eO 2 [eR 2, eI ln, eSt 20], eA 0 600 bY]) ++ wCb 3 S, c)) rfl (show wr 1 = 1 by decide) (show wr 0 = 0 by decide) (by decide) ?_
      refine xSeg (N := 2) (r := some (.inl (some (eI 2)), (([pQ P, eO 2 [eR 2, eI ln, eSt 20], eA 0 600 bY]) ++ wCb 3 S, c))) rfl ?_
      rfl
    | false =>
      cases b3 with
      | true =>
        refine xCallW (N := 3) (M2 := m_P_statementOfToken) (pc2 := 3) (ls2 := [some (eR 0)]) (st2 := []) (y := m_P_tokenIs) (as := [some (eR 0), some (eSt 1)]) (w2 := (([pQ P, eO 2 [eR 2, eI ln, eSt 20], eA 0 600 bY]) ++ wCb 3 S, c)) rfl (pUp t1 rfl rfl rfl) ?_
        refine xEqT (N := 1) (x := 0) (y := 0) (A := ev m_P_statementOfToken 11 [some (eR 0)] [] (([pQ P, eO 2 [eR 2, eI ln, eSt 20], eA 0 600 bY]) ++ wCb 3 S, c)) (B := ev m_P_statementOfToken 9 [some (eR 0)] [] (([pQ P, eO 2 [eR 2, eI ln, eSt 20], eA 0 600 bY]) ++ wCb 3 S, c)) rfl (show wr 0 = 0 by decide) (show wr 0 = 0 by decide) (by decide) ?_
        refine xCallW (N := 3) (M2 := m_P_statementOfToken) (pc2 := 14) (ls2 := [some (eR 0)]) (st2 := []) (y := m_P_tokenIs) (as := [some (eR 0), some (eSt 2)]) (w2 := (([pQ P, eO 2 [eR 2, eI ln, eSt 20], eA 0 600 bY]) ++ wCb 3 S, c)) rfl (pUp t2 rfl rfl rfl) ?_
        refine xEqT (N := 1) (x := 0) (y := 0) (A := ev m_P_statementOfToken 22 [some (eR 0)] [] (([pQ P, eO 2 [eR 2, eI ln, eSt 20], eA 0 600 bY]) ++ wCb 3 S, c)) (B := ev m_P_statementOfToken 20 [some (eR 0)] [] (([pQ P, eO 2 [eR 2, eI ln, eSt 20], eA 0 600 bY]) ++ wCb 3 S, c)) rfl (show wr 0 = 0 by decide) (show wr 0 = 0 by decide) (by decide) ?_
        refine xCallW (N := 3) (M2 := m_P_statementOfToken) (pc2 := 25) (ls2 := [some (eR 0)]) (st2 := []) (y := m_P_tokenIs) (as := [some (eR 0), some (eSt 3)]) (w2 := (([pQ P, eO 2 [eR 2, eI ln, eSt 20], eA 0 600 bY]) ++ wCb 3 S, c)) rfl (pUp t3 rfl rfl rfl) ?_
        refine xEqF (N := 1) (x := 1) (y := 0) (A := ev m_P_statementOfToken 33 [some (eR 0)] [] (([pQ P, eO 2 [eR 2, eI ln, eSt 20], eA 0 600 bY]) ++ wCb 3 S, c)) (B := ev m_P_statementOfToken 31 [some (eR 0)] [] (([pQ P, eO 2 [eR 2, eI ln, eSt 20], eA 0 600 bY]) ++ wCb 3 S, c)) rfl (show wr 1 = 1 by decide) (show wr 0 = 0 by decide) (by decide) ?_
        refine xSeg (N := 2) (r := some (.inl (some (eI 3)), (([pQ P, eO 2 [eR 2, eI ln, eSt 20], eA 0 600 bY]) ++ wCb 3 S, c))) rfl ?_
        rfl
      | false =>
        cases b4 with
        | true =>
          refine xCallW (N := 3) (M2 := m_P_statementOfToken) (pc2 := 3) (ls2 := [some (eR 0)]) (st2 := []) (y := m_P_tokenIs) (as := [some (eR 0), some (eSt 1)]) (w2 := (([pQ P, eO 2 [eR 2, eI ln, eSt 20], eA 0 600 bY]) ++ wCb 3 S, c)) rfl (pUp t1 rfl rfl rfl) ?_
          refine xEqT (N := 1) (x := 0) (y := 0) (A := ev m_P_statementOfToken 11 [some (eR 0)] [] (([pQ P, eO 2 [eR 2, eI ln, eSt 20], eA 0 600 bY]) ++ wCb 3 S, c)) (B := ev m_P_statementOfToken 9 [some (eR 0)] [] (([pQ P, eO 2 [eR 2, eI ln, eSt 20], eA 0 600 bY]) ++ wCb 3 S, c)) rfl (show wr 0 = 0 by decide) (show wr 0 = 0 by decide) (by decide) ?_
          refine xCallW (N := 3) (M2 := m_P_statementOfToken) (pc2 := 14) (ls2 := [some (eR 0)]) (st2 := []) (y := m_P_tokenIs) (as := [some (eR 0), some (eSt 2)]) (w2 := (([pQ P, eO 2 [eR 2, eI ln, eSt 20], eA 0 600 bY]) ++ wCb 3 S, c)) rfl (pUp t2 rfl rfl rfl) ?_
          refine xEqT (N := 1) (x := 0) (y := 0) (A := ev m_P_statementOfToken 22 [some (eR 0)] [] (([pQ P, eO 2 [eR 2, eI ln, eSt 20], eA 0 600 bY]) ++ wCb 3 S, c)) (B := ev m_P_statementOfToken 20 [some (eR 0)] [] (([pQ P, eO 2 [eR 2, eI ln, eSt 20], eA 0 600 bY]) ++ wCb 3 S, c)) rfl (show wr 0 = 0 by decide) (show wr 0 = 0 by decide) (by decide) ?_
          refine xCallW (N := 3) (M2 := m_P_statementOfToken) (pc2 := 25) (ls2 := [some (eR 0)]) (st2 := []) (y := m_P_tokenIs) (as := [some (eR 0), some (eSt 3)]) (w2 := (([pQ P, eO 2 [eR 2, eI ln, eSt 20], eA 0 600 bY]) ++ wCb 3 S, c)) rfl (pUp t3 rfl rfl rfl) ?_
          refine xEqT (N := 1) (x := 0) (y := 0) (A := ev m_P_statementOfToken 33 [some (eR 0)] [] (([pQ P, eO 2 [eR 2, eI ln, eSt 20], eA 0 600 bY]) ++ wCb 3 S, c)) (B := ev m_P_statementOfToken 31 [some (eR 0)] [] (([pQ P, eO 2 [eR 2, eI ln, eSt 20], eA 0 600 bY]) ++ wCb 3 S, c)) rfl (show wr 0 = 0 by decide) (show wr 0 = 0 by decide) (by decide) ?_
          refine xCallW (N := 3) (M2 := m_P_statementOfToken) (pc2 := 36) (ls2 := [some (eR 0)]) (st2 := []) (y := m_P_tokenIs) (as := [some (eR 0), some (eSt 4)]) (w2 := (([pQ P, eO 2 [eR 2, eI ln, eSt 20], eA 0 600 bY]) ++ wCb 3 S, c)) rfl (pUp t4 rfl rfl rfl) ?_
          refine xEqF (N := 1) (x := 1) (y := 0) (A := ev m_P_statementOfToken 44 [some (eR 0)] [] (([pQ P, eO 2 [eR 2, eI ln, eSt 20], eA 0 600 bY]) ++ wCb 3 S, c)) (B := ev m_P_statementOfToken 42 [some (eR 0)] [] (([pQ P, eO 2 [eR 2, eI ln, eSt 20], eA 0 600 bY]) ++ wCb 3 S, c)) rfl (show wr 1 = 1 by decide) (show wr 0 = 0 by decide) (by decide) ?_
          refine xSeg (N := 2) (r := some (.inl (some (eI 4)), (([pQ P, eO 2 [eR 2, eI ln, eSt 20], eA 0 600 bY]) ++ wCb 3 S, c))) rfl ?_
          rfl
        | false =>
          cases b5 with
          | true =>
            refine xCallW (N := 3) (M2 := m_P_statementOfToken) (pc2 := 3) (ls2 := [some (eR 0)]) (st2 := []) (y := m_P_tokenIs) (as := [some (eR 0), some (eSt 1)]) (w2 := (([pQ P, eO 2 [eR 2, eI ln, eSt 20], eA 0 600 bY]) ++ wCb 3 S, c)) rfl (pUp t1 rfl rfl rfl) ?_
            refine xEqT (N := 1) (x := 0) (y := 0) (A := ev m_P_statementOfToken 11 [some (eR 0)] [] (([pQ P, eO 2 [eR 2, eI ln, eSt 20], eA 0 600 bY]) ++ wCb 3 S, c)) (B := ev m_P_statementOfToken 9 [some (eR 0)] [] (([pQ P, eO 2 [eR 2, eI ln, eSt 20], eA 0 600 bY]) ++ wCb 3 S, c)) rfl (show wr 0 = 0 by decide) (show wr 0 = 0 by decide) (by decide) ?_
            refine xCallW (N := 3) (M2 := m_P_statementOfToken) (pc2 := 14) (ls2 := [some (eR 0)]) (st2 := []) (y := m_P_tokenIs) (as := [some (eR 0), some (eSt 2)]) (w2 := (([pQ P, eO 2 [eR 2, eI ln, eSt 20], eA 0 600 bY]) ++ wCb 3 S, c)) rfl (pUp t2 rfl rfl rfl) ?_
            refine xEqT (N := 1) (x := 0) (y := 0) (A := ev m_P_statementOfToken 22 [some (eR 0)] [] (([pQ P, eO 2 [eR 2, eI ln, eSt 20], eA 0 600 bY]) ++ wCb 3 S, c)) (B := ev m_P_statementOfToken 20 [some (eR 0)] [] (([pQ P, eO 2 [eR 2, eI ln, eSt 20], eA 0 600 bY]) ++ wCb 3 S, c)) rfl (show wr 0 = 0 by decide) (show wr 0 = 0 by decide) (by decide) ?_
            refine xCallW (N := 3) (M2 := m_P_statementOfToken) (pc2 := 25) (ls2 := [some (eR 0)]) (st2 := []) (y := m_P_tokenIs) (as := [some (eR 0), some (eSt 3)]) (w2 := (([pQ P, eO 2 [eR 2, eI ln, eSt 20], eA 0 600 bY]) ++ wCb 3 S, c)) rfl (pUp t3 rfl rfl rfl) ?_
            refine xEqT (N := 1) (x := 0) (y := 0) (A := ev m_P_statementOfToken 33 [some (eR 0)] [] (([pQ P, eO 2 [eR 2, eI ln, eSt 20], eA 0 600 bY]) ++ wCb 3 S, c)) (B := ev m_P_statementOfToken 31 [some (eR 0)] [] (([pQ P, eO 2 [eR 2, eI ln, eSt 20], eA 0 600 bY]) ++ wCb 3 S, c)) rfl (show wr 0 = 0 by decide) (show wr 0 = 0 by decide) (by decide) ?_
            refine xCallW (N := 3) (M2 := m_P_statementOfToken) (pc2 := 36) (ls2 := [some (eR 0)]) (st2 := []) (y := m_P_tokenIs) (as := [some (eR 0), some (eSt 4)]) (w2 := (([pQ P, eO 2 [eR 2, eI ln, eSt 20], eA 0 600 bY]) ++ wCb 3 S, c)) rfl (pUp t4 rfl rfl rfl) ?_
            refine xEqT (N := 1) (x := 0) (y := 0) (A := ev m_P_statementOfToken 44 [some (eR 0)] [] (([pQ P, eO 2 [eR 2, eI ln, eSt 20], eA 0 600 bY]) ++ wCb 3 S, c)) (B := ev m_P_statementOfToken 42 [some (eR 0)] [] (([pQ P, eO 2 [eR 2, eI ln, eSt 20], eA 0 600 bY]) ++ wCb 3 S, c)) rfl (show wr 0 = 0 by decide) (show wr 0 = 0 by decide) (by decide) ?_
            refine xCallW (N := 3) (M2 := m_P_statementOfToken) (pc2 := 47) (ls2 := [some (eR 0)]) (st2 := []) (y := m_P_tokenIs) (as := [some (eR 0), some (eSt 5)]) (w2 := (([pQ P, eO 2 [eR 2, eI ln, eSt 20], eA 0 600 bY]) ++ wCb 3 S, c)) rfl (pUp t5 rfl rfl rfl) ?_
            refine xEqF (N := 1) (x := 1) (y := 0) (A := ev m_P_statementOfToken 55 [some (eR 0)] [] (([pQ P, eO 2 [eR 2, eI ln, eSt 20], eA 0 600 bY]) ++ wCb 3 S, c)) (B := ev m_P_statementOfToken 53 [some (eR 0)] [] (([pQ P, eO 2 [eR 2, eI ln, eSt 20], eA 0 600 bY]) ++ wCb 3 S, c)) rfl (show wr 1 = 1 by decide) (show wr 0 = 0 by decide) (by decide) ?_
            refine xSeg (N := 2) (r := some (.inl (some (eI 5)), (([pQ P, eO 2 [eR 2, eI ln, eSt 20], eA 0 600 bY]) ++ wCb 3 S, c))) rfl ?_
            rfl
          | false =>
            cases b6 with
            | true =>
              refine xCallW (N := 3) (M2 := m_P_statementOfToken) (pc2 := 3) (ls2 := [some (eR 0)]) (st2 := []) (y := m_P_tokenIs) (as := [some (eR 0), some (eSt 1)]) (w2 := (([pQ P, eO 2 [eR 2, eI ln, eSt 20], eA 0 600 bY]) ++ wCb 3 S, c)) rfl (pUp t1 rfl rfl rfl) ?_
              refine xEqT (N := 1) (x := 0) (y := 0) (A := ev m_P_statementOfToken 11 [some (eR 0)] [] (([pQ P, eO 2 [eR 2, eI ln, eSt 20], eA 0 600 bY]) ++ wCb 3 S, c)) (B := ev m_P_statementOfToken 9 [some (eR 0)] [] (([pQ P, eO 2 [eR 2, eI ln, eSt 20], eA 0 600 bY]) ++ wCb 3 S, c)) rfl (show wr 0 = 0 by decide) (show wr 0 = 0 by decide) (by decide) ?_
              refine xCallW (N := 3) (M2 := m_P_statementOfToken) (pc2 := 14) (ls2 := [some (eR 0)]) (st2 := []) (y := m_P_tokenIs) (as := [some (eR 0), some (eSt 2)]) (w2 := (([pQ P, eO 2 [eR 2, eI ln, eSt 20], eA 0 600 bY]) ++ wCb 3 S, c)) rfl (pUp t2 rfl rfl rfl) ?_
              refine xEqT (N := 1) (x := 0) (y := 0) (A := ev m_P_statementOfToken 22 [some (eR 0)] [] (([pQ P, eO 2 [eR 2, eI ln, eSt 20], eA 0 600 bY]) ++ wCb 3 S, c)) (B := ev m_P_statementOfToken 20 [some (eR 0)] [] (([pQ P, eO 2 [eR 2, eI ln, eSt 20], eA 0 600 bY]) ++ wCb 3 S, c)) rfl (show wr 0 = 0 by decide) (show wr 0 = 0 by decide) (by decide) ?_
              refine xCallW (N := 3) (M2 := m_P_statementOfToken) (pc2 := 25) (ls2 := [some (eR 0)]) (st2 := []) (y := m_P_tokenIs) (as := [some (eR 0), some (eSt 3)]) (w2 := (([pQ P, eO 2 [eR 2, eI ln, eSt 20], eA 0 600 bY]) ++ wCb 3 S, c)) rfl (pUp t3 rfl rfl rfl) ?_
              refine xEqT (N := 1) (x := 0) (y := 0) (A := ev m_P_statementOfToken 33 [some (eR 0)] [] (([pQ P, eO 2 [eR 2, eI ln, eSt 20], eA 0 600 bY]) ++ wCb 3 S, c)) (B := ev m_P_statementOfToken 31 [some (eR 0)] [] (([pQ P, eO 2 [eR 2, eI ln, eSt 20], eA 0 600 bY]) ++ wCb 3 S, c)) rfl (show wr 0 = 0 by decide) (show wr 0 = 0 by decide) (by decide) ?_
              refine xCallW (N := 3) (M2 := m_P_statementOfToken) (pc2 := 36) (ls2 := [some (eR 0)]) (st2 := []) (y := m_P_tokenIs) (as := [some (eR 0), some (eSt 4)]) (w2 := (([pQ P, eO 2 [eR 2, eI ln, eSt 20], eA 0 600 bY]) ++ wCb 3 S, c)) rfl (pUp t4 rfl rfl rfl) ?_
              refine xEqT (N := 1) (x := 0) (y := 0) (A := ev m_P_statementOfToken 44 [some (eR 0)] [] (([pQ P, eO 2 [eR 2, eI ln, eSt 20], eA 0 600 bY]) ++ wCb 3 S, c)) (B := ev m_P_statementOfToken 42 [some (eR 0)] [] (([pQ P, eO 2 [eR 2, eI ln, eSt 20], eA 0 600 bY]) ++ wCb 3 S, c)) rfl (show wr 0 = 0 by decide) (show wr 0 = 0 by decide) (by decide) ?_
              refine xCallW (N := 3) (M2 := m_P_statementOfToken) (pc2 := 47) (ls2 := [some (eR 0)]) (st2 := []) (y := m_P_tokenIs) (as := [some (eR 0), some (eSt 5)]) (w2 := (([pQ P, eO 2 [eR 2, eI ln, eSt 20], eA 0 600 bY]) ++ wCb 3 S, c)) rfl (pUp t5 rfl rfl rfl) ?_
              refine xEqT (N := 1) (x := 0) (y := 0) (A := ev m_P_statementOfToken 55 [some (eR 0)] [] (([pQ P, eO 2 [eR 2, eI ln, eSt 20], eA 0 600 bY]) ++ wCb 3 S, c)) (B := ev m_P_statementOfToken 53 [some (eR 0)] [] (([pQ P, eO 2 [eR 2, eI ln, eSt 20], eA 0 600 bY]) ++ wCb 3 S, c)) rfl (show wr 0 = 0 by decide) (show wr 0 = 0 by decide) (by decide) ?_
              refine xCallW (N := 3) (M2 := m_P_statementOfToken) (pc2 := 58) (ls2 := [some (eR 0)]) (st2 := []) (y := m_P_tokenIs) (as := [some (eR 0), some (eSt 6)]) (w2 := (([pQ P, eO 2 [eR 2, eI ln, eSt 20], eA 0 600 bY]) ++ wCb 3 S, c)) rfl (pUp t6 rfl rfl rfl) ?_
              refine xEqF (N := 1) (x := 1) (y := 0) (A := ev m_P_statementOfToken 69 [some (eR 0)] [] (([pQ P, eO 2 [eR 2, eI ln, eSt 20], eA 0 600 bY]) ++ wCb 3 S, c)) (B := ev m_P_statementOfToken 64 [some (eR 0)] [] (([pQ P, eO 2 [eR 2, eI ln, eSt 20], eA 0 600 bY]) ++ wCb 3 S, c)) rfl (show wr 1 = 1 by decide) (show wr 0 = 0 by decide) (by decide) ?_
              refine xSeg (N := 3) (r := some (.inl (some (eI 6)), (([pQ P, eO 2 [eR 2, eI ln, eSt 20], eA 0 600 bY]) ++ wCb 3 S, c))) rfl ?_
              rfl
            | false =>
              refine xCallW (N := 3) (M2 := m_P_statementOfToken) (pc2 := 3) (ls2 := [some (eR 0)]) (st2 := []) (y := m_P_tokenIs) (as := [some (eR 0), some (eSt 1)]) (w2 := (([pQ P, eO 2 [eR 2, eI ln, eSt 20], eA 0 600 bY]) ++ wCb 3 S, c)) rfl (pUp t1 rfl rfl rfl) ?_
              refine xEqT (N := 1) (x := 0) (y := 0) (A := ev m_P_statementOfToken 11 [some (eR 0)] [] (([pQ P, eO 2 [eR 2, eI ln, eSt 20], eA 0 600 bY]) ++ wCb 3 S, c)) (B := ev m_P_statementOfToken 9 [some (eR 0)] [] (([pQ P, eO 2 [eR 2, eI ln, eSt 20], eA 0 600 bY]) ++ wCb 3 S, c)) rfl (show wr 0 = 0 by decide) (show wr 0 = 0 by decide) (by decide) ?_
              refine xCallW (N := 3) (M2 := m_P_statementOfToken) (pc2 := 14) (ls2 := [some (eR 0)]) (st2 := []) (y := m_P_tokenIs) (as := [some (eR 0), some (eSt 2)]) (w2 := (([pQ P, eO 2 [eR 2, eI ln, eSt 20], eA 0 600 bY]) ++ wCb 3 S, c)) rfl (pUp t2 rfl rfl rfl) ?_
              refine xEqT (N := 1) (x := 0) (y := 0) (A := ev m_P_statementOfToken 22 [some (eR 0)] [] (([pQ P, eO 2 [eR 2, eI ln, eSt 20], eA 0 600 bY]) ++ wCb 3 S, c)) (B := ev m_P_statementOfToken 20 [some (eR 0)] [] (([pQ P, eO 2 [eR 2, eI ln, eSt 20], eA 0 600 bY]) ++ wCb 3 S, c)) rfl (show wr 0 = 0 by decide) (show wr 0 = 0 by decide) (by decide) ?_
              refine xCallW (N := 3) (M2 := m_P_statementOfToken) (pc2 := 25) (ls2 := [some (eR 0)]) (st2 := []) (y := m_P_tokenIs) (as := [some (eR 0), some (eSt 3)]) (w2 := (([pQ P, eO 2 [eR 2, eI ln, eSt 20], eA 0 600 bY]) ++ wCb 3 S, c)) rfl (pUp t3 rfl rfl rfl) ?_
              refine xEqT (N := 1) (x := 0) (y := 0) (A := ev m_P_statementOfToken 33 [some (eR 0)] [] (([pQ P, eO 2 [eR 2, eI ln, eSt 20], eA 0 600 bY]) ++ wCb 3 S, c)) (B := ev m_P_statementOfToken 31 [some (eR 0)] [] (([pQ P, eO 2 [eR 2, eI ln, eSt 20], eA 0 600 bY]) ++ wCb 3 S, c)) rfl (show wr 0 = 0 by decide) (show wr 0 = 0 by decide) (by decide) ?_
              refine xCallW (N := 3) (M2 := m_P_statementOfToken) (pc2 := 36) (ls2 := [some (eR 0)]) (st2 := []) (y := m_P_tokenIs) (as := [some (eR 0), some (eSt 4)]) (w2 := (([pQ P, eO 2 [eR 2, eI ln, eSt 20], eA 0 600 bY]) ++ wCb 3 S, c)) rfl (pUp t4 rfl rfl rfl) ?_
              refine xEqT (N := 1) (x := 0) (y := 0) (A := ev m_P_statementOfToken 44 [some (eR 0)] [] (([pQ P, eO 2 [eR 2, eI ln, eSt 20], eA 0 600 bY]) ++ wCb 3 S, c)) (B := ev m_P_statementOfToken 42 [some (eR 0)] [] (([pQ P, eO 2 [eR 2, eI ln, eSt 20], eA 0 600 bY]) ++ wCb 3 S, c)) rfl (show wr 0 = 0 by decide) (show wr 0 = 0 by decide) (by decide) ?_
              refine xCallW (N := 3) (M2 := m_P_statementOfToken) (pc2 := 47) (ls2 := [some (eR 0)]) (st2 := []) (y := m_P_tokenIs) (as := [some (eR 0), some (eSt 5)]) (w2 := (([pQ P, eO 2 [eR 2, eI ln, eSt 20], eA 0 600 bY]) ++ wCb 3 S, c)) rfl (pUp t5 rfl rfl rfl) ?_
              refine xEqT (N := 1) (x := 0) (y := 0) (A := ev m_P_statementOfToken 55 [some (eR 0)] [] (([pQ P, eO 2 [eR 2, eI ln, eSt 20], eA 0 600 bY]) ++ wCb 3 S, c)) (B := ev m_P_statementOfToken 53 [some (eR 0)] [] (([pQ P, eO 2 [eR 2, eI ln, eSt 20], eA 0 600 bY]) ++ wCb 3 S, c)) rfl (show wr 0 = 0 by decide) (show wr 0 = 0 by decide) (by decide) ?_
              refine xCallW (N := 3) (M2 := m_P_statementOfToken) (pc2 := 58) (ls2 := [some (eR 0)]) (st2 := []) (y := m_P_tokenIs) (as := [some (eR 0), some (eSt 6)]) (w2 := (([pQ P, eO 2 [eR 2, eI ln, eSt 20], eA 0 600 bY]) ++ wCb 3 S, c)) rfl (pUp t6 rfl rfl rfl) ?_
              refine xEqT (N := 1) (x := 0) (y := 0) (A := ev m_P_statementOfToken 69 [some (eR 0)] [] (([pQ P, eO 2 [eR 2, eI ln, eSt 20], eA 0 600 bY]) ++ wCb 3 S, c)) (B := ev m_P_statementOfToken 64 [some (eR 0)] [] (([pQ P, eO 2 [eR 2, eI ln, eSt 20], eA 0 600 bY]) ++ wCb 3 S, c)) rfl (show wr 0 = 0 by decide) (show wr 0 = 0 by decide) (by decide) ?_
              refine xSeg (N := 2) (r := some (.inl (some (eI 0)), (([pQ P, eO 2 [eR 2, eI ln, eSt 20], eA 0 600 bY]) ++ wCb 3 S, c))) rfl ?_
              rfl
/-- what a statement has come to -/
def pE (B : Nat → Nat) (n : Nat) (bY : Nat → Int) (ln : Int) (c : Nat × Nat) (P : Nat → Int) (S : wS) (P' : Nat → Int) : zR (eRow × Nat) → Prop
  | .inl (k, s) => P' 3 = (k : Int) ∧ P' 4 = (s : Int) ∧ ev m_P_readStatement 0 [some (eR 0)] [] ([pQ P, eO 2 [eR 2, eI ln, eSt 20], eA 0 600 bY] ++ wCb 3 S, c) = some (.inl (some (eI 0)), ([pQ P', eO 2 [eR 2, eI ln, eSt 20], eA 0 600 bY] ++ wCb 3 S, c))
  | .inr (a', e') => P' 3 = P 3 ∧ P' 5 = (e' : Int) ∧ ev m_P_readStatement 0 [some (eR 0)] [] ([pQ P, eO 2 [eR 2, eI ln, eSt 20], eA 0 600 bY] ++ wCb 3 S, c) = some (.inl (some (eI 1)), ([pQ P', eO 2 [eR 2, eI ln, eSt 20], eA 0 600 bY] ++ wCb 3 S, c)) ∧ ∃ S' : wS, wA S' a' ∧ iA a' ∧ ev m_P_doStatement 0 [some (eR 0)] [] ([pQ P', eO 2 [eR 2, eI ln, eSt 20], eA 0 600 bY] ++ wCb 3 S, c) = some (.inl none, ([pQ P', eO 2 [eR 2, eI ln, eSt 20], eA 0 600 bY] ++ wCb 3 S', c))
theorem eUp_id {P : Nat → Int} {k : Nat} {v : Int} (h : P k = v) : P = eUp P k v := by
  funext j
  by_cases hj : j = k
  · subst hj; rw [eUp_at]; exact h
  · rw [eUp_ne hj]
theorem c_st1 (hln : ln = (n : Int)) (hn : n ≤ 600) (hby : ∀ i, i < 600 → bY i = (B i : Int) ∧ B i < 256) {s e : Nat} (h4 : P 4 = (s : Int)) (h5 : P 5 = (e : Int)) (hen : e ≤ n) (hA : wA S a) (hI : iA a) (hk : ev m_P_statementOfToken 0 [some (eR 0)] [] ([pQ P, eO 2 [eR 2, eI ln, eSt 20], eA 0 600 bY] ++ wCb 3 S, c) = some (.inl (some (eI 1)), ([pQ P, eO 2 [eR 2, eI ln, eSt 20], eA 0 600 bY] ++ wCb 3 S, c))) : ∃ P' : Nat → Int, pE B n bY ln c P S P' (staS B n a s e 1) := by
  obtain ⟨P1, k1, p1, y1, v1⟩ := c_rBlock (P := eUp P 7 1) (c := c) hln hn hby (by rw [eUp_ne (by omega)]; exact h5) hen (s := s) (by rw [eUp_ne (by omega)]; exact h4) hA.1 hI.1 hA.2.1 hI.2.1.1
  have k1 : P1 7 = 1 := by rw [k1, eUp_at]
  show ∃ P', pE B n bY ln c P S P' (finS B n (match blkS B n a s e with | .inl x => .inl x | .inr ((x, y), e1) => .inr (bkA a (6 * y + x), e1)))
  cases hr : blkS B n a s e with
  | inl z =>
    rw [hr] at p1 v1
    refine ⟨P1, p1.1, p1.2, ?_⟩
    refine xCallW (N := 3) (M2 := m_P_readStatement) (pc2 := 2) (ls2 := [some (eR 0)]) (st2 := [eR 0]) (y := m_P_statementOfToken) (as := [some (eR 0)]) (w2 := (([pQ P, eO 2 [eR 2, eI ln, eSt 20], eA 0 600 bY]) ++ wCb 3 S, c)) rfl hk ?_
    refine xCallW (N := 6) (M2 := m_P_readStatement) (pc2 := 53) (ls2 := [some (eR 0)]) (st2 := []) (y := m_P_readBlock) (as := [some (eR 0)]) (w2 := (([pQ (eUp P 7 1), eO 2 [eR 2, eI ln, eSt 20], eA 0 600 bY]) ++ wCb 3 S, c)) rfl v1 ?_
    refine xEqT (N := 1) (x := 0) (y := 0) (A := ev m_P_readStatement 70 [some (eR 0)] [] (([pQ P1, eO 2 [eR 2, eI ln, eSt 20], eA 0 600 bY]) ++ wCb 3 S, c)) (B := ev m_P_readStatement 59 [some (eR 0)] [] (([pQ P1, eO 2 [eR 2, eI ln, eSt 20], eA 0 600 bY]) ++ wCb 3 S, c)) rfl (show wr 0 = 0 by decide) (show wr 0 = 0 by decide) (by decide) ?_
    refine xRb (N := 2) (v := 0) (w2 := (([pQ P1, eO 2 [eR 2, eI ln, eSt 20], eA 0 600 bY]) ++ wCb 3 S, c)) rfl (by decide) ?_
    rfl
  | inr q =>
    obtain ⟨⟨x, y⟩, e1⟩ := q
    rw [hr] at p1 v1
    have p13 : P1 3 = P 3 := by rw [p1.1, eUp_ne (by omega)]
    obtain ⟨y2, y3, y4, y5⟩ := y1 x y e1 hr
    have hm : e1 ≤ n := by
      unfold blkS at hr
      split at hr
      · cases hr
      · exact (celS_m hen hr).2
    obtain ⟨P2, k2, p2, v2⟩ := c_sem (P := P1) (c := (0, 0)) hln hn (hb6 hn hby) p1.2 hm
    dsimp only
    cases hs : smS B n e1 with
    | inl z =>
      rw [hs] at p2 v2
      rw [finS_L hs]
      refine ⟨P2, p2.1, p2.2, ?_⟩
      refine xCallW (N := 3) (M2 := m_P_readStatement) (pc2 := 2) (ls2 := [some (eR 0)]) (st2 := [eR 0]) (y := m_P_statementOfToken) (as := [some (eR 0)]) (w2 := (([pQ P, eO 2 [eR 2, eI ln, eSt 20], eA 0 600 bY]) ++ wCb 3 S, c)) rfl hk ?_
      refine xCallW (N := 6) (M2 := m_P_readStatement) (pc2 := 53) (ls2 := [some (eR 0)]) (st2 := []) (y := m_P_readBlock) (as := [some (eR 0)]) (w2 := (([pQ (eUp P 7 1), eO 2 [eR 2, eI ln, eSt 20], eA 0 600 bY]) ++ wCb 3 S, c)) rfl v1 ?_
      refine xEqF (N := 1) (x := 1) (y := 0) (A := ev m_P_readStatement 70 [some (eR 0)] [] (([pQ P1, eO 2 [eR 2, eI ln, eSt 20], eA 0 600 bY]) ++ wCb 3 S, c)) (B := ev m_P_readStatement 59 [some (eR 0)] [] (([pQ P1, eO 2 [eR 2, eI ln, eSt 20], eA 0 600 bY]) ++ wCb 3 S, c)) rfl (show wr 1 = 1 by decide) (show wr 0 = 0 by decide) (by decide) ?_
      refine xCallW (N := 2) (M2 := m_P_readStatement) (pc2 := 60) (ls2 := [some (eR 0)]) (st2 := []) (y := m_P_readSemicolon) (as := [some (eR 0)]) (w2 := (([pQ P1, eO 2 [eR 2, eI ln, eSt 20], eA 0 600 bY]) ++ wCb 3 S, c)) rfl (pUp v2 rfl rfl rfl) ?_
      refine xEqT (N := 1) (x := 0) (y := 0) (A := ev m_P_readStatement 70 [some (eR 0)] [] (([pQ P2, eO 2 [eR 2, eI ln, eSt 20], eA 0 600 bY]) ++ wCb 3 S, c)) (B := ev m_P_readStatement 66 [some (eR 0)] [] (([pQ P2, eO 2 [eR 2, eI ln, eSt 20], eA 0 600 bY]) ++ wCb 3 S, c)) rfl (show wr 0 = 0 by decide) (show wr 0 = 0 by decide) (by decide) ?_
      refine xRb (N := 2) (v := 0) (w2 := (([pQ P2, eO 2 [eR 2, eI ln, eSt 20], eA 0 600 bY]) ++ wCb 3 S, c)) rfl (by decide) ?_
      rfl
    | inr e2 =>
      rw [hs] at p2 v2
      rw [finS_R hs]
      obtain ⟨S', n1, n2⟩ := c_putBlock (S := S) (c := (0, 0)) (a := a) (x := P2 11 * 6 + P2 10) (e := 6 * y + x) hA hI (by rw [k2 10 (by omega), k2 11 (by omega)]; omega) (by omega)
      refine ⟨P2, p2.1.trans p13, p2.2, ?_, S', n1, iA_bk hI (by omega), ?_⟩
      · refine xCallW (N := 3) (M2 := m_P_readStatement) (pc2 := 2) (ls2 := [some (eR 0)]) (st2 := [eR 0]) (y := m_P_statementOfToken) (as := [some (eR 0)]) (w2 := (([pQ P, eO 2 [eR 2, eI ln, eSt 20], eA 0 600 bY]) ++ wCb 3 S, c)) rfl hk ?_
        refine xCallW (N := 6) (M2 := m_P_readStatement) (pc2 := 53) (ls2 := [some (eR 0)]) (st2 := []) (y := m_P_readBlock) (as := [some (eR 0)]) (w2 := (([pQ (eUp P 7 1), eO 2 [eR 2, eI ln, eSt 20], eA 0 600 bY]) ++ wCb 3 S, c)) rfl v1 ?_
        refine xEqF (N := 1) (x := 1) (y := 0) (A := ev m_P_readStatement 70 [some (eR 0)] [] (([pQ P1, eO 2 [eR 2, eI ln, eSt 20], eA 0 600 bY]) ++ wCb 3 S, c)) (B := ev m_P_readStatement 59 [some (eR 0)] [] (([pQ P1, eO 2 [eR 2, eI ln, eSt 20], eA 0 600 bY]) ++ wCb 3 S, c)) rfl (show wr 1 = 1 by decide) (show wr 0 = 0 by decide) (by decide) ?_
        refine xCallW (N := 2) (M2 := m_P_readStatement) (pc2 := 60) (ls2 := [some (eR 0)]) (st2 := []) (y := m_P_readSemicolon) (as := [some (eR 0)]) (w2 := (([pQ P1, eO 2 [eR 2, eI ln, eSt 20], eA 0 600 bY]) ++ wCb 3 S, c)) rfl (pUp v2 rfl rfl rfl) ?_
        refine xEqF (N := 1) (x := 1) (y := 0) (A := ev m_P_readStatement 70 [some (eR 0)] [] (([pQ P2, eO 2 [eR 2, eI ln, eSt 20], eA 0 600 bY]) ++ wCb 3 S, c)) (B := ev m_P_readStatement 66 [some (eR 0)] [] (([pQ P2, eO 2 [eR 2, eI ln, eSt 20], eA 0 600 bY]) ++ wCb 3 S, c)) rfl (show wr 1 = 1 by decide) (show wr 0 = 0 by decide) (by decide) ?_
        refine xRb (N := 3) (v := 1) (w2 := (([pQ P2, eO 2 [eR 2, eI ln, eSt 20], eA 0 600 bY]) ++ wCb 3 S, c)) rfl (by decide) ?_
        rfl
      · have hP := eUp_id ((k2 7 (by omega)).trans k1)
        rw [hP]
        refine xCallI (N := 10) (v := (P2 11) * 6 + (P2 10)) (M2 := m_P_doStatement) (pc2 := 56) (ls2 := [some (eR 0)]) (st2 := [eR 3]) (y := m_G_cell) (as := [some (eI (P2 10)), some (eI (P2 11))]) (w2 := (([pQ (eUp P2 7 1), eO 2 [eR 2, eI ln, eSt 20], eA 0 600 bY]) ++ wCb 3 S, c)) rfl c_cell (fun r56 hr56 => ?_)
        refine xCallWV (N := 1) (M2 := m_P_doStatement) (pc2 := 59) (ls2 := [some (eR 0)]) (st2 := []) (y := m_W_putBlock) (as := [some (eR 3), some (eI r56)]) (w2 := (([pQ (eUp P2 7 1), eO 2 [eR 2, eI ln, eSt 20], eA 0 600 bY]) ++ wCb 3 S, c)) rfl (by rw [hr56]; exact pWin n2 rfl rfl rfl) ?_
        refine xSeg (N := 2) (r := some (.inl none, (([pQ (eUp P2 7 1), eO 2 [eR 2, eI ln, eSt 20], eA 0 600 bY]) ++ wCb 3 S', c))) rfl ?_
        rfl
theorem c_st2 (hln : ln = (n : Int)) (hn : n ≤ 600) (hby : ∀ i, i < 600 → bY i = (B i : Int) ∧ B i < 256) {s e : Nat} (h4 : P 4 = (s : Int)) (h5 : P 5 = (e : Int)) (hen : e ≤ n) (hA : wA S a) (hI : iA a) (hk : ev m_P_statementOfToken 0 [some (eR 0)] [] ([pQ P, eO 2 [eR 2, eI ln, eSt 20], eA 0 600 bY] ++ wCb 3 S, c) = some (.inl (some (eI 2)), ([pQ P, eO 2 [eR 2, eI ln, eSt 20], eA 0 600 bY] ++ wCb 3 S, c))) : ∃ P' : Nat → Int, pE B n bY ln c P S P' (staS B n a s e 2) := by
  obtain ⟨P1, k1, p1, y1, v1⟩ := c_rWord (P := eUp P 7 2) (c := c) hln hn hby (by rw [eUp_ne (by omega)]; exact h5) hen (s := s) (by rw [eUp_ne (by omega)]; exact h4) hA.2.1 hI.2.1
  have k1 : P1 7 = 2 := by rw [k1, eUp_at]
  show ∃ P', pE B n bY ln c P S P' (finS B n (match wrdS B n a s e with | .inl x => .inl x | .inr e1 => .inr (adA a (cdF B (tkS B n e) (tkE B n e - tkS B n e)) (tkE B n e - tkS B n e), e1)))
  cases hr : wrdS B n a s e with
  | inl z =>
    rw [hr] at p1 v1
    refine ⟨P1, p1.1, p1.2, ?_⟩
    refine xCallW (N := 3) (M2 := m_P_readStatement) (pc2 := 2) (ls2 := [some (eR 0)]) (st2 := [eR 0]) (y := m_P_statementOfToken) (as := [some (eR 0)]) (w2 := (([pQ P, eO 2 [eR 2, eI ln, eSt 20], eA 0 600 bY]) ++ wCb 3 S, c)) rfl hk ?_
    refine xCallW (N := 6) (M2 := m_P_readStatement) (pc2 := 73) (ls2 := [some (eR 0)]) (st2 := []) (y := m_P_readNewWord) (as := [some (eR 0)]) (w2 := (([pQ (eUp P 7 2), eO 2 [eR 2, eI ln, eSt 20], eA 0 600 bY]) ++ wCb 3 S, c)) rfl v1 ?_
    refine xEqT (N := 1) (x := 0) (y := 0) (A := ev m_P_readStatement 90 [some (eR 0)] [] (([pQ P1, eO 2 [eR 2, eI ln, eSt 20], eA 0 600 bY]) ++ wCb 3 S, c)) (B := ev m_P_readStatement 79 [some (eR 0)] [] (([pQ P1, eO 2 [eR 2, eI ln, eSt 20], eA 0 600 bY]) ++ wCb 3 S, c)) rfl (show wr 0 = 0 by decide) (show wr 0 = 0 by decide) (by decide) ?_
    refine xRb (N := 2) (v := 0) (w2 := (([pQ P1, eO 2 [eR 2, eI ln, eSt 20], eA 0 600 bY]) ++ wCb 3 S, c)) rfl (by decide) ?_
    rfl
  | inr e1 =>
    rw [hr] at p1 v1
    have p13 : P1 3 = P 3 := by rw [p1.1, eUp_ne (by omega)]
    obtain ⟨y2, y3, y4, y5, y6, y7, y8⟩ := y1 e1 hr
    have hm : e1 ≤ n := by rw [y4]; exact tkE_le hen
    obtain ⟨P2, k2, p2, v2⟩ := c_sem (P := P1) (c := (0, 0)) hln hn (hb6 hn hby) p1.2 hm
    dsimp only
    cases hs : smS B n e1 with
    | inl z =>
      rw [hs] at p2 v2
      rw [finS_L hs]
      refine ⟨P2, p2.1, p2.2, ?_⟩
      refine xCallW (N := 3) (M2 := m_P_readStatement) (pc2 := 2) (ls2 := [some (eR 0)]) (st2 := [eR 0]) (y := m_P_statementOfToken) (as := [some (eR 0)]) (w2 := (([pQ P, eO 2 [eR 2, eI ln, eSt 20], eA 0 600 bY]) ++ wCb 3 S, c)) rfl hk ?_
      refine xCallW (N := 6) (M2 := m_P_readStatement) (pc2 := 73) (ls2 := [some (eR 0)]) (st2 := []) (y := m_P_readNewWord) (as := [some (eR 0)]) (w2 := (([pQ (eUp P 7 2), eO 2 [eR 2, eI ln, eSt 20], eA 0 600 bY]) ++ wCb 3 S, c)) rfl v1 ?_
      refine xEqF (N := 1) (x := 1) (y := 0) (A := ev m_P_readStatement 90 [some (eR 0)] [] (([pQ P1, eO 2 [eR 2, eI ln, eSt 20], eA 0 600 bY]) ++ wCb 3 S, c)) (B := ev m_P_readStatement 79 [some (eR 0)] [] (([pQ P1, eO 2 [eR 2, eI ln, eSt 20], eA 0 600 bY]) ++ wCb 3 S, c)) rfl (show wr 1 = 1 by decide) (show wr 0 = 0 by decide) (by decide) ?_
      refine xCallW (N := 2) (M2 := m_P_readStatement) (pc2 := 80) (ls2 := [some (eR 0)]) (st2 := []) (y := m_P_readSemicolon) (as := [some (eR 0)]) (w2 := (([pQ P1, eO 2 [eR 2, eI ln, eSt 20], eA 0 600 bY]) ++ wCb 3 S, c)) rfl (pUp v2 rfl rfl rfl) ?_
      refine xEqT (N := 1) (x := 0) (y := 0) (A := ev m_P_readStatement 90 [some (eR 0)] [] (([pQ P2, eO 2 [eR 2, eI ln, eSt 20], eA 0 600 bY]) ++ wCb 3 S, c)) (B := ev m_P_readStatement 86 [some (eR 0)] [] (([pQ P2, eO 2 [eR 2, eI ln, eSt 20], eA 0 600 bY]) ++ wCb 3 S, c)) rfl (show wr 0 = 0 by decide) (show wr 0 = 0 by decide) (by decide) ?_
      refine xRb (N := 2) (v := 0) (w2 := (([pQ P2, eO 2 [eR 2, eI ln, eSt 20], eA 0 600 bY]) ++ wCb 3 S, c)) rfl (by decide) ?_
      rfl
    | inr e2 =>
      rw [hs] at p2 v2
      rw [finS_R hs]
      have hlet := tk_let hen y6
      have t := tk_le (B := B) hen
      have hok := cdF_ok hlet y7 y8
      obtain ⟨S', n1, n2⟩ := c_putWord (S := S) (a := a) (v := P2 15) (z := P2 16) (F := tkS B n e) (L := tkE B n e - tkS B n e) (n := 600) (cd := cdF B (tkS B n e) (tkE B n e - tkS B n e)) (t := bY) hA hI y5 hok (by rw [k2 15 (by omega)]; exact y2) (by rw [k2 16 (by omega)]; exact y3) (by omega) (by omega) (fun p hp => by
        have h9 := hlet p hp
        rw [cdF_dig hlet hp, (hby (tkS B n e + p) (by omega)).1]
        omega)
      refine ⟨P2, p2.1.trans p13, p2.2, ?_, S', n1, iA_ad hI y5 hok, ?_⟩
      · refine xCallW (N := 3) (M2 := m_P_readStatement) (pc2 := 2) (ls2 := [some (eR 0)]) (st2 := [eR 0]) (y := m_P_statementOfToken) (as := [some (eR 0)]) (w2 := (([pQ P, eO 2 [eR 2, eI ln, eSt 20], eA 0 600 bY]) ++ wCb 3 S, c)) rfl hk ?_
        refine xCallW (N := 6) (M2 := m_P_readStatement) (pc2 := 73) (ls2 := [some (eR 0)]) (st2 := []) (y := m_P_readNewWord) (as := [some (eR 0)]) (w2 := (([pQ (eUp P 7 2), eO 2 [eR 2, eI ln, eSt 20], eA 0 600 bY]) ++ wCb 3 S, c)) rfl v1 ?_
        refine xEqF (N := 1) (x := 1) (y := 0) (A := ev m_P_readStatement 90 [some (eR 0)] [] (([pQ P1, eO 2 [eR 2, eI ln, eSt 20], eA 0 600 bY]) ++ wCb 3 S, c)) (B := ev m_P_readStatement 79 [some (eR 0)] [] (([pQ P1, eO 2 [eR 2, eI ln, eSt 20], eA 0 600 bY]) ++ wCb 3 S, c)) rfl (show wr 1 = 1 by decide) (show wr 0 = 0 by decide) (by decide) ?_
        refine xCallW (N := 2) (M2 := m_P_readStatement) (pc2 := 80) (ls2 := [some (eR 0)]) (st2 := []) (y := m_P_readSemicolon) (as := [some (eR 0)]) (w2 := (([pQ P1, eO 2 [eR 2, eI ln, eSt 20], eA 0 600 bY]) ++ wCb 3 S, c)) rfl (pUp v2 rfl rfl rfl) ?_
        refine xEqF (N := 1) (x := 1) (y := 0) (A := ev m_P_readStatement 90 [some (eR 0)] [] (([pQ P2, eO 2 [eR 2, eI ln, eSt 20], eA 0 600 bY]) ++ wCb 3 S, c)) (B := ev m_P_readStatement 86 [some (eR 0)] [] (([pQ P2, eO 2 [eR 2, eI ln, eSt 20], eA 0 600 bY]) ++ wCb 3 S, c)) rfl (show wr 1 = 1 by decide) (show wr 0 = 0 by decide) (by decide) ?_
        refine xRb (N := 3) (v := 1) (w2 := (([pQ P2, eO 2 [eR 2, eI ln, eSt 20], eA 0 600 bY]) ++ wCb 3 S, c)) rfl (by decide) ?_
        rfl
      · have hP := eUp_id ((k2 7 (by omega)).trans k1)
        rw [hP]
        refine xCallWV (N := 12) (M2 := m_P_doStatement) (pc2 := 81) (ls2 := [some (eR 0)]) (st2 := []) (y := m_W_putWord) (as := [some (eR 3), some (eR 2), some (eI (P2 15)), some (eI (P2 16))]) (w2 := (([pQ (eUp P2 7 2), eO 2 [eR 2, eI ln, eSt 20], eA 0 600 bY]) ++ wCb 3 S, c)) rfl (pWinT n2 rfl rfl rfl) ?_
        refine xSeg (N := 2) (r := some (.inl none, (([pQ (eUp P2 7 2), eO 2 [eR 2, eI ln, eSt 20], eA 0 600 bY]) ++ wCb 3 S', c))) rfl ?_
        rfl
theorem c_st3 (hln : ln = (n : Int)) (hn : n ≤ 600) (hby : ∀ i, i < 600 → bY i = (B i : Int) ∧ B i < 256) {s e : Nat} (h4 : P 4 = (s : Int)) (h5 : P 5 = (e : Int)) (hen : e ≤ n) (hA : wA S a) (hI : iA a) (hk : ev m_P_statementOfToken 0 [some (eR 0)] [] ([pQ P, eO 2 [eR 2, eI ln, eSt 20], eA 0 600 bY] ++ wCb 3 S, c) = some (.inl (some (eI 3)), ([pQ P, eO 2 [eR 2, eI ln, eSt 20], eA 0 600 bY] ++ wCb 3 S, c))) : ∃ P' : Nat → Int, pE B n bY ln c P S P' (staS B n a s e 3) := by
  obtain ⟨P1, k1, p1, y1, v1⟩ := c_rLetter (P := eUp P 7 3) (c := c) hln hn hby (by rw [eUp_ne (by omega)]; exact h5) hen hA.1 hI.1
  have k1 : P1 7 = 3 := by rw [k1, eUp_at]
  show ∃ P', pE B n bY ln c P S P' (finS B n (match letS B n a e with | .inl x => .inl x | .inr ((x, y), (v, e1)) => .inr (lvA a (6 * y + x) v, e1)))
  cases hr : letS B n a e with
  | inl z =>
    rw [hr] at p1 v1
    refine ⟨P1, p1.1, p1.2, ?_⟩
    refine xCallW (N := 3) (M2 := m_P_readStatement) (pc2 := 2) (ls2 := [some (eR 0)]) (st2 := [eR 0]) (y := m_P_statementOfToken) (as := [some (eR 0)]) (w2 := (([pQ P, eO 2 [eR 2, eI ln, eSt 20], eA 0 600 bY]) ++ wCb 3 S, c)) rfl hk ?_
    refine xCallW (N := 6) (M2 := m_P_readStatement) (pc2 := 93) (ls2 := [some (eR 0)]) (st2 := []) (y := m_P_readLetter) (as := [some (eR 0)]) (w2 := (([pQ (eUp P 7 3), eO 2 [eR 2, eI ln, eSt 20], eA 0 600 bY]) ++ wCb 3 S, c)) rfl v1 ?_
    refine xEqT (N := 1) (x := 0) (y := 0) (A := ev m_P_readStatement 110 [some (eR 0)] [] (([pQ P1, eO 2 [eR 2, eI ln, eSt 20], eA 0 600 bY]) ++ wCb 3 S, c)) (B := ev m_P_readStatement 99 [some (eR 0)] [] (([pQ P1, eO 2 [eR 2, eI ln, eSt 20], eA 0 600 bY]) ++ wCb 3 S, c)) rfl (show wr 0 = 0 by decide) (show wr 0 = 0 by decide) (by decide) ?_
    refine xRb (N := 2) (v := 0) (w2 := (([pQ P1, eO 2 [eR 2, eI ln, eSt 20], eA 0 600 bY]) ++ wCb 3 S, c)) rfl (by decide) ?_
    rfl
  | inr q =>
    obtain ⟨⟨x, y⟩, ⟨v, e1⟩⟩ := q
    rw [hr] at p1 v1
    have p13 : P1 3 = P 3 := by rw [p1.1, eUp_ne (by omega)]
    obtain ⟨y2, y3, y4, y5, y6, y7, y8⟩ := y1 x y v e1 hr
    have hm : e1 ≤ n := by
      unfold letS at hr
      cases hc : celS B n a e with
      | inl z => rw [hc] at hr; cases hr
      | inr q =>
        obtain ⟨q, e3⟩ := q
        rw [hc] at hr
        dsimp only at hr
        have m := celS_m hen hc
        split at hr
        · cases hr; exact tkE_le m.2
        · cases hr
    obtain ⟨P2, k2, p2, v2⟩ := c_sem (P := P1) (c := (0, 0)) hln hn (hb6 hn hby) p1.2 hm
    dsimp only
    cases hs : smS B n e1 with
    | inl z =>
      rw [hs] at p2 v2
      rw [finS_L hs]
      refine ⟨P2, p2.1, p2.2, ?_⟩
      refine xCallW (N := 3) (M2 := m_P_readStatement) (pc2 := 2) (ls2 := [some (eR 0)]) (st2 := [eR 0]) (y := m_P_statementOfToken) (as := [some (eR 0)]) (w2 := (([pQ P, eO 2 [eR 2, eI ln, eSt 20], eA 0 600 bY]) ++ wCb 3 S, c)) rfl hk ?_
      refine xCallW (N := 6) (M2 := m_P_readStatement) (pc2 := 93) (ls2 := [some (eR 0)]) (st2 := []) (y := m_P_readLetter) (as := [some (eR 0)]) (w2 := (([pQ (eUp P 7 3), eO 2 [eR 2, eI ln, eSt 20], eA 0 600 bY]) ++ wCb 3 S, c)) rfl v1 ?_
      refine xEqF (N := 1) (x := 1) (y := 0) (A := ev m_P_readStatement 110 [some (eR 0)] [] (([pQ P1, eO 2 [eR 2, eI ln, eSt 20], eA 0 600 bY]) ++ wCb 3 S, c)) (B := ev m_P_readStatement 99 [some (eR 0)] [] (([pQ P1, eO 2 [eR 2, eI ln, eSt 20], eA 0 600 bY]) ++ wCb 3 S, c)) rfl (show wr 1 = 1 by decide) (show wr 0 = 0 by decide) (by decide) ?_
      refine xCallW (N := 2) (M2 := m_P_readStatement) (pc2 := 100) (ls2 := [some (eR 0)]) (st2 := []) (y := m_P_readSemicolon) (as := [some (eR 0)]) (w2 := (([pQ P1, eO 2 [eR 2, eI ln, eSt 20], eA 0 600 bY]) ++ wCb 3 S, c)) rfl (pUp v2 rfl rfl rfl) ?_
      refine xEqT (N := 1) (x := 0) (y := 0) (A := ev m_P_readStatement 110 [some (eR 0)] [] (([pQ P2, eO 2 [eR 2, eI ln, eSt 20], eA 0 600 bY]) ++ wCb 3 S, c)) (B := ev m_P_readStatement 106 [some (eR 0)] [] (([pQ P2, eO 2 [eR 2, eI ln, eSt 20], eA 0 600 bY]) ++ wCb 3 S, c)) rfl (show wr 0 = 0 by decide) (show wr 0 = 0 by decide) (by decide) ?_
      refine xRb (N := 2) (v := 0) (w2 := (([pQ P2, eO 2 [eR 2, eI ln, eSt 20], eA 0 600 bY]) ++ wCb 3 S, c)) rfl (by decide) ?_
      rfl
    | inr e2 =>
      rw [hs] at p2 v2
      rw [finS_R hs]
      obtain ⟨S', n1, n2⟩ := c_putLetter (S := S) (c := (0, 0)) (a := a) (x := P2 11 * 6 + P2 10) (y := P2 12) (e := 6 * y + x) (v := v) hA hI (by rw [k2 10 (by omega), k2 11 (by omega)]; omega) (by rw [k2 12 (by omega)]; exact y8) (by omega) (Or.inr ⟨y4, y5⟩)
      refine ⟨P2, p2.1.trans p13, p2.2, ?_, S', n1, iA_lv hI (by omega) (Or.inr ⟨y4, y5⟩), ?_⟩
      · refine xCallW (N := 3) (M2 := m_P_readStatement) (pc2 := 2) (ls2 := [some (eR 0)]) (st2 := [eR 0]) (y := m_P_statementOfToken) (as := [some (eR 0)]) (w2 := (([pQ P, eO 2 [eR 2, eI ln, eSt 20], eA 0 600 bY]) ++ wCb 3 S, c)) rfl hk ?_
        refine xCallW (N := 6) (M2 := m_P_readStatement) (pc2 := 93) (ls2 := [some (eR 0)]) (st2 := []) (y := m_P_readLetter) (as := [some (eR 0)]) (w2 := (([pQ (eUp P 7 3), eO 2 [eR 2, eI ln, eSt 20], eA 0 600 bY]) ++ wCb 3 S, c)) rfl v1 ?_
        refine xEqF (N := 1) (x := 1) (y := 0) (A := ev m_P_readStatement 110 [some (eR 0)] [] (([pQ P1, eO 2 [eR 2, eI ln, eSt 20], eA 0 600 bY]) ++ wCb 3 S, c)) (B := ev m_P_readStatement 99 [some (eR 0)] [] (([pQ P1, eO 2 [eR 2, eI ln, eSt 20], eA 0 600 bY]) ++ wCb 3 S, c)) rfl (show wr 1 = 1 by decide) (show wr 0 = 0 by decide) (by decide) ?_
        refine xCallW (N := 2) (M2 := m_P_readStatement) (pc2 := 100) (ls2 := [some (eR 0)]) (st2 := []) (y := m_P_readSemicolon) (as := [some (eR 0)]) (w2 := (([pQ P1, eO 2 [eR 2, eI ln, eSt 20], eA 0 600 bY]) ++ wCb 3 S, c)) rfl (pUp v2 rfl rfl rfl) ?_
        refine xEqF (N := 1) (x := 1) (y := 0) (A := ev m_P_readStatement 110 [some (eR 0)] [] (([pQ P2, eO 2 [eR 2, eI ln, eSt 20], eA 0 600 bY]) ++ wCb 3 S, c)) (B := ev m_P_readStatement 106 [some (eR 0)] [] (([pQ P2, eO 2 [eR 2, eI ln, eSt 20], eA 0 600 bY]) ++ wCb 3 S, c)) rfl (show wr 1 = 1 by decide) (show wr 0 = 0 by decide) (by decide) ?_
        refine xRb (N := 3) (v := 1) (w2 := (([pQ P2, eO 2 [eR 2, eI ln, eSt 20], eA 0 600 bY]) ++ wCb 3 S, c)) rfl (by decide) ?_
        rfl
      · have hP := eUp_id ((k2 7 (by omega)).trans k1)
        rw [hP]
        refine xCallI (N := 10) (v := (P2 11) * 6 + (P2 10)) (M2 := m_P_doStatement) (pc2 := 99) (ls2 := [some (eR 0)]) (st2 := [eR 3]) (y := m_G_cell) (as := [some (eI (P2 10)), some (eI (P2 11))]) (w2 := (([pQ (eUp P2 7 3), eO 2 [eR 2, eI ln, eSt 20], eA 0 600 bY]) ++ wCb 3 S, c)) rfl c_cell (fun r99 hr99 => ?_)
        refine xCallWV (N := 3) (M2 := m_P_doStatement) (pc2 := 106) (ls2 := [some (eR 0)]) (st2 := []) (y := m_W_putLetter) (as := [some (eR 3), some (eI r99), some (eI (P2 12))]) (w2 := (([pQ (eUp P2 7 3), eO 2 [eR 2, eI ln, eSt 20], eA 0 600 bY]) ++ wCb 3 S, c)) rfl (by rw [hr99]; exact pWin n2 rfl rfl rfl) ?_
        refine xSeg (N := 2) (r := some (.inl none, (([pQ (eUp P2 7 3), eO 2 [eR 2, eI ln, eSt 20], eA 0 600 bY]) ++ wCb 3 S', c))) rfl ?_
        rfl
theorem c_st4 (hln : ln = (n : Int)) (hn : n ≤ 600) (hby : ∀ i, i < 600 → bY i = (B i : Int) ∧ B i < 256) {s e : Nat} (h4 : P 4 = (s : Int)) (h5 : P 5 = (e : Int)) (hen : e ≤ n) (hA : wA S a) (hI : iA a) (hk : ev m_P_statementOfToken 0 [some (eR 0)] [] ([pQ P, eO 2 [eR 2, eI ln, eSt 20], eA 0 600 bY] ++ wCb 3 S, c) = some (.inl (some (eI 4)), ([pQ P, eO 2 [eR 2, eI ln, eSt 20], eA 0 600 bY] ++ wCb 3 S, c))) : ∃ P' : Nat → Int, pE B n bY ln c P S P' (staS B n a s e 4) := by
  obtain ⟨P1, k1, p1, y1, v1⟩ := c_rGuess (P := eUp P 7 4) (c := c) hln hn hby (by rw [eUp_ne (by omega)]; exact h5) hen hA hI
  have k1 : P1 7 = 4 := by rw [k1, eUp_at]
  show ∃ P', pE B n bY ln c P S P' (finS B n (match gueS B n a e with | .inl x => .inl x | .inr ((k, w), e1) => .inr (gsA a k w, e1)))
  cases hr : gueS B n a e with
  | inl z =>
    rw [hr] at p1 v1
    refine ⟨P1, p1.1, p1.2, ?_⟩
    refine xCallW (N := 3) (M2 := m_P_readStatement) (pc2 := 2) (ls2 := [some (eR 0)]) (st2 := [eR 0]) (y := m_P_statementOfToken) (as := [some (eR 0)]) (w2 := (([pQ P, eO 2 [eR 2, eI ln, eSt 20], eA 0 600 bY]) ++ wCb 3 S, c)) rfl hk ?_
    refine xCallW (N := 6) (M2 := m_P_readStatement) (pc2 := 113) (ls2 := [some (eR 0)]) (st2 := []) (y := m_P_readGuess) (as := [some (eR 0)]) (w2 := (([pQ (eUp P 7 4), eO 2 [eR 2, eI ln, eSt 20], eA 0 600 bY]) ++ wCb 3 S, c)) rfl v1 ?_
    refine xEqT (N := 1) (x := 0) (y := 0) (A := ev m_P_readStatement 130 [some (eR 0)] [] (([pQ P1, eO 2 [eR 2, eI ln, eSt 20], eA 0 600 bY]) ++ wCb 3 S, c)) (B := ev m_P_readStatement 119 [some (eR 0)] [] (([pQ P1, eO 2 [eR 2, eI ln, eSt 20], eA 0 600 bY]) ++ wCb 3 S, c)) rfl (show wr 0 = 0 by decide) (show wr 0 = 0 by decide) (by decide) ?_
    refine xRb (N := 2) (v := 0) (w2 := (([pQ P1, eO 2 [eR 2, eI ln, eSt 20], eA 0 600 bY]) ++ wCb 3 S, c)) rfl (by decide) ?_
    rfl
  | inr q =>
    obtain ⟨⟨k, w⟩, e1⟩ := q
    rw [hr] at p1 v1
    have p13 : P1 3 = P 3 := by rw [p1.1, eUp_ne (by omega)]
    obtain ⟨y2, y3, y4, y5, y6⟩ := y1 k w e1 hr
    have hm : e1 ≤ n := by
      unfold gueS at hr
      cases hc : nuS B n e 0 (a 3) 4 with
      | inl z => rw [hc] at hr; cases hr
      | inr q =>
        obtain ⟨q, e3⟩ := q
        rw [hc] at hr
        dsimp only at hr
        have m := nuS_m hen hc
        repeat' split at hr
        all_goals first | (cases hr; exact tkE_le m.2) | cases hr
    obtain ⟨P2, k2, p2, v2⟩ := c_sem (P := P1) (c := (0, 0)) hln hn (hb6 hn hby) p1.2 hm
    dsimp only
    cases hs : smS B n e1 with
    | inl z =>
      rw [hs] at p2 v2
      rw [finS_L hs]
      refine ⟨P2, p2.1, p2.2, ?_⟩
      refine xCallW (N := 3) (M2 := m_P_readStatement) (pc2 := 2) (ls2 := [some (eR 0)]) (st2 := [eR 0]) (y := m_P_statementOfToken) (as := [some (eR 0)]) (w2 := (([pQ P, eO 2 [eR 2, eI ln, eSt 20], eA 0 600 bY]) ++ wCb 3 S, c)) rfl hk ?_
      refine xCallW (N := 6) (M2 := m_P_readStatement) (pc2 := 113) (ls2 := [some (eR 0)]) (st2 := []) (y := m_P_readGuess) (as := [some (eR 0)]) (w2 := (([pQ (eUp P 7 4), eO 2 [eR 2, eI ln, eSt 20], eA 0 600 bY]) ++ wCb 3 S, c)) rfl v1 ?_
      refine xEqF (N := 1) (x := 1) (y := 0) (A := ev m_P_readStatement 130 [some (eR 0)] [] (([pQ P1, eO 2 [eR 2, eI ln, eSt 20], eA 0 600 bY]) ++ wCb 3 S, c)) (B := ev m_P_readStatement 119 [some (eR 0)] [] (([pQ P1, eO 2 [eR 2, eI ln, eSt 20], eA 0 600 bY]) ++ wCb 3 S, c)) rfl (show wr 1 = 1 by decide) (show wr 0 = 0 by decide) (by decide) ?_
      refine xCallW (N := 2) (M2 := m_P_readStatement) (pc2 := 120) (ls2 := [some (eR 0)]) (st2 := []) (y := m_P_readSemicolon) (as := [some (eR 0)]) (w2 := (([pQ P1, eO 2 [eR 2, eI ln, eSt 20], eA 0 600 bY]) ++ wCb 3 S, c)) rfl (pUp v2 rfl rfl rfl) ?_
      refine xEqT (N := 1) (x := 0) (y := 0) (A := ev m_P_readStatement 130 [some (eR 0)] [] (([pQ P2, eO 2 [eR 2, eI ln, eSt 20], eA 0 600 bY]) ++ wCb 3 S, c)) (B := ev m_P_readStatement 126 [some (eR 0)] [] (([pQ P2, eO 2 [eR 2, eI ln, eSt 20], eA 0 600 bY]) ++ wCb 3 S, c)) rfl (show wr 0 = 0 by decide) (show wr 0 = 0 by decide) (by decide) ?_
      refine xRb (N := 2) (v := 0) (w2 := (([pQ P2, eO 2 [eR 2, eI ln, eSt 20], eA 0 600 bY]) ++ wCb 3 S, c)) rfl (by decide) ?_
      rfl
    | inr e2 =>
      rw [hs] at p2 v2
      rw [finS_R hs]
      obtain ⟨S', n1, n2⟩ := c_putGuess (S := S) (c := (0, 0)) (a := a) (x := P2 13) (y := P2 14) (k := k) (w := w) hA hI (by rw [k2 13 (by omega)]; exact y5) (by rw [k2 14 (by omega)]; exact y6) y2 y3 y4
      refine ⟨P2, p2.1.trans p13, p2.2, ?_, S', n1, iA_gs hI y2 y3 y4, ?_⟩
      · refine xCallW (N := 3) (M2 := m_P_readStatement) (pc2 := 2) (ls2 := [some (eR 0)]) (st2 := [eR 0]) (y := m_P_statementOfToken) (as := [some (eR 0)]) (w2 := (([pQ P, eO 2 [eR 2, eI ln, eSt 20], eA 0 600 bY]) ++ wCb 3 S, c)) rfl hk ?_
        refine xCallW (N := 6) (M2 := m_P_readStatement) (pc2 := 113) (ls2 := [some (eR 0)]) (st2 := []) (y := m_P_readGuess) (as := [some (eR 0)]) (w2 := (([pQ (eUp P 7 4), eO 2 [eR 2, eI ln, eSt 20], eA 0 600 bY]) ++ wCb 3 S, c)) rfl v1 ?_
        refine xEqF (N := 1) (x := 1) (y := 0) (A := ev m_P_readStatement 130 [some (eR 0)] [] (([pQ P1, eO 2 [eR 2, eI ln, eSt 20], eA 0 600 bY]) ++ wCb 3 S, c)) (B := ev m_P_readStatement 119 [some (eR 0)] [] (([pQ P1, eO 2 [eR 2, eI ln, eSt 20], eA 0 600 bY]) ++ wCb 3 S, c)) rfl (show wr 1 = 1 by decide) (show wr 0 = 0 by decide) (by decide) ?_
        refine xCallW (N := 2) (M2 := m_P_readStatement) (pc2 := 120) (ls2 := [some (eR 0)]) (st2 := []) (y := m_P_readSemicolon) (as := [some (eR 0)]) (w2 := (([pQ P1, eO 2 [eR 2, eI ln, eSt 20], eA 0 600 bY]) ++ wCb 3 S, c)) rfl (pUp v2 rfl rfl rfl) ?_
        refine xEqF (N := 1) (x := 1) (y := 0) (A := ev m_P_readStatement 130 [some (eR 0)] [] (([pQ P2, eO 2 [eR 2, eI ln, eSt 20], eA 0 600 bY]) ++ wCb 3 S, c)) (B := ev m_P_readStatement 126 [some (eR 0)] [] (([pQ P2, eO 2 [eR 2, eI ln, eSt 20], eA 0 600 bY]) ++ wCb 3 S, c)) rfl (show wr 1 = 1 by decide) (show wr 0 = 0 by decide) (by decide) ?_
        refine xRb (N := 3) (v := 1) (w2 := (([pQ P2, eO 2 [eR 2, eI ln, eSt 20], eA 0 600 bY]) ++ wCb 3 S, c)) rfl (by decide) ?_
        rfl
      · have hP := eUp_id ((k2 7 (by omega)).trans k1)
        rw [hP]
        refine xCallWV (N := 10) (M2 := m_P_doStatement) (pc2 := 124) (ls2 := [some (eR 0)]) (st2 := []) (y := m_W_putGuess) (as := [some (eR 3), some (eI (P2 13)), some (eI (P2 14))]) (w2 := (([pQ (eUp P2 7 4), eO 2 [eR 2, eI ln, eSt 20], eA 0 600 bY]) ++ wCb 3 S, c)) rfl (pWin n2 rfl rfl rfl) ?_
        refine xSeg (N := 2) (r := some (.inl none, (([pQ (eUp P2 7 4), eO 2 [eR 2, eI ln, eSt 20], eA 0 600 bY]) ++ wCb 3 S', c))) rfl ?_
        rfl
theorem c_st5 (hln : ln = (n : Int)) (hn : n ≤ 600) (hby : ∀ i, i < 600 → bY i = (B i : Int) ∧ B i < 256) {s e : Nat} (h4 : P 4 = (s : Int)) (h5 : P 5 = (e : Int)) (hen : e ≤ n) (hA : wA S a) (hI : iA a) (hk : ev m_P_statementOfToken 0 [some (eR 0)] [] ([pQ P, eO 2 [eR 2, eI ln, eSt 20], eA 0 600 bY] ++ wCb 3 S, c) = some (.inl (some (eI 5)), ([pQ P, eO 2 [eR 2, eI ln, eSt 20], eA 0 600 bY] ++ wCb 3 S, c))) : ∃ P' : Nat → Int, pE B n bY ln c P S P' (staS B n a s e 5) := by
  obtain ⟨P1, k1, p1, y1, v1⟩ := c_rBack (P := eUp P 7 5) (c := c) hln hn hby (by rw [eUp_ne (by omega)]; exact h5) hen (s := s) (by rw [eUp_ne (by omega)]; exact h4) hA.2.2.1 (iT_24 hI.1.1.2.2.2.2 hI.2.2.2.1)
  have k1 : P1 7 = 5 := by rw [k1, eUp_at]
  show ∃ P', pE B n bY ln c P S P' (finS B n (match bacS a s e with | .inl x => .inl x | .inr e1 => .inr (tbA a, e1)))
  cases hr : bacS a s e with
  | inl z =>
    rw [hr] at p1 v1
    refine ⟨P1, p1.1, p1.2, ?_⟩
    refine xCallW (N := 3) (M2 := m_P_readStatement) (pc2 := 2) (ls2 := [some (eR 0)]) (st2 := [eR 0]) (y := m_P_statementOfToken) (as := [some (eR 0)]) (w2 := (([pQ P, eO 2 [eR 2, eI ln, eSt 20], eA 0 600 bY]) ++ wCb 3 S, c)) rfl hk ?_
    refine xCallW (N := 6) (M2 := m_P_readStatement) (pc2 := 133) (ls2 := [some (eR 0)]) (st2 := []) (y := m_P_readBack) (as := [some (eR 0)]) (w2 := (([pQ (eUp P 7 5), eO 2 [eR 2, eI ln, eSt 20], eA 0 600 bY]) ++ wCb 3 S, c)) rfl v1 ?_
    refine xEqT (N := 1) (x := 0) (y := 0) (A := ev m_P_readStatement 150 [some (eR 0)] [] (([pQ P1, eO 2 [eR 2, eI ln, eSt 20], eA 0 600 bY]) ++ wCb 3 S, c)) (B := ev m_P_readStatement 139 [some (eR 0)] [] (([pQ P1, eO 2 [eR 2, eI ln, eSt 20], eA 0 600 bY]) ++ wCb 3 S, c)) rfl (show wr 0 = 0 by decide) (show wr 0 = 0 by decide) (by decide) ?_
    refine xRb (N := 2) (v := 0) (w2 := (([pQ P1, eO 2 [eR 2, eI ln, eSt 20], eA 0 600 bY]) ++ wCb 3 S, c)) rfl (by decide) ?_
    rfl
  | inr e1 =>
    rw [hr] at p1 v1
    have p13 : P1 3 = P 3 := by rw [p1.1, eUp_ne (by omega)]
    have y2 := y1 e1 hr
    have hm : e1 ≤ n := by
      unfold bacS at hr
      rw [if_pos y2] at hr
      cases hr
      exact hen
    obtain ⟨P2, k2, p2, v2⟩ := c_sem (P := P1) (c := (0, 0)) hln hn (hb6 hn hby) p1.2 hm
    dsimp only
    cases hs : smS B n e1 with
    | inl z =>
      rw [hs] at p2 v2
      rw [finS_L hs]
      refine ⟨P2, p2.1, p2.2, ?_⟩
      refine xCallW (N := 3) (M2 := m_P_readStatement) (pc2 := 2) (ls2 := [some (eR 0)]) (st2 := [eR 0]) (y := m_P_statementOfToken) (as := [some (eR 0)]) (w2 := (([pQ P, eO 2 [eR 2, eI ln, eSt 20], eA 0 600 bY]) ++ wCb 3 S, c)) rfl hk ?_
      refine xCallW (N := 6) (M2 := m_P_readStatement) (pc2 := 133) (ls2 := [some (eR 0)]) (st2 := []) (y := m_P_readBack) (as := [some (eR 0)]) (w2 := (([pQ (eUp P 7 5), eO 2 [eR 2, eI ln, eSt 20], eA 0 600 bY]) ++ wCb 3 S, c)) rfl v1 ?_
      refine xEqF (N := 1) (x := 1) (y := 0) (A := ev m_P_readStatement 150 [some (eR 0)] [] (([pQ P1, eO 2 [eR 2, eI ln, eSt 20], eA 0 600 bY]) ++ wCb 3 S, c)) (B := ev m_P_readStatement 139 [some (eR 0)] [] (([pQ P1, eO 2 [eR 2, eI ln, eSt 20], eA 0 600 bY]) ++ wCb 3 S, c)) rfl (show wr 1 = 1 by decide) (show wr 0 = 0 by decide) (by decide) ?_
      refine xCallW (N := 2) (M2 := m_P_readStatement) (pc2 := 140) (ls2 := [some (eR 0)]) (st2 := []) (y := m_P_readSemicolon) (as := [some (eR 0)]) (w2 := (([pQ P1, eO 2 [eR 2, eI ln, eSt 20], eA 0 600 bY]) ++ wCb 3 S, c)) rfl (pUp v2 rfl rfl rfl) ?_
      refine xEqT (N := 1) (x := 0) (y := 0) (A := ev m_P_readStatement 150 [some (eR 0)] [] (([pQ P2, eO 2 [eR 2, eI ln, eSt 20], eA 0 600 bY]) ++ wCb 3 S, c)) (B := ev m_P_readStatement 146 [some (eR 0)] [] (([pQ P2, eO 2 [eR 2, eI ln, eSt 20], eA 0 600 bY]) ++ wCb 3 S, c)) rfl (show wr 0 = 0 by decide) (show wr 0 = 0 by decide) (by decide) ?_
      refine xRb (N := 2) (v := 0) (w2 := (([pQ P2, eO 2 [eR 2, eI ln, eSt 20], eA 0 600 bY]) ++ wCb 3 S, c)) rfl (by decide) ?_
      rfl
    | inr e2 =>
      rw [hs] at p2 v2
      rw [finS_R hs]
      obtain ⟨S', n1, n2⟩ := c_dropGuess (S := S) (c := (0, 0)) (a := a) hA hI y2
      refine ⟨P2, p2.1.trans p13, p2.2, ?_, S', n1, iA_tb hI y2, ?_⟩
      · refine xCallW (N := 3) (M2 := m_P_readStatement) (pc2 := 2) (ls2 := [some (eR 0)]) (st2 := [eR 0]) (y := m_P_statementOfToken) (as := [some (eR 0)]) (w2 := (([pQ P, eO 2 [eR 2, eI ln, eSt 20], eA 0 600 bY]) ++ wCb 3 S, c)) rfl hk ?_
        refine xCallW (N := 6) (M2 := m_P_readStatement) (pc2 := 133) (ls2 := [some (eR 0)]) (st2 := []) (y := m_P_readBack) (as := [some (eR 0)]) (w2 := (([pQ (eUp P 7 5), eO 2 [eR 2, eI ln, eSt 20], eA 0 600 bY]) ++ wCb 3 S, c)) rfl v1 ?_
        refine xEqF (N := 1) (x := 1) (y := 0) (A := ev m_P_readStatement 150 [some (eR 0)] [] (([pQ P1, eO 2 [eR 2, eI ln, eSt 20], eA 0 600 bY]) ++ wCb 3 S, c)) (B := ev m_P_readStatement 139 [some (eR 0)] [] (([pQ P1, eO 2 [eR 2, eI ln, eSt 20], eA 0 600 bY]) ++ wCb 3 S, c)) rfl (show wr 1 = 1 by decide) (show wr 0 = 0 by decide) (by decide) ?_
        refine xCallW (N := 2) (M2 := m_P_readStatement) (pc2 := 140) (ls2 := [some (eR 0)]) (st2 := []) (y := m_P_readSemicolon) (as := [some (eR 0)]) (w2 := (([pQ P1, eO 2 [eR 2, eI ln, eSt 20], eA 0 600 bY]) ++ wCb 3 S, c)) rfl (pUp v2 rfl rfl rfl) ?_
        refine xEqF (N := 1) (x := 1) (y := 0) (A := ev m_P_readStatement 150 [some (eR 0)] [] (([pQ P2, eO 2 [eR 2, eI ln, eSt 20], eA 0 600 bY]) ++ wCb 3 S, c)) (B := ev m_P_readStatement 146 [some (eR 0)] [] (([pQ P2, eO 2 [eR 2, eI ln, eSt 20], eA 0 600 bY]) ++ wCb 3 S, c)) rfl (show wr 1 = 1 by decide) (show wr 0 = 0 by decide) (by decide) ?_
        refine xRb (N := 3) (v := 1) (w2 := (([pQ P2, eO 2 [eR 2, eI ln, eSt 20], eA 0 600 bY]) ++ wCb 3 S, c)) rfl (by decide) ?_
        rfl
      · have hP := eUp_id ((k2 7 (by omega)).trans k1)
        rw [hP]
        refine xCallWV (N := 6) (M2 := m_P_doStatement) (pc2 := 134) (ls2 := [some (eR 0)]) (st2 := []) (y := m_W_dropGuess) (as := [some (eR 3)]) (w2 := (([pQ (eUp P2 7 5), eO 2 [eR 2, eI ln, eSt 20], eA 0 600 bY]) ++ wCb 3 S, c)) rfl (pWin n2 rfl rfl rfl) ?_
        refine xSeg (N := 2) (r := some (.inl none, (([pQ (eUp P2 7 5), eO 2 [eR 2, eI ln, eSt 20], eA 0 600 bY]) ++ wCb 3 S', c))) rfl ?_
        rfl
theorem c_st6 (hln : ln = (n : Int)) (hn : n ≤ 600) (hby : ∀ i, i < 600 → bY i = (B i : Int) ∧ B i < 256) {s e : Nat} (h4 : P 4 = (s : Int)) (h5 : P 5 = (e : Int)) (hen : e ≤ n) (hA : wA S a) (hI : iA a) (hk : ev m_P_statementOfToken 0 [some (eR 0)] [] ([pQ P, eO 2 [eR 2, eI ln, eSt 20], eA 0 600 bY] ++ wCb 3 S, c) = some (.inl (some (eI 6)), ([pQ P, eO 2 [eR 2, eI ln, eSt 20], eA 0 600 bY] ++ wCb 3 S, c))) : ∃ P' : Nat → Int, pE B n bY ln c P S P' (staS B n a s e 6) := by
  obtain ⟨P1, k1, p1, y1, v1⟩ := c_rSolve (P := eUp P 7 6) (S := S) (a := a) (c := c) hln hn hby (by rw [eUp_ne (by omega)]; exact h5) hen
  have k1 : P1 7 = 6 := by rw [k1, eUp_at]
  show ∃ P', pE B n bY ln c P S P' (finS B n (match nuS B n e 0 201 2 with | .inl x => .inl x | .inr (v, e1) => .inr (sv v a, e1)))
  cases hr : nuS B n e 0 201 2 with
  | inl z =>
    rw [hr] at p1 v1
    refine ⟨P1, p1.1, p1.2, ?_⟩
    refine xCallW (N := 3) (M2 := m_P_readStatement) (pc2 := 2) (ls2 := [some (eR 0)]) (st2 := [eR 0]) (y := m_P_statementOfToken) (as := [some (eR 0)]) (w2 := (([pQ P, eO 2 [eR 2, eI ln, eSt 20], eA 0 600 bY]) ++ wCb 3 S, c)) rfl hk ?_
    refine xCallW (N := 6) (M2 := m_P_readStatement) (pc2 := 153) (ls2 := [some (eR 0)]) (st2 := []) (y := m_P_readSolve) (as := [some (eR 0)]) (w2 := (([pQ (eUp P 7 6), eO 2 [eR 2, eI ln, eSt 20], eA 0 600 bY]) ++ wCb 3 S, c)) rfl v1 ?_
    refine xEqT (N := 1) (x := 0) (y := 0) (A := ev m_P_readStatement 170 [some (eR 0)] [] (([pQ P1, eO 2 [eR 2, eI ln, eSt 20], eA 0 600 bY]) ++ wCb 3 S, c)) (B := ev m_P_readStatement 159 [some (eR 0)] [] (([pQ P1, eO 2 [eR 2, eI ln, eSt 20], eA 0 600 bY]) ++ wCb 3 S, c)) rfl (show wr 0 = 0 by decide) (show wr 0 = 0 by decide) (by decide) ?_
    refine xRb (N := 2) (v := 0) (w2 := (([pQ P1, eO 2 [eR 2, eI ln, eSt 20], eA 0 600 bY]) ++ wCb 3 S, c)) rfl (by decide) ?_
    rfl
  | inr q =>
    obtain ⟨v, e1⟩ := q
    rw [hr] at p1 v1
    have p13 : P1 3 = P 3 := by rw [p1.1, eUp_ne (by omega)]
    obtain ⟨y2, y3⟩ := y1 v e1 hr
    have hm : e1 ≤ n := (nuS_m hen hr).2
    obtain ⟨P2, k2, p2, v2⟩ := c_sem (P := P1) (c := (0, 0)) hln hn (hb6 hn hby) p1.2 hm
    dsimp only
    cases hs : smS B n e1 with
    | inl z =>
      rw [hs] at p2 v2
      rw [finS_L hs]
      refine ⟨P2, p2.1, p2.2, ?_⟩
      refine xCallW (N := 3) (M2 := m_P_readStatement) (pc2 := 2) (ls2 := [some (eR 0)]) (st2 := [eR 0]) (y := m_P_statementOfToken) (as := [some (eR 0)]) (w2 := (([pQ P, eO 2 [eR 2, eI ln, eSt 20], eA 0 600 bY]) ++ wCb 3 S, c)) rfl hk ?_
      refine xCallW (N := 6) (M2 := m_P_readStatement) (pc2 := 153) (ls2 := [some (eR 0)]) (st2 := []) (y := m_P_readSolve) (as := [some (eR 0)]) (w2 := (([pQ (eUp P 7 6), eO 2 [eR 2, eI ln, eSt 20], eA 0 600 bY]) ++ wCb 3 S, c)) rfl v1 ?_
      refine xEqF (N := 1) (x := 1) (y := 0) (A := ev m_P_readStatement 170 [some (eR 0)] [] (([pQ P1, eO 2 [eR 2, eI ln, eSt 20], eA 0 600 bY]) ++ wCb 3 S, c)) (B := ev m_P_readStatement 159 [some (eR 0)] [] (([pQ P1, eO 2 [eR 2, eI ln, eSt 20], eA 0 600 bY]) ++ wCb 3 S, c)) rfl (show wr 1 = 1 by decide) (show wr 0 = 0 by decide) (by decide) ?_
      refine xCallW (N := 2) (M2 := m_P_readStatement) (pc2 := 160) (ls2 := [some (eR 0)]) (st2 := []) (y := m_P_readSemicolon) (as := [some (eR 0)]) (w2 := (([pQ P1, eO 2 [eR 2, eI ln, eSt 20], eA 0 600 bY]) ++ wCb 3 S, c)) rfl (pUp v2 rfl rfl rfl) ?_
      refine xEqT (N := 1) (x := 0) (y := 0) (A := ev m_P_readStatement 170 [some (eR 0)] [] (([pQ P2, eO 2 [eR 2, eI ln, eSt 20], eA 0 600 bY]) ++ wCb 3 S, c)) (B := ev m_P_readStatement 166 [some (eR 0)] [] (([pQ P2, eO 2 [eR 2, eI ln, eSt 20], eA 0 600 bY]) ++ wCb 3 S, c)) rfl (show wr 0 = 0 by decide) (show wr 0 = 0 by decide) (by decide) ?_
      refine xRb (N := 2) (v := 0) (w2 := (([pQ P2, eO 2 [eR 2, eI ln, eSt 20], eA 0 600 bY]) ++ wCb 3 S, c)) rfl (by decide) ?_
      rfl
    | inr e2 =>
      rw [hs] at p2 v2
      rw [finS_R hs]
      obtain ⟨S', n1, n2⟩ := c_makeSteps (S := S) (c := (0, 0)) (a := a) (x := P2 17) (m := v) hA hI (by rw [k2 17 (by omega)]; exact y3) y2
      obtain ⟨zs, hzs⟩ : ∃ zs : Int, zs = ((svc v a : Nat) : Int) := ⟨_, rfl⟩
      rw [← hzs] at n2
      refine ⟨P2, p2.1.trans p13, p2.2, ?_, S', n1, iA_sv hI, ?_⟩
      · refine xCallW (N := 3) (M2 := m_P_readStatement) (pc2 := 2) (ls2 := [some (eR 0)]) (st2 := [eR 0]) (y := m_P_statementOfToken) (as := [some (eR 0)]) (w2 := (([pQ P, eO 2 [eR 2, eI ln, eSt 20], eA 0 600 bY]) ++ wCb 3 S, c)) rfl hk ?_
        refine xCallW (N := 6) (M2 := m_P_readStatement) (pc2 := 153) (ls2 := [some (eR 0)]) (st2 := []) (y := m_P_readSolve) (as := [some (eR 0)]) (w2 := (([pQ (eUp P 7 6), eO 2 [eR 2, eI ln, eSt 20], eA 0 600 bY]) ++ wCb 3 S, c)) rfl v1 ?_
        refine xEqF (N := 1) (x := 1) (y := 0) (A := ev m_P_readStatement 170 [some (eR 0)] [] (([pQ P1, eO 2 [eR 2, eI ln, eSt 20], eA 0 600 bY]) ++ wCb 3 S, c)) (B := ev m_P_readStatement 159 [some (eR 0)] [] (([pQ P1, eO 2 [eR 2, eI ln, eSt 20], eA 0 600 bY]) ++ wCb 3 S, c)) rfl (show wr 1 = 1 by decide) (show wr 0 = 0 by decide) (by decide) ?_
        refine xCallW (N := 2) (M2 := m_P_readStatement) (pc2 := 160) (ls2 := [some (eR 0)]) (st2 := []) (y := m_P_readSemicolon) (as := [some (eR 0)]) (w2 := (([pQ P1, eO 2 [eR 2, eI ln, eSt 20], eA 0 600 bY]) ++ wCb 3 S, c)) rfl (pUp v2 rfl rfl rfl) ?_
        refine xEqF (N := 1) (x := 1) (y := 0) (A := ev m_P_readStatement 170 [some (eR 0)] [] (([pQ P2, eO 2 [eR 2, eI ln, eSt 20], eA 0 600 bY]) ++ wCb 3 S, c)) (B := ev m_P_readStatement 166 [some (eR 0)] [] (([pQ P2, eO 2 [eR 2, eI ln, eSt 20], eA 0 600 bY]) ++ wCb 3 S, c)) rfl (show wr 1 = 1 by decide) (show wr 0 = 0 by decide) (by decide) ?_
        refine xRb (N := 3) (v := 1) (w2 := (([pQ P2, eO 2 [eR 2, eI ln, eSt 20], eA 0 600 bY]) ++ wCb 3 S, c)) rfl (by decide) ?_
        rfl
      · have hP := eUp_id ((k2 7 (by omega)).trans k1)
        rw [hP]
        refine xCallW (N := 8) (M2 := m_P_doStatement) (pc2 := 148) (ls2 := [some (eR 0)]) (st2 := []) (y := m_W_makeSteps) (as := [some (eR 3), some (eI (P2 17))]) (w2 := (([pQ (eUp P2 7 6), eO 2 [eR 2, eI ln, eSt 20], eA 0 600 bY]) ++ wCb 3 S, c)) rfl (pWin n2 rfl rfl rfl) ?_
        refine xSeg (N := 3) (r := some (.inl none, (([pQ (eUp P2 7 6), eO 2 [eR 2, eI ln, eSt 20], eA 0 600 bY]) ++ wCb 3 S', c))) rfl ?_
        rfl
theorem c_stmt {e : Nat} (hln : ln = (n : Int)) (hn : n ≤ 600) (hby : ∀ i, i < 600 → bY i = (B i : Int) ∧ B i < 256) (h4 : P 4 = ((tkS B n e : Nat) : Int)) (h5 : P 5 = ((tkE B n e : Nat) : Int)) (h6 : P 6 = ((tkK B n e : Nat) : Int)) (hen : e ≤ n) (hA : wA S a) (hI : iA a) : ∃ P' : Nat → Int, pE B n bY ln c P S P' (staS B n a (tkS B n e) (tkE B n e) (kwS B n e)) := by
  have t := tk_le (B := B) hen
  have hk := c_soT (S := S) (c := c) (ln := ln) h4 h5 h6 (by omega) (by omega) hn (by omega) (hb6 hn hby)
  have hkw : kwS B n e ≤ 6 := kw_le
  have hk : ev m_P_statementOfToken 0 [some (eR 0)] [] ([pQ P, eO 2 [eR 2, eI ln, eSt 20], eA 0 600 bY] ++ wCb 3 S, c) = some (.inl (some (eI ((kwS B n e : Nat) : Int))), ([pQ P, eO 2 [eR 2, eI ln, eSt 20], eA 0 600 bY] ++ wCb 3 S, c)) := hk
  have hE : tkE B n e ≤ n := tkE_le hen
  generalize kwS B n e = k at *
  match k, hkw, hk with
  | 0, _, hk =>
    refine ⟨eUp (eUp P 7 0) 3 1, by rw [eUp_at]; rfl, by rw [eUp_ne (by omega), eUp_ne (by omega)]; exact h4, ?_⟩
    refine xCallW (N := 3) (M2 := m_P_readStatement) (pc2 := 2) (ls2 := [some (eR 0)]) (st2 := [eR 0]) (y := m_P_statementOfToken) (as := [some (eR 0)]) (w2 := (([pQ P, eO 2 [eR 2, eI ln, eSt 20], eA 0 600 bY]) ++ wCb 3 S, c)) rfl hk ?_
    refine xCallW (N := 7) (M2 := m_P_readStatement) (pc2 := 174) (ls2 := [some (eR 0)]) (st2 := []) (y := m_P_fail) (as := [some (eR 0), some (eI 1)]) (w2 := (([pQ (eUp P 7 0), eO 2 [eR 2, eI ln, eSt 20], eA 0 600 bY]) ++ wCb 3 S, c)) rfl (pUp c_fail rfl rfl rfl) ?_
    refine xRb (N := 1) (v := 0) (w2 := (([pQ (eUp (eUp P 7 0) 3 1), eO 2 [eR 2, eI ln, eSt 20], eA 0 600 bY]) ++ wCb 3 S, c)) rfl (by decide) ?_
    rfl
  | 1, _, hk => exact c_st1 hln hn hby h4 h5 hE hA hI hk
  | 2, _, hk => exact c_st2 hln hn hby h4 h5 hE hA hI hk
  | 3, _, hk => exact c_st3 hln hn hby h4 h5 hE hA hI hk
  | 4, _, hk => exact c_st4 hln hn hby h4 h5 hE hA hI hk
  | 5, _, hk => exact c_st5 hln hn hby h4 h5 hE hA hI hk
  | 6, _, hk => exact c_st6 hln hn hby h4 h5 hE hA hI hk
  | k + 7, h, _ => omega
end
