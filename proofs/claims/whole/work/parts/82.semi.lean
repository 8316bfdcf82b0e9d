/-! The end of a statement. -/
set_option maxRecDepth 100000
theorem c_readSemicolon {P bY : Nat → Int} {B : Nat → Nat} {n e : Nat} {ln : Int} {c : Nat × Nat} (hln : ln = (n : Int)) (hn : n ≤ 600) (hby : ∀ i, i < n → bY i = (B i : Int) ∧ B i < 256) (he : P 5 = (e : Int)) (hen : e ≤ n) : ∃ P' : Nat → Int, (P' 4 = ((tkS B n e : Nat) : Int) ∧ P' 5 = ((tkE B n e : Nat) : Int) ∧ P' 6 = ((tkK B n e : Nat) : Int) ∧ P' 3 = (if tkK B n e = 3 ∧ B (tkS B n e) = 59 then P 3 else 1) ∧ ∀ j, 6 < j → P' j = P j) ∧ ev m_P_readSemicolon 0 [some (eR 0)] [] ([pO P, eO 2 [eR 2, eI ln, eSt 20], eA 0 600 bY], c) = some (.inl (some (eI (bI (decide (tkK B n e = 3 ∧ B (tkS B n e) = 59))))), ([pO P', eO 2 [eR 2, eI ln, eSt 20], eA 0 600 bY], c)) := by
  obtain ⟨Q, ⟨q4, q5, q6, q7⟩, q8⟩ := c_nextToken (c := c) hln hn hby he hen
  obtain ⟨t1, t2, t3, t4, t5⟩ := tk_le (B := B) hen
  generalize tkK B n e = K at q6 t4 t5 ⊢
  generalize tkS B n e = S at q4 t1 t2 t5 ⊢
  generalize tkE B n e = E at q5 t2 t3 t5 ⊢
  have q3 : Q 3 = P 3 := q7 3 (by omega) (by omega) (by omega)
  by_cases hg : K = 3 ∧ B S = 59
  · refine ⟨Q, ⟨q4, q5, q6, by rw [if_pos hg]; exact q3, fun j hj => q7 j (by omega) (by omega) (by omega)⟩, ?_⟩
    rw [decide_eq_true hg]
    have hb := hby S (t5 (by omega)).2.1
    refine xCallWV (N := 2) (M2 := m_P_readSemicolon) (pc2 := 1) (ls2 := [some (eR 0)]) (st2 := []) (y := m_P_nextToken) (as := [some (eR 0)]) (w2 := ([pO P, eO 2 [eR 2, eI ln, eSt 20], eA 0 600 bY], c)) rfl q8 ?_
    refine xEqT (N := 4) (x := Q 6) (y := 3) (A := ev m_P_readSemicolon 12 [some (eR 0)] [] ([pO Q, eO 2 [eR 2, eI ln, eSt 20], eA 0 600 bY], c)) (B := ev m_P_readSemicolon 26 [some (eR 0)] [] ([pO Q, eO 2 [eR 2, eI ln, eSt 20], eA 0 600 bY], c)) rfl (wr_id (by omega) (by omega)) (show wr 3 = 3 by decide) (by omega) ?_
    refine xLd (N := 5) (n := 600) (i := Q 4) (F := fun zq => ev m_P_readSemicolon 21 [some (eR 0)] [eI (bY zq)] ([pO Q, eO 2 [eR 2, eI ln, eSt 20], eA 0 600 bY], c)) (k := S) rfl (wr_nat (by omega) (by omega)) (by omega) ?_
    refine xEqT (N := 2) (x := bY S) (y := 59) (A := ev m_P_readSemicolon 34 [some (eR 0)] [] ([pO Q, eO 2 [eR 2, eI ln, eSt 20], eA 0 600 bY], c)) (B := ev m_P_readSemicolon 26 [some (eR 0)] [] ([pO Q, eO 2 [eR 2, eI ln, eSt 20], eA 0 600 bY], c)) rfl (wr_id (by omega) (by omega)) (show wr 59 = 59 by decide) (by omega) ?_
    refine xRb (N := 3) (v := 1) (w2 := ([pO Q, eO 2 [eR 2, eI ln, eSt 20], eA 0 600 bY], c)) rfl (by decide) ?_
    rfl
  · refine ⟨eUp Q 3 1, ⟨by rw [eUp_ne (by omega)]; exact q4, by rw [eUp_ne (by omega)]; exact q5, by rw [eUp_ne (by omega)]; exact q6, by rw [if_neg hg, eUp_at], fun j hj => by rw [eUp_ne (by omega)]; exact q7 j (by omega) (by omega) (by omega)⟩, ?_⟩
    rw [decide_eq_false hg]
    by_cases hK : K = 3
    · have hb := hby S (t5 (by omega)).2.1
      refine xCallWV (N := 2) (M2 := m_P_readSemicolon) (pc2 := 1) (ls2 := [some (eR 0)]) (st2 := []) (y := m_P_nextToken) (as := [some (eR 0)]) (w2 := ([pO P, eO 2 [eR 2, eI ln, eSt 20], eA 0 600 bY], c)) rfl q8 ?_
      refine xEqT (N := 4) (x := Q 6) (y := 3) (A := ev m_P_readSemicolon 12 [some (eR 0)] [] ([pO Q, eO 2 [eR 2, eI ln, eSt 20], eA 0 600 bY], c)) (B := ev m_P_readSemicolon 26 [some (eR 0)] [] ([pO Q, eO 2 [eR 2, eI ln, eSt 20], eA 0 600 bY], c)) rfl (wr_id (by omega) (by omega)) (show wr 3 = 3 by decide) (by omega) ?_
      refine xLd (N := 5) (n := 600) (i := Q 4) (F := fun zq => ev m_P_readSemicolon 21 [some (eR 0)] [eI (bY zq)] ([pO Q, eO 2 [eR 2, eI ln, eSt 20], eA 0 600 bY], c)) (k := S) rfl (wr_nat (by omega) (by omega)) (by omega) ?_
      refine xEqF (N := 2) (x := bY S) (y := 59) (A := ev m_P_readSemicolon 34 [some (eR 0)] [] ([pO Q, eO 2 [eR 2, eI ln, eSt 20], eA 0 600 bY], c)) (B := ev m_P_readSemicolon 26 [some (eR 0)] [] ([pO Q, eO 2 [eR 2, eI ln, eSt 20], eA 0 600 bY], c)) rfl (wr_id (by omega) (by omega)) (show wr 59 = 59 by decide) (by omega) ?_
      refine xCallW (N := 3) (M2 := m_P_readSemicolon) (pc2 := 28) (ls2 := [some (eR 0)]) (st2 := []) (y := m_P_fail) (as := [some (eR 0), some (eI 1)]) (w2 := ([pO Q, eO 2 [eR 2, eI ln, eSt 20], eA 0 600 bY], c)) rfl c_fail ?_
      refine xEqT (N := 1) (x := 0) (y := 0) (A := ev m_P_readSemicolon 38 [some (eR 0)] [] ([pO (eUp Q 3 1), eO 2 [eR 2, eI ln, eSt 20], eA 0 600 bY], c)) (B := ev m_P_readSemicolon 34 [some (eR 0)] [] ([pO (eUp Q 3 1), eO 2 [eR 2, eI ln, eSt 20], eA 0 600 bY], c)) rfl (show wr 0 = 0 by decide) (show wr 0 = 0 by decide) (by decide) ?_
      refine xRb (N := 2) (v := 0) (w2 := ([pO (eUp Q 3 1), eO 2 [eR 2, eI ln, eSt 20], eA 0 600 bY], c)) rfl (by decide) ?_
      rfl
    · refine xCallWV (N := 2) (M2 := m_P_readSemicolon) (pc2 := 1) (ls2 := [some (eR 0)]) (st2 := []) (y := m_P_nextToken) (as := [some (eR 0)]) (w2 := ([pO P, eO 2 [eR 2, eI ln, eSt 20], eA 0 600 bY], c)) rfl q8 ?_
      refine xEqF (N := 4) (x := Q 6) (y := 3) (A := ev m_P_readSemicolon 12 [some (eR 0)] [] ([pO Q, eO 2 [eR 2, eI ln, eSt 20], eA 0 600 bY], c)) (B := ev m_P_readSemicolon 26 [some (eR 0)] [] ([pO Q, eO 2 [eR 2, eI ln, eSt 20], eA 0 600 bY], c)) rfl (wr_id (by omega) (by omega)) (show wr 3 = 3 by decide) (by omega) ?_
      refine xCallW (N := 3) (M2 := m_P_readSemicolon) (pc2 := 28) (ls2 := [some (eR 0)]) (st2 := []) (y := m_P_fail) (as := [some (eR 0), some (eI 1)]) (w2 := ([pO Q, eO 2 [eR 2, eI ln, eSt 20], eA 0 600 bY], c)) rfl c_fail ?_
      refine xEqT (N := 1) (x := 0) (y := 0) (A := ev m_P_readSemicolon 38 [some (eR 0)] [] ([pO (eUp Q 3 1), eO 2 [eR 2, eI ln, eSt 20], eA 0 600 bY], c)) (B := ev m_P_readSemicolon 34 [some (eR 0)] [] ([pO (eUp Q 3 1), eO 2 [eR 2, eI ln, eSt 20], eA 0 600 bY], c)) rfl (show wr 0 = 0 by decide) (show wr 0 = 0 by decide) (by decide) ?_
      refine xRb (N := 2) (v := 0) (w2 := ([pO (eUp Q 3 1), eO 2 [eR 2, eI ln, eSt 20], eA 0 600 bY], c)) rfl (by decide) ?_
      rfl
/-- the semicolon is looked at -/
theorem n_semi {P bY : Nat → Int} {B : Nat → Nat} {n S : Nat} {c : Nat × Nat} (hn : n ≤ 600) (hby : ∀ i, i < n → bY i = (B i : Int) ∧ B i < 256) (h14 : P 14 = (S : Int)) (h15 : 0 ≤ P 15 ∧ P 15 ≤ 3) (hS : P 15 = 1 → S < n) (h18 : 0 ≤ P 18 ∧ P 18 ≤ 9) {r : eRes} (hr : ev m_M_finish 33 [some (eR 0)] [] ([mN (ckM P (decide (P 15 = 1 ∧ B S = 59)) 1), eA 0 600 bY], c) = r) : ev m_M_finish 0 [some (eR 0)] [] ([mN P, eA 0 600 bY], c) = r := by
  by_cases hT : P 15 = 1
  · have hb := hby S (hS hT)
    have hl := hS hT
    by_cases h59 : B S = 59
    · rw [decide_eq_true ⟨hT, h59⟩] at hr
      refine xEqT (N := 5) (x := P 15) (y := 1) (A := ev m_M_finish 9 [some (eR 0)] [eR 0] ([mN P, eA 0 600 bY], c)) (B := ev m_M_finish 27 [some (eR 0)] [eR 0] ([mN P, eA 0 600 bY], c)) rfl (wr_id (by omega) (by omega)) (show wr 1 = 1 by decide) (by omega) ?_
      refine xLd (N := 5) (n := 600) (i := P 14) (F := fun zq => ev m_M_finish 18 [some (eR 0)] [eI (bY zq), eR 0] ([mN P, eA 0 600 bY], c)) (k := S) rfl (wr_nat (by omega) (by omega)) (by omega) ?_
      refine xEqT (N := 2) (x := bY S) (y := 59) (A := ev m_M_finish 23 [some (eR 0)] [eR 0] ([mN P, eA 0 600 bY], c)) (B := ev m_M_finish 27 [some (eR 0)] [eR 0] ([mN P, eA 0 600 bY], c)) rfl (wr_id (by omega) (by omega)) (show wr 59 = 59 by decide) (by omega) ?_
      refine xCallWI (N := 4) (v := bI (decide (ckM P true 1 18 = 0))) (M2 := m_M_finish) (pc2 := 29) (ls2 := [some (eR 0)]) (st2 := []) (y := m_M_check) (as := [some (eR 0), some (eI 1), some (eI 1)]) (w2 := ([mN P, eA 0 600 bY], c)) rfl (n_check (b := true) rfl (by omega) h18) (fun r29 hr29 => ?_)
      refine xSeg (N := 1) (r := ev m_M_finish 33 [some (eR 0)] [] ([mN (ckM P true 1), eA 0 600 bY], c)) rfl ?_
      exact hr
    · rw [decide_eq_false (fun h => h59 h.2)] at hr
      refine xEqT (N := 5) (x := P 15) (y := 1) (A := ev m_M_finish 9 [some (eR 0)] [eR 0] ([mN P, eA 0 600 bY], c)) (B := ev m_M_finish 27 [some (eR 0)] [eR 0] ([mN P, eA 0 600 bY], c)) rfl (wr_id (by omega) (by omega)) (show wr 1 = 1 by decide) (by omega) ?_
      refine xLd (N := 5) (n := 600) (i := P 14) (F := fun zq => ev m_M_finish 18 [some (eR 0)] [eI (bY zq), eR 0] ([mN P, eA 0 600 bY], c)) (k := S) rfl (wr_nat (by omega) (by omega)) (by omega) ?_
      refine xEqF (N := 2) (x := bY S) (y := 59) (A := ev m_M_finish 23 [some (eR 0)] [eR 0] ([mN P, eA 0 600 bY], c)) (B := ev m_M_finish 27 [some (eR 0)] [eR 0] ([mN P, eA 0 600 bY], c)) rfl (wr_id (by omega) (by omega)) (show wr 59 = 59 by decide) (by omega) ?_
      refine xCallWI (N := 3) (v := bI (decide (ckM P false 1 18 = 0))) (M2 := m_M_finish) (pc2 := 29) (ls2 := [some (eR 0)]) (st2 := []) (y := m_M_check) (as := [some (eR 0), some (eI 0), some (eI 1)]) (w2 := ([mN P, eA 0 600 bY], c)) rfl (n_check (b := false) rfl (by omega) h18) (fun r29 hr29 => ?_)
      refine xSeg (N := 1) (r := ev m_M_finish 33 [some (eR 0)] [] ([mN (ckM P false 1), eA 0 600 bY], c)) rfl ?_
      exact hr
  · rw [decide_eq_false (fun h => hT h.1)] at hr
    refine xEqF (N := 5) (x := P 15) (y := 1) (A := ev m_M_finish 9 [some (eR 0)] [eR 0] ([mN P, eA 0 600 bY], c)) (B := ev m_M_finish 27 [some (eR 0)] [eR 0] ([mN P, eA 0 600 bY], c)) rfl (wr_id (by omega) (by omega)) (show wr 1 = 1 by decide) (by omega) ?_
    refine xCallWI (N := 3) (v := bI (decide (ckM P false 1 18 = 0))) (M2 := m_M_finish) (pc2 := 29) (ls2 := [some (eR 0)]) (st2 := []) (y := m_M_check) (as := [some (eR 0), some (eI 0), some (eI 1)]) (w2 := ([mN P, eA 0 600 bY], c)) rfl (n_check (b := false) rfl (by omega) h18) (fun r29 hr29 => ?_)
    refine xSeg (N := 1) (r := ev m_M_finish 33 [some (eR 0)] [] ([mN (ckM P false 1), eA 0 600 bY], c)) rfl ?_
    exact hr
