/-! Which word a token is. -/
def isB (B : Nat → Nat) (K S E j : Nat) : Bool := decide (K = 1 ∧ E - S = eLen (eStr j)) && allN (fun p => decide ((B (S + p) : Int) = (eNth (eStr j) p).getD 0)) (eLen (eStr j))
set_option maxRecDepth 100000
theorem isB_m0 {B : Nat → Nat} {K S E : Nat} : isB B K S E 18 = isB B K S E 0 := rfl
theorem c_tokenIs0 {P bY : Nat → Int} {B : Nat → Nat} {n S E K : Nat} {ln : Int} {c : Nat × Nat} (h4 : P 4 = (S : Int)) (h5 : P 5 = (E : Int)) (h6 : P 6 = (K : Int)) (hSE : S ≤ E) (hE : E ≤ n) (hn : n ≤ 600) (hK : K ≤ 3) (hby : ∀ i, i < n → bY i = (B i : Int) ∧ B i < 256) : ev m_P_tokenIs 0 [some (eR 0), some (eSt 0)] [] ([pO P, eO 2 [eR 2, eI ln, eSt 20], eA 0 600 bY], c) = some (.inl (some (eI (bI (isB B K S E 0)))), ([pO P, eO 2 [eR 2, eI ln, eSt 20], eA 0 600 bY], c)) := by
  have hln : eLen (eStr 0) = 4 := rfl
  have hch : ∀ p, p < 4 → 0 ≤ (eNth (eStr 0) p).getD 0 ∧ (eNth (eStr 0) p).getD 0 < 128 := by decide
  have hi : isB B K S E 0 = (decide (K = 1 ∧ E - S = 4) && allN (fun p => decide ((B (S + p) : Int) = (eNth (eStr 0) p).getD 0)) 4) := rfl
  by_cases h1 : K = 1 ∧ E - S = 4
  · rw [hi, decide_eq_true h1, Bool.true_and]
    have hl : ∀ p : Nat, p ≤ 4 → ∀ y : Int, y = (p : Int) → (∀ q, q < p → (B (S + q) : Int) = (eNth (eStr 0) q).getD 0) → ev m_P_tokenIs 28 [some (eR 0), some (eSt 0), some (eI y)] [] ([pO P, eO 2 [eR 2, eI ln, eSt 20], eA 0 600 bY], c) = some (.inl (some (eI (bI (allN (fun p => decide ((B (S + p) : Int) = (eNth (eStr 0) p).getD 0)) 4)))), ([pO P, eO 2 [eR 2, eI ln, eSt 20], eA 0 600 bY], c)) := by
      refine loop_up ?_ ?_
      · intro y hy ha
        refine xLtF (N := 4) (x := y) (y := 4) (A := ev m_P_tokenIs 36 [some (eR 0), some (eSt 0), some (eI y)] [] ([pO P, eO 2 [eR 2, eI ln, eSt 20], eA 0 600 bY], c)) (B := ev m_P_tokenIs 63 [some (eR 0), some (eSt 0), some (eI y)] [] ([pO P, eO 2 [eR 2, eI ln, eSt 20], eA 0 600 bY], c)) rfl (wr_id (by omega) (by omega)) (show wr 4 = 4 by decide) (by omega) ?_
        refine xRb (N := 2) (v := 1) (w2 := ([pO P, eO 2 [eR 2, eI ln, eSt 20], eA 0 600 bY], c)) rfl (by decide) ?_
        exact lf (bT (allN_iff.mpr (fun q hq => decide_eq_true (ha q hq))))
      · intro p hp ih y hy ha
        have hb := hby (S + p) (by omega)
        have hcp := hch p hp
        refine xLtT (N := 4) (x := y) (y := 4) (A := ev m_P_tokenIs 36 [some (eR 0), some (eSt 0), some (eI y)] [] ([pO P, eO 2 [eR 2, eI ln, eSt 20], eA 0 600 bY], c)) (B := ev m_P_tokenIs 63 [some (eR 0), some (eSt 0), some (eI y)] [] ([pO P, eO 2 [eR 2, eI ln, eSt 20], eA 0 600 bY], c)) rfl (wr_id (by omega) (by omega)) (show wr 4 = 4 by decide) (by omega) ?_
        refine xLd (N := 7) (n := 600) (i := (P 4) + y) (F := fun zq => ev m_P_tokenIs 47 [some (eR 0), some (eSt 0), some (eI y)] [eI (bY zq)] ([pO P, eO 2 [eR 2, eI ln, eSt 20], eA 0 600 bY], c)) (k := S + p) rfl (wr_nat (by omega) (by omega)) (by omega) ?_
        refine xLd (N := 3) (n := eLen (eStr 0)) (i := y) (F := fun zq => ev m_P_tokenIs 52 [some (eR 0), some (eSt 0), some (eI y)] [eI ((eNth (eStr 0) zq).getD 0), eI (bY (S + p))] ([pO P, eO 2 [eR 2, eI ln, eSt 20], eA 0 600 bY], c)) (k := p) rfl (wr_nat (by omega) (by omega)) (by omega) ?_
        refine xEq (N := 1) (x := bY (S + p)) (y := (eNth (eStr 0) p).getD 0) (A := ev m_P_tokenIs 57 [some (eR 0), some (eSt 0), some (eI y)] [] ([pO P, eO 2 [eR 2, eI ln, eSt 20], eA 0 600 bY], c)) (B := ev m_P_tokenIs 55 [some (eR 0), some (eSt 0), some (eI y)] [] ([pO P, eO 2 [eR 2, eI ln, eSt 20], eA 0 600 bY], c)) rfl (wr_id (by omega) (by omega)) (wr_id (by omega) (by omega)) (fun h52 => ?_) (fun h52 => ?_)
        · refine xSeg (N := 2) (r := ev m_P_tokenIs 28 [some (eR 0), some (eSt 0), some (eI (y + 1))] [] ([pO P, eO 2 [eR 2, eI ln, eSt 20], eA 0 600 bY], c)) rfl ?_
          refine ih _ (by omega) (fun q hq => ?_)
          by_cases hqp : q = p
          · subst hqp; omega
          · exact ha q (by omega)
        · refine xRb (N := 2) (v := 0) (w2 := ([pO P, eO 2 [eR 2, eI ln, eSt 20], eA 0 600 bY], c)) rfl (by decide) ?_
          exact lf (bF (allN_F hp (decide_eq_false (by omega))))
    refine xEqT (N := 4) (x := P 6) (y := 1) (A := ev m_P_tokenIs 8 [some (eR 0), some (eSt 0)] [] ([pO P, eO 2 [eR 2, eI ln, eSt 20], eA 0 600 bY], c)) (B := ev m_P_tokenIs 24 [some (eR 0), some (eSt 0)] [] ([pO P, eO 2 [eR 2, eI ln, eSt 20], eA 0 600 bY], c)) rfl (wr_id (by omega) (by omega)) (show wr 1 = 1 by decide) (by omega) ?_
    refine xEqT (N := 8) (x := (P 5) - (P 4)) (y := 4) (A := ev m_P_tokenIs 26 [some (eR 0), some (eSt 0)] [] ([pO P, eO 2 [eR 2, eI ln, eSt 20], eA 0 600 bY], c)) (B := ev m_P_tokenIs 24 [some (eR 0), some (eSt 0)] [] ([pO P, eO 2 [eR 2, eI ln, eSt 20], eA 0 600 bY], c)) rfl (wr_id (by omega) (by omega)) (show wr 4 = 4 by decide) (by omega) ?_
    refine xSeg (N := 2) (r := ev m_P_tokenIs 28 [some (eR 0), some (eSt 0), some (eI 0)] [] ([pO P, eO 2 [eR 2, eI ln, eSt 20], eA 0 600 bY], c)) rfl ?_
    exact hl 0 (Nat.zero_le _) _ rfl (fun k hk => absurd hk (by omega))
  · rw [hi, decide_eq_false h1, Bool.false_and]
    refine xEq (N := 4) (x := P 6) (y := 1) (A := ev m_P_tokenIs 8 [some (eR 0), some (eSt 0)] [] ([pO P, eO 2 [eR 2, eI ln, eSt 20], eA 0 600 bY], c)) (B := ev m_P_tokenIs 24 [some (eR 0), some (eSt 0)] [] ([pO P, eO 2 [eR 2, eI ln, eSt 20], eA 0 600 bY], c)) rfl (wr_id (by omega) (by omega)) (show wr 1 = 1 by decide) (fun h5 => ?_) (fun h5 => ?_)
    · refine xEq (N := 8) (x := (P 5) - (P 4)) (y := 4) (A := ev m_P_tokenIs 26 [some (eR 0), some (eSt 0)] [] ([pO P, eO 2 [eR 2, eI ln, eSt 20], eA 0 600 bY], c)) (B := ev m_P_tokenIs 24 [some (eR 0), some (eSt 0)] [] ([pO P, eO 2 [eR 2, eI ln, eSt 20], eA 0 600 bY], c)) rfl (wr_id (by omega) (by omega)) (show wr 4 = 4 by decide) (fun h21 => ?_) (fun h21 => ?_)
      · refine xSeg (N := 2) (r := ev m_P_tokenIs 28 [some (eR 0), some (eSt 0), some (eI 0)] [] ([pO P, eO 2 [eR 2, eI ln, eSt 20], eA 0 600 bY], c)) rfl ?_
        exact absurd h1 (by omega)
      · refine xRb (N := 2) (v := 0) (w2 := ([pO P, eO 2 [eR 2, eI ln, eSt 20], eA 0 600 bY], c)) rfl (by decide) ?_
        rfl
    · refine xRb (N := 2) (v := 0) (w2 := ([pO P, eO 2 [eR 2, eI ln, eSt 20], eA 0 600 bY], c)) rfl (by decide) ?_
      rfl
theorem n_is0 {P bY : Nat → Int} {B : Nat → Nat} {n S E K : Nat} {c : Nat × Nat} (h14 : P 14 = (S : Int)) (h15 : P 15 = ((tkT K : Nat) : Int)) (h17 : P 17 = ((if K = 1 then E - S else 0 : Nat) : Int)) (hSE : S ≤ E) (hE : E ≤ n) (hn : n ≤ 600) (hK : K ≤ 3) (hby : ∀ i, i < n → bY i = (B i : Int) ∧ B i < 256) : ev m_M_is 0 [some (eR 0), some (eSt 18)] [] ([mN P, eA 0 600 bY], c) = some (.inl (some (eI (bI (isB B K S E 18)))), ([mN P, eA 0 600 bY], c)) := by
  have hln : eLen (eStr 18) = 4 := rfl
  have hch : ∀ p, p < 4 → 0 ≤ (eNth (eStr 18) p).getD 0 ∧ (eNth (eStr 18) p).getD 0 < 128 := by decide
  have hi : isB B K S E 18 = (decide (K = 1 ∧ E - S = 4) && allN (fun p => decide ((B (S + p) : Int) = (eNth (eStr 18) p).getD 0)) 4) := rfl
  have hT : P 15 = 3 ↔ K = 1 := by rw [h15]; unfold tkT; split <;> (try split) <;> (try split) <;> omega
  by_cases h1 : K = 1 ∧ E - S = 4
  · rw [hi, decide_eq_true h1, Bool.true_and]
    rw [if_pos h1.1] at h17
    have hT2 := hT.mpr h1.1
    have hl : ∀ p : Nat, p ≤ 4 → ∀ y : Int, y = (p : Int) → (∀ q, q < p → (B (S + q) : Int) = (eNth (eStr 18) q).getD 0) → ev m_M_is 23 [some (eR 0), some (eSt 18), some (eI y)] [] ([mN P, eA 0 600 bY], c) = some (.inl (some (eI (bI (allN (fun p => decide ((B (S + p) : Int) = (eNth (eStr 18) p).getD 0)) 4)))), ([mN P, eA 0 600 bY], c)) := by
      refine loop_up ?_ ?_
      · intro y hy ha
        refine xLtF (N := 4) (x := y) (y := P 17) (A := ev m_M_is 31 [some (eR 0), some (eSt 18), some (eI y)] [] ([mN P, eA 0 600 bY], c)) (B := ev m_M_is 58 [some (eR 0), some (eSt 18), some (eI y)] [] ([mN P, eA 0 600 bY], c)) rfl (wr_id (by omega) (by omega)) (wr_id (by omega) (by omega)) (by omega) ?_
        refine xRb (N := 2) (v := 1) (w2 := ([mN P, eA 0 600 bY], c)) rfl (by decide) ?_
        exact lf (bT (allN_iff.mpr (fun q hq => decide_eq_true (ha q hq))))
      · intro p hp ih y hy ha
        have hb := hby (S + p) (by omega)
        have hcp := hch p hp
        refine xLtT (N := 4) (x := y) (y := P 17) (A := ev m_M_is 31 [some (eR 0), some (eSt 18), some (eI y)] [] ([mN P, eA 0 600 bY], c)) (B := ev m_M_is 58 [some (eR 0), some (eSt 18), some (eI y)] [] ([mN P, eA 0 600 bY], c)) rfl (wr_id (by omega) (by omega)) (wr_id (by omega) (by omega)) (by omega) ?_
        refine xLd (N := 7) (n := 600) (i := (P 14) + y) (F := fun zq => ev m_M_is 42 [some (eR 0), some (eSt 18), some (eI y)] [eI (bY zq)] ([mN P, eA 0 600 bY], c)) (k := S + p) rfl (wr_nat (by omega) (by omega)) (by omega) ?_
        refine xLd (N := 3) (n := eLen (eStr 18)) (i := y) (F := fun zq => ev m_M_is 47 [some (eR 0), some (eSt 18), some (eI y)] [eI ((eNth (eStr 18) zq).getD 0), eI (bY (S + p))] ([mN P, eA 0 600 bY], c)) (k := p) rfl (wr_nat (by omega) (by omega)) (by omega) ?_
        refine xEq (N := 1) (x := bY (S + p)) (y := (eNth (eStr 18) p).getD 0) (A := ev m_M_is 52 [some (eR 0), some (eSt 18), some (eI y)] [] ([mN P, eA 0 600 bY], c)) (B := ev m_M_is 50 [some (eR 0), some (eSt 18), some (eI y)] [] ([mN P, eA 0 600 bY], c)) rfl (wr_id (by omega) (by omega)) (wr_id (by omega) (by omega)) (fun h47 => ?_) (fun h47 => ?_)
        · refine xSeg (N := 2) (r := ev m_M_is 23 [some (eR 0), some (eSt 18), some (eI (y + 1))] [] ([mN P, eA 0 600 bY], c)) rfl ?_
          refine ih _ (by omega) (fun q hq => ?_)
          by_cases hqp : q = p
          · subst hqp; omega
          · exact ha q (by omega)
        · refine xRb (N := 2) (v := 0) (w2 := ([mN P, eA 0 600 bY], c)) rfl (by decide) ?_
          exact lf (bF (allN_F hp (decide_eq_false (by omega))))
    refine xEqT (N := 4) (x := P 15) (y := 3) (A := ev m_M_is 8 [some (eR 0), some (eSt 18)] [] ([mN P, eA 0 600 bY], c)) (B := ev m_M_is 19 [some (eR 0), some (eSt 18)] [] ([mN P, eA 0 600 bY], c)) rfl (wr_id (by omega) (by omega)) (show wr 3 = 3 by decide) (by omega) ?_
    refine xEqT (N := 5) (x := P 17) (y := 4) (A := ev m_M_is 21 [some (eR 0), some (eSt 18)] [] ([mN P, eA 0 600 bY], c)) (B := ev m_M_is 19 [some (eR 0), some (eSt 18)] [] ([mN P, eA 0 600 bY], c)) rfl (wr_id (by omega) (by omega)) (show wr 4 = 4 by decide) (by omega) ?_
    refine xSeg (N := 2) (r := ev m_M_is 23 [some (eR 0), some (eSt 18), some (eI 0)] [] ([mN P, eA 0 600 bY], c)) rfl ?_
    exact hl 0 (Nat.zero_le _) _ rfl (fun k hk => absurd hk (by omega))
  · rw [hi, decide_eq_false h1, Bool.false_and]
    have h17b : K = 1 → P 17 = ((E - S : Nat) : Int) := fun hk => by rw [h17, if_pos hk]
    by_cases hk : K = 1
    · have h17c := h17b hk
      have hT2 := hT.mpr hk
      refine xEqT (N := 4) (x := P 15) (y := 3) (A := ev m_M_is 8 [some (eR 0), some (eSt 18)] [] ([mN P, eA 0 600 bY], c)) (B := ev m_M_is 19 [some (eR 0), some (eSt 18)] [] ([mN P, eA 0 600 bY], c)) rfl (wr_id (by omega) (by omega)) (show wr 3 = 3 by decide) (by omega) ?_
      refine xEqF (N := 5) (x := P 17) (y := 4) (A := ev m_M_is 21 [some (eR 0), some (eSt 18)] [] ([mN P, eA 0 600 bY], c)) (B := ev m_M_is 19 [some (eR 0), some (eSt 18)] [] ([mN P, eA 0 600 bY], c)) rfl (wr_id (by omega) (by omega)) (show wr 4 = 4 by decide) (by omega) ?_
      refine xRb (N := 2) (v := 0) (w2 := ([mN P, eA 0 600 bY], c)) rfl (by decide) ?_
      rfl
    · have hT2 : P 15 ≠ 3 := fun h => hk (hT.mp h)
      have h15b : P 15 = 0 ∨ P 15 = 1 ∨ P 15 = 2 ∨ P 15 = 3 := by rw [h15]; unfold tkT; split <;> (try split) <;> (try split) <;> omega
      refine xEqF (N := 4) (x := P 15) (y := 3) (A := ev m_M_is 8 [some (eR 0), some (eSt 18)] [] ([mN P, eA 0 600 bY], c)) (B := ev m_M_is 19 [some (eR 0), some (eSt 18)] [] ([mN P, eA 0 600 bY], c)) rfl (wr_id (by omega) (by omega)) (show wr 3 = 3 by decide) (by omega) ?_
      refine xRb (N := 2) (v := 0) (w2 := ([mN P, eA 0 600 bY], c)) rfl (by decide) ?_
      rfl
theorem isB_m1 {B : Nat → Nat} {K S E : Nat} : isB B K S E 12 = isB B K S E 1 := rfl
theorem c_tokenIs1 {P bY : Nat → Int} {B : Nat → Nat} {n S E K : Nat} {ln : Int} {c : Nat × Nat} (h4 : P 4 = (S : Int)) (h5 : P 5 = (E : Int)) (h6 : P 6 = (K : Int)) (hSE : S ≤ E) (hE : E ≤ n) (hn : n ≤ 600) (hK : K ≤ 3) (hby : ∀ i, i < n → bY i = (B i : Int) ∧ B i < 256) : ev m_P_tokenIs 0 [some (eR 0), some (eSt 1)] [] ([pO P, eO 2 [eR 2, eI ln, eSt 20], eA 0 600 bY], c) = some (.inl (some (eI (bI (isB B K S E 1)))), ([pO P, eO 2 [eR 2, eI ln, eSt 20], eA 0 600 bY], c)) := by
  have hln : eLen (eStr 1) = 5 := rfl
  have hch : ∀ p, p < 5 → 0 ≤ (eNth (eStr 1) p).getD 0 ∧ (eNth (eStr 1) p).getD 0 < 128 := by decide
  have hi : isB B K S E 1 = (decide (K = 1 ∧ E - S = 5) && allN (fun p => decide ((B (S + p) : Int) = (eNth (eStr 1) p).getD 0)) 5) := rfl
  by_cases h1 : K = 1 ∧ E - S = 5
  · rw [hi, decide_eq_true h1, Bool.true_and]
    have hl : ∀ p : Nat, p ≤ 5 → ∀ y : Int, y = (p : Int) → (∀ q, q < p → (B (S + q) : Int) = (eNth (eStr 1) q).getD 0) → ev m_P_tokenIs 28 [some (eR 0), some (eSt 1), some (eI y)] [] ([pO P, eO 2 [eR 2, eI ln, eSt 20], eA 0 600 bY], c) = some (.inl (some (eI (bI (allN (fun p => decide ((B (S + p) : Int) = (eNth (eStr 1) p).getD 0)) 5)))), ([pO P, eO 2 [eR 2, eI ln, eSt 20], eA 0 600 bY], c)) := by
      refine loop_up ?_ ?_
      · intro y hy ha
        refine xLtF (N := 4) (x := y) (y := 5) (A := ev m_P_tokenIs 36 [some (eR 0), some (eSt 1), some (eI y)] [] ([pO P, eO 2 [eR 2, eI ln, eSt 20], eA 0 600 bY], c)) (B := ev m_P_tokenIs 63 [some (eR 0), some (eSt 1), some (eI y)] [] ([pO P, eO 2 [eR 2, eI ln, eSt 20], eA 0 600 bY], c)) rfl (wr_id (by omega) (by omega)) (show wr 5 = 5 by decide) (by omega) ?_
        refine xRb (N := 2) (v := 1) (w2 := ([pO P, eO 2 [eR 2, eI ln, eSt 20], eA 0 600 bY], c)) rfl (by decide) ?_
        exact lf (bT (allN_iff.mpr (fun q hq => decide_eq_true (ha q hq))))
      · intro p hp ih y hy ha
        have hb := hby (S + p) (by omega)
        have hcp := hch p hp
        refine xLtT (N := 4) (x := y) (y := 5) (A := ev m_P_tokenIs 36 [some (eR 0), some (eSt 1), some (eI y)] [] ([pO P, eO 2 [eR 2, eI ln, eSt 20], eA 0 600 bY], c)) (B := ev m_P_tokenIs 63 [some (eR 0), some (eSt 1), some (eI y)] [] ([pO P, eO 2 [eR 2, eI ln, eSt 20], eA 0 600 bY], c)) rfl (wr_id (by omega) (by omega)) (show wr 5 = 5 by decide) (by omega) ?_
        refine xLd (N := 7) (n := 600) (i := (P 4) + y) (F := fun zq => ev m_P_tokenIs 47 [some (eR 0), some (eSt 1), some (eI y)] [eI (bY zq)] ([pO P, eO 2 [eR 2, eI ln, eSt 20], eA 0 600 bY], c)) (k := S + p) rfl (wr_nat (by omega) (by omega)) (by omega) ?_
        refine xLd (N := 3) (n := eLen (eStr 1)) (i := y) (F := fun zq => ev m_P_tokenIs 52 [some (eR 0), some (eSt 1), some (eI y)] [eI ((eNth (eStr 1) zq).getD 0), eI (bY (S + p))] ([pO P, eO 2 [eR 2, eI ln, eSt 20], eA 0 600 bY], c)) (k := p) rfl (wr_nat (by omega) (by omega)) (by omega) ?_
        refine xEq (N := 1) (x := bY (S + p)) (y := (eNth (eStr 1) p).getD 0) (A := ev m_P_tokenIs 57 [some (eR 0), some (eSt 1), some (eI y)] [] ([pO P, eO 2 [eR 2, eI ln, eSt 20], eA 0 600 bY], c)) (B := ev m_P_tokenIs 55 [some (eR 0), some (eSt 1), some (eI y)] [] ([pO P, eO 2 [eR 2, eI ln, eSt 20], eA 0 600 bY], c)) rfl (wr_id (by omega) (by omega)) (wr_id (by omega) (by omega)) (fun h52 => ?_) (fun h52 => ?_)
        · refine xSeg (N := 2) (r := ev m_P_tokenIs 28 [some (eR 0), some (eSt 1), some (eI (y + 1))] [] ([pO P, eO 2 [eR 2, eI ln, eSt 20], eA 0 600 bY], c)) rfl ?_
          refine ih _ (by omega) (fun q hq => ?_)
          by_cases hqp : q = p
          · subst hqp; omega
          · exact ha q (by omega)
        · refine xRb (N := 2) (v := 0) (w2 := ([pO P, eO 2 [eR 2, eI ln, eSt 20], eA 0 600 bY], c)) rfl (by decide) ?_
          exact lf (bF (allN_F hp (decide_eq_false (by omega))))
    refine xEqT (N := 4) (x := P 6) (y := 1) (A := ev m_P_tokenIs 8 [some (eR 0), some (eSt 1)] [] ([pO P, eO 2 [eR 2, eI ln, eSt 20], eA 0 600 bY], c)) (B := ev m_P_tokenIs 24 [some (eR 0), some (eSt 1)] [] ([pO P, eO 2 [eR 2, eI ln, eSt 20], eA 0 600 bY], c)) rfl (wr_id (by omega) (by omega)) (show wr 1 = 1 by decide) (by omega) ?_
    refine xEqT (N := 8) (x := (P 5) - (P 4)) (y := 5) (A := ev m_P_tokenIs 26 [some (eR 0), some (eSt 1)] [] ([pO P, eO 2 [eR 2, eI ln, eSt 20], eA 0 600 bY], c)) (B := ev m_P_tokenIs 24 [some (eR 0), some (eSt 1)] [] ([pO P, eO 2 [eR 2, eI ln, eSt 20], eA 0 600 bY], c)) rfl (wr_id (by omega) (by omega)) (show wr 5 = 5 by decide) (by omega) ?_
    refine xSeg (N := 2) (r := ev m_P_tokenIs 28 [some (eR 0), some (eSt 1), some (eI 0)] [] ([pO P, eO 2 [eR 2, eI ln, eSt 20], eA 0 600 bY], c)) rfl ?_
    exact hl 0 (Nat.zero_le _) _ rfl (fun k hk => absurd hk (by omega))
  · rw [hi, decide_eq_false h1, Bool.false_and]
    refine xEq (N := 4) (x := P 6) (y := 1) (A := ev m_P_tokenIs 8 [some (eR 0), some (eSt 1)] [] ([pO P, eO 2 [eR 2, eI ln, eSt 20], eA 0 600 bY], c)) (B := ev m_P_tokenIs 24 [some (eR 0), some (eSt 1)] [] ([pO P, eO 2 [eR 2, eI ln, eSt 20], eA 0 600 bY], c)) rfl (wr_id (by omega) (by omega)) (show wr 1 = 1 by decide) (fun h5 => ?_) (fun h5 => ?_)
    · refine xEq (N := 8) (x := (P 5) - (P 4)) (y := 5) (A := ev m_P_tokenIs 26 [some (eR 0), some (eSt 1)] [] ([pO P, eO 2 [eR 2, eI ln, eSt 20], eA 0 600 bY], c)) (B := ev m_P_tokenIs 24 [some (eR 0), some (eSt 1)] [] ([pO P, eO 2 [eR 2, eI ln, eSt 20], eA 0 600 bY], c)) rfl (wr_id (by omega) (by omega)) (show wr 5 = 5 by decide) (fun h21 => ?_) (fun h21 => ?_)
      · refine xSeg (N := 2) (r := ev m_P_tokenIs 28 [some (eR 0), some (eSt 1), some (eI 0)] [] ([pO P, eO 2 [eR 2, eI ln, eSt 20], eA 0 600 bY], c)) rfl ?_
        exact absurd h1 (by omega)
      · refine xRb (N := 2) (v := 0) (w2 := ([pO P, eO 2 [eR 2, eI ln, eSt 20], eA 0 600 bY], c)) rfl (by decide) ?_
        rfl
    · refine xRb (N := 2) (v := 0) (w2 := ([pO P, eO 2 [eR 2, eI ln, eSt 20], eA 0 600 bY], c)) rfl (by decide) ?_
      rfl
theorem n_is1 {P bY : Nat → Int} {B : Nat → Nat} {n S E K : Nat} {c : Nat × Nat} (h14 : P 14 = (S : Int)) (h15 : P 15 = ((tkT K : Nat) : Int)) (h17 : P 17 = ((if K = 1 then E - S else 0 : Nat) : Int)) (hSE : S ≤ E) (hE : E ≤ n) (hn : n ≤ 600) (hK : K ≤ 3) (hby : ∀ i, i < n → bY i = (B i : Int) ∧ B i < 256) : ev m_M_is 0 [some (eR 0), some (eSt 12)] [] ([mN P, eA 0 600 bY], c) = some (.inl (some (eI (bI (isB B K S E 12)))), ([mN P, eA 0 600 bY], c)) := by
  have hln : eLen (eStr 12) = 5 := rfl
  have hch : ∀ p, p < 5 → 0 ≤ (eNth (eStr 12) p).getD 0 ∧ (eNth (eStr 12) p).getD 0 < 128 := by decide
  have hi : isB B K S E 12 = (decide (K = 1 ∧ E - S = 5) && allN (fun p => decide ((B (S + p) : Int) = (eNth (eStr 12) p).getD 0)) 5) := rfl
  have hT : P 15 = 3 ↔ K = 1 := by rw [h15]; unfold tkT; split <;> (try split) <;> (try split) <;> omega
  by_cases h1 : K = 1 ∧ E - S = 5
  · rw [hi, decide_eq_true h1, Bool.true_and]
    rw [if_pos h1.1] at h17
    have hT2 := hT.mpr h1.1
    have hl : ∀ p : Nat, p ≤ 5 → ∀ y : Int, y = (p : Int) → (∀ q, q < p → (B (S + q) : Int) = (eNth (eStr 12) q).getD 0) → ev m_M_is 23 [some (eR 0), some (eSt 12), some (eI y)] [] ([mN P, eA 0 600 bY], c) = some (.inl (some (eI (bI (allN (fun p => decide ((B (S + p) : Int) = (eNth (eStr 12) p).getD 0)) 5)))), ([mN P, eA 0 600 bY], c)) := by
      refine loop_up ?_ ?_
      · intro y hy ha
        refine xLtF (N := 4) (x := y) (y := P 17) (A := ev m_M_is 31 [some (eR 0), some (eSt 12), some (eI y)] [] ([mN P, eA 0 600 bY], c)) (B := ev m_M_is 58 [some (eR 0), some (eSt 12), some (eI y)] [] ([mN P, eA 0 600 bY], c)) rfl (wr_id (by omega) (by omega)) (wr_id (by omega) (by omega)) (by omega) ?_
        refine xRb (N := 2) (v := 1) (w2 := ([mN P, eA 0 600 bY], c)) rfl (by decide) ?_
        exact lf (bT (allN_iff.mpr (fun q hq => decide_eq_true (ha q hq))))
      · intro p hp ih y hy ha
        have hb := hby (S + p) (by omega)
        have hcp := hch p hp
        refine xLtT (N := 4) (x := y) (y := P 17) (A := ev m_M_is 31 [some (eR 0), some (eSt 12), some (eI y)] [] ([mN P, eA 0 600 bY], c)) (B := ev m_M_is 58 [some (eR 0), some (eSt 12), some (eI y)] [] ([mN P, eA 0 600 bY], c)) rfl (wr_id (by omega) (by omega)) (wr_id (by omega) (by omega)) (by omega) ?_
        refine xLd (N := 7) (n := 600) (i := (P 14) + y) (F := fun zq => ev m_M_is 42 [some (eR 0), some (eSt 12), some (eI y)] [eI (bY zq)] ([mN P, eA 0 600 bY], c)) (k := S + p) rfl (wr_nat (by omega) (by omega)) (by omega) ?_
        refine xLd (N := 3) (n := eLen (eStr 12)) (i := y) (F := fun zq => ev m_M_is 47 [some (eR 0), some (eSt 12), some (eI y)] [eI ((eNth (eStr 12) zq).getD 0), eI (bY (S + p))] ([mN P, eA 0 600 bY], c)) (k := p) rfl (wr_nat (by omega) (by omega)) (by omega) ?_
        refine xEq (N := 1) (x := bY (S + p)) (y := (eNth (eStr 12) p).getD 0) (A := ev m_M_is 52 [some (eR 0), some (eSt 12), some (eI y)] [] ([mN P, eA 0 600 bY], c)) (B := ev m_M_is 50 [some (eR 0), some (eSt 12), some (eI y)] [] ([mN P, eA 0 600 bY], c)) rfl (wr_id (by omega) (by omega)) (wr_id (by omega) (by omega)) (fun h47 => ?_) (fun h47 => ?_)
        · refine xSeg (N := 2) (r := ev m_M_is 23 [some (eR 0), some (eSt 12), some (eI (y + 1))] [] ([mN P, eA 0 600 bY], c)) rfl ?_
          refine ih _ (by omega) (fun q hq => ?_)
          by_cases hqp : q = p
          · subst hqp; omega
          · exact ha q (by omega)
        · refine xRb (N := 2) (v := 0) (w2 := ([mN P, eA 0 600 bY], c)) rfl (by decide) ?_
          exact lf (bF (allN_F hp (decide_eq_false (by omega))))
    refine xEqT (N := 4) (x := P 15) (y := 3) (A := ev m_M_is 8 [some (eR 0), some (eSt 12)] [] ([mN P, eA 0 600 bY], c)) (B := ev m_M_is 19 [some (eR 0), some (eSt 12)] [] ([mN P, eA 0 600 bY], c)) rfl (wr_id (by omega) (by omega)) (show wr 3 = 3 by decide) (by omega) ?_
    refine xEqT (N := 5) (x := P 17) (y := 5) (A := ev m_M_is 21 [some (eR 0), some (eSt 12)] [] ([mN P, eA 0 600 bY], c)) (B := ev m_M_is 19 [some (eR 0), some (eSt 12)] [] ([mN P, eA 0 600 bY], c)) rfl (wr_id (by omega) (by omega)) (show wr 5 = 5 by decide) (by omega) ?_
    refine xSeg (N := 2) (r := ev m_M_is 23 [some (eR 0), some (eSt 12), some (eI 0)] [] ([mN P, eA 0 600 bY], c)) rfl ?_
    exact hl 0 (Nat.zero_le _) _ rfl (fun k hk => absurd hk (by omega))
  · rw [hi, decide_eq_false h1, Bool.false_and]
    have h17b : K = 1 → P 17 = ((E - S : Nat) : Int) := fun hk => by rw [h17, if_pos hk]
    by_cases hk : K = 1
    · have h17c := h17b hk
      have hT2 := hT.mpr hk
      refine xEqT (N := 4) (x := P 15) (y := 3) (A := ev m_M_is 8 [some (eR 0), some (eSt 12)] [] ([mN P, eA 0 600 bY], c)) (B := ev m_M_is 19 [some (eR 0), some (eSt 12)] [] ([mN P, eA 0 600 bY], c)) rfl (wr_id (by omega) (by omega)) (show wr 3 = 3 by decide) (by omega) ?_
      refine xEqF (N := 5) (x := P 17) (y := 5) (A := ev m_M_is 21 [some (eR 0), some (eSt 12)] [] ([mN P, eA 0 600 bY], c)) (B := ev m_M_is 19 [some (eR 0), some (eSt 12)] [] ([mN P, eA 0 600 bY], c)) rfl (wr_id (by omega) (by omega)) (show wr 5 = 5 by decide) (by omega) ?_
      refine xRb (N := 2) (v := 0) (w2 := ([mN P, eA 0 600 bY], c)) rfl (by decide) ?_
      rfl
    · have hT2 : P 15 ≠ 3 := fun h => hk (hT.mp h)
      have h15b : P 15 = 0 ∨ P 15 = 1 ∨ P 15 = 2 ∨ P 15 = 3 := by rw [h15]; unfold tkT; split <;> (try split) <;> (try split) <;> omega
      refine xEqF (N := 4) (x := P 15) (y := 3) (A := ev m_M_is 8 [some (eR 0), some (eSt 12)] [] ([mN P, eA 0 600 bY], c)) (B := ev m_M_is 19 [some (eR 0), some (eSt 12)] [] ([mN P, eA 0 600 bY], c)) rfl (wr_id (by omega) (by omega)) (show wr 3 = 3 by decide) (by omega) ?_
      refine xRb (N := 2) (v := 0) (w2 := ([mN P, eA 0 600 bY], c)) rfl (by decide) ?_
      rfl
theorem isB_m2 {B : Nat → Nat} {K S E : Nat} : isB B K S E 13 = isB B K S E 2 := rfl
theorem c_tokenIs2 {P bY : Nat → Int} {B : Nat → Nat} {n S E K : Nat} {ln : Int} {c : Nat × Nat} (h4 : P 4 = (S : Int)) (h5 : P 5 = (E : Int)) (h6 : P 6 = (K : Int)) (hSE : S ≤ E) (hE : E ≤ n) (hn : n ≤ 600) (hK : K ≤ 3) (hby : ∀ i, i < n → bY i = (B i : Int) ∧ B i < 256) : ev m_P_tokenIs 0 [some (eR 0), some (eSt 2)] [] ([pO P, eO 2 [eR 2, eI ln, eSt 20], eA 0 600 bY], c) = some (.inl (some (eI (bI (isB B K S E 2)))), ([pO P, eO 2 [eR 2, eI ln, eSt 20], eA 0 600 bY], c)) := by
  have hln : eLen (eStr 2) = 4 := rfl
  have hch : ∀ p, p < 4 → 0 ≤ (eNth (eStr 2) p).getD 0 ∧ (eNth (eStr 2) p).getD 0 < 128 := by decide
  have hi : isB B K S E 2 = (decide (K = 1 ∧ E - S = 4) && allN (fun p => decide ((B (S + p) : Int) = (eNth (eStr 2) p).getD 0)) 4) := rfl
  by_cases h1 : K = 1 ∧ E - S = 4
  · rw [hi, decide_eq_true h1, Bool.true_and]
    have hl : ∀ p : Nat, p ≤ 4 → ∀ y : Int, y = (p : Int) → (∀ q, q < p → (B (S + q) : Int) = (eNth (eStr 2) q).getD 0) → ev m_P_tokenIs 28 [some (eR 0), some (eSt 2), some (eI y)] [] ([pO P, eO 2 [eR 2, eI ln, eSt 20], eA 0 600 bY], c) = some (.inl (some (eI (bI (allN (fun p => decide ((B (S + p) : Int) = (eNth (eStr 2) p).getD 0)) 4)))), ([pO P, eO 2 [eR 2, eI ln, eSt 20], eA 0 600 bY], c)) := by
      refine loop_up ?_ ?_
      · intro y hy ha
        refine xLtF (N := 4) (x := y) (y := 4) (A := ev m_P_tokenIs 36 [some (eR 0), some (eSt 2), some (eI y)] [] ([pO P, eO 2 [eR 2, eI ln, eSt 20], eA 0 600 bY], c)) (B := ev m_P_tokenIs 63 [some (eR 0), some (eSt 2), some (eI y)] [] ([pO P, eO 2 [eR 2, eI ln, eSt 20], eA 0 600 bY], c)) rfl (wr_id (by omega) (by omega)) (show wr 4 = 4 by decide) (by omega) ?_
        refine xRb (N := 2) (v := 1) (w2 := ([pO P, eO 2 [eR 2, eI ln, eSt 20], eA 0 600 bY], c)) rfl (by decide) ?_
        exact lf (bT (allN_iff.mpr (fun q hq => decide_eq_true (ha q hq))))
      · intro p hp ih y hy ha
        have hb := hby (S + p) (by omega)
        have hcp := hch p hp
        refine xLtT (N := 4) (x := y) (y := 4) (A := ev m_P_tokenIs 36 [some (eR 0), some (eSt 2), some (eI y)] [] ([pO P, eO 2 [eR 2, eI ln, eSt 20], eA 0 600 bY], c)) (B := ev m_P_tokenIs 63 [some (eR 0), some (eSt 2), some (eI y)] [] ([pO P, eO 2 [eR 2, eI ln, eSt 20], eA 0 600 bY], c)) rfl (wr_id (by omega) (by omega)) (show wr 4 = 4 by decide) (by omega) ?_
        refine xLd (N := 7) (n := 600) (i := (P 4) + y) (F := fun zq => ev m_P_tokenIs 47 [some (eR 0), some (eSt 2), some (eI y)] [eI (bY zq)] ([pO P, eO 2 [eR 2, eI ln, eSt 20], eA 0 600 bY], c)) (k := S + p) rfl (wr_nat (by omega) (by omega)) (by omega) ?_
        refine xLd (N := 3) (n := eLen (eStr 2)) (i := y) (F := fun zq => ev m_P_tokenIs 52 [some (eR 0), some (eSt 2), some (eI y)] [eI ((eNth (eStr 2) zq).getD 0), eI (bY (S + p))] ([pO P, eO 2 [eR 2, eI ln, eSt 20], eA 0 600 bY], c)) (k := p) rfl (wr_nat (by omega) (by omega)) (by omega) ?_
        refine xEq (N := 1) (x := bY (S + p)) (y := (eNth (eStr 2) p).getD 0) (A := ev m_P_tokenIs 57 [some (eR 0), some (eSt 2), some (eI y)] [] ([pO P, eO 2 [eR 2, eI ln, eSt 20], eA 0 600 bY], c)) (B := ev m_P_tokenIs 55 [some (eR 0), some (eSt 2), some (eI y)] [] ([pO P, eO 2 [eR 2, eI ln, eSt 20], eA 0 600 bY], c)) rfl (wr_id (by omega) (by omega)) (wr_id (by omega) (by omega)) (fun h52 => ?_) (fun h52 => ?_)
        · refine xSeg (N := 2) (r := ev m_P_tokenIs 28 [some (eR 0), some (eSt 2), some (eI (y + 1))] [] ([pO P, eO 2 [eR 2, eI ln, eSt 20], eA 0 600 bY], c)) rfl ?_
          refine ih _ (by omega) (fun q hq => ?_)
          by_cases hqp : q = p
          · subst hqp; omega
          · exact ha q (by omega)
        · refine xRb (N := 2) (v := 0) (w2 := ([pO P, eO 2 [eR 2, eI ln, eSt 20], eA 0 600 bY], c)) rfl (by decide) ?_
          exact lf (bF (allN_F hp (decide_eq_false (by omega))))
    refine xEqT (N := 4) (x := P 6) (y := 1) (A := ev m_P_tokenIs 8 [some (eR 0), some (eSt 2)] [] ([pO P, eO 2 [eR 2, eI ln, eSt 20], eA 0 600 bY], c)) (B := ev m_P_tokenIs 24 [some (eR 0), some (eSt 2)] [] ([pO P, eO 2 [eR 2, eI ln, eSt 20], eA 0 600 bY], c)) rfl (wr_id (by omega) (by omega)) (show wr 1 = 1 by decide) (by omega) ?_
    refine xEqT (N := 8) (x := (P 5) - (P 4)) (y := 4) (A := ev m_P_tokenIs 26 [some (eR 0), some (eSt 2)] [] ([pO P, eO 2 [eR 2, eI ln, eSt 20], eA 0 600 bY], c)) (B := ev m_P_tokenIs 24 [some (eR 0), some (eSt 2)] [] ([pO P, eO 2 [eR 2, eI ln, eSt 20], eA 0 600 bY], c)) rfl (wr_id (by omega) (by omega)) (show wr 4 = 4 by decide) (by omega) ?_
    refine xSeg (N := 2) (r := ev m_P_tokenIs 28 [some (eR 0), some (eSt 2), some (eI 0)] [] ([pO P, eO 2 [eR 2, eI ln, eSt 20], eA 0 600 bY], c)) rfl ?_
    exact hl 0 (Nat.zero_le _) _ rfl (fun k hk => absurd hk (by omega))
  · rw [hi, decide_eq_false h1, Bool.false_and]
    refine xEq (N := 4) (x := P 6) (y := 1) (A := ev m_P_tokenIs 8 [some (eR 0), some (eSt 2)] [] ([pO P, eO 2 [eR 2, eI ln, eSt 20], eA 0 600 bY], c)) (B := ev m_P_tokenIs 24 [some (eR 0), some (eSt 2)] [] ([pO P, eO 2 [eR 2, eI ln, eSt 20], eA 0 600 bY], c)) rfl (wr_id (by omega) (by omega)) (show wr 1 = 1 by decide) (fun h5 => ?_) (fun h5 => ?_)
    · refine xEq (N := 8) (x := (P 5) - (P 4)) (y := 4) (A := ev m_P_tokenIs 26 [some (eR 0), some (eSt 2)] [] ([pO P, eO 2 [eR 2, eI ln, eSt 20], eA 0 600 bY], c)) (B := ev m_P_tokenIs 24 [some (eR 0), some (eSt 2)] [] ([pO P, eO 2 [eR 2, eI ln, eSt 20], eA 0 600 bY], c)) rfl (wr_id (by omega) (by omega)) (show wr 4 = 4 by decide) (fun h21 => ?_) (fun h21 => ?_)
      · refine xSeg (N := 2) (r := ev m_P_tokenIs 28 [some (eR 0), some (eSt 2), some (eI 0)] [] ([pO P, eO 2 [eR 2, eI ln, eSt 20], eA 0 600 bY], c)) rfl ?_
        exact absurd h1 (by omega)
      · refine xRb (N := 2) (v := 0) (w2 := ([pO P, eO 2 [eR 2, eI ln, eSt 20], eA 0 600 bY], c)) rfl (by decide) ?_
        rfl
    · refine xRb (N := 2) (v := 0) (w2 := ([pO P, eO 2 [eR 2, eI ln, eSt 20], eA 0 600 bY], c)) rfl (by decide) ?_
      rfl
theorem n_is2 {P bY : Nat → Int} {B : Nat → Nat} {n S E K : Nat} {c : Nat × Nat} (h14 : P 14 = (S : Int)) (h15 : P 15 = ((tkT K : Nat) : Int)) (h17 : P 17 = ((if K = 1 then E - S else 0 : Nat) : Int)) (hSE : S ≤ E) (hE : E ≤ n) (hn : n ≤ 600) (hK : K ≤ 3) (hby : ∀ i, i < n → bY i = (B i : Int) ∧ B i < 256) : ev m_M_is 0 [some (eR 0), some (eSt 13)] [] ([mN P, eA 0 600 bY], c) = some (.inl (some (eI (bI (isB B K S E 13)))), ([mN P, eA 0 600 bY], c)) := by
  have hln : eLen (eStr 13) = 4 := rfl
  have hch : ∀ p, p < 4 → 0 ≤ (eNth (eStr 13) p).getD 0 ∧ (eNth (eStr 13) p).getD 0 < 128 := by decide
  have hi : isB B K S E 13 = (decide (K = 1 ∧ E - S = 4) && allN (fun p => decide ((B (S + p) : Int) = (eNth (eStr 13) p).getD 0)) 4) := rfl
  have hT : P 15 = 3 ↔ K = 1 := by rw [h15]; unfold tkT; split <;> (try split) <;> (try split) <;> omega
  by_cases h1 : K = 1 ∧ E - S = 4
  · rw [hi, decide_eq_true h1, Bool.true_and]
    rw [if_pos h1.1] at h17
    have hT2 := hT.mpr h1.1
    have hl : ∀ p : Nat, p ≤ 4 → ∀ y : Int, y = (p : Int) → (∀ q, q < p → (B (S + q) : Int) = (eNth (eStr 13) q).getD 0) → ev m_M_is 23 [some (eR 0), some (eSt 13), some (eI y)] [] ([mN P, eA 0 600 bY], c) = some (.inl (some (eI (bI (allN (fun p => decide ((B (S + p) : Int) = (eNth (eStr 13) p).getD 0)) 4)))), ([mN P, eA 0 600 bY], c)) := by
      refine loop_up ?_ ?_
      · intro y hy ha
        refine xLtF (N := 4) (x := y) (y := P 17) (A := ev m_M_is 31 [some (eR 0), some (eSt 13), some (eI y)] [] ([mN P, eA 0 600 bY], c)) (B := ev m_M_is 58 [some (eR 0), some (eSt 13), some (eI y)] [] ([mN P, eA 0 600 bY], c)) rfl (wr_id (by omega) (by omega)) (wr_id (by omega) (by omega)) (by omega) ?_
        refine xRb (N := 2) (v := 1) (w2 := ([mN P, eA 0 600 bY], c)) rfl (by decide) ?_
        exact lf (bT (allN_iff.mpr (fun q hq => decide_eq_true (ha q hq))))
      · intro p hp ih y hy ha
        have hb := hby (S + p) (by omega)
        have hcp := hch p hp
        refine xLtT (N := 4) (x := y) (y := P 17) (A := ev m_M_is 31 [some (eR 0), some (eSt 13), some (eI y)] [] ([mN P, eA 0 600 bY], c)) (B := ev m_M_is 58 [some (eR 0), some (eSt 13), some (eI y)] [] ([mN P, eA 0 600 bY], c)) rfl (wr_id (by omega) (by omega)) (wr_id (by omega) (by omega)) (by omega) ?_
        refine xLd (N := 7) (n := 600) (i := (P 14) + y) (F := fun zq => ev m_M_is 42 [some (eR 0), some (eSt 13), some (eI y)] [eI (bY zq)] ([mN P, eA 0 600 bY], c)) (k := S + p) rfl (wr_nat (by omega) (by omega)) (by omega) ?_
        refine xLd (N := 3) (n := eLen (eStr 13)) (i := y) (F := fun zq => ev m_M_is 47 [some (eR 0), some (eSt 13), some (eI y)] [eI ((eNth (eStr 13) zq).getD 0), eI (bY (S + p))] ([mN P, eA 0 600 bY], c)) (k := p) rfl (wr_nat (by omega) (by omega)) (by omega) ?_
        refine xEq (N := 1) (x := bY (S + p)) (y := (eNth (eStr 13) p).getD 0) (A := ev m_M_is 52 [some (eR 0), some (eSt 13), some (eI y)] [] ([mN P, eA 0 600 bY], c)) (B := ev m_M_is 50 [some (eR 0), some (eSt 13), some (eI y)] [] ([mN P, eA 0 600 bY], c)) rfl (wr_id (by omega) (by omega)) (wr_id (by omega) (by omega)) (fun h47 => ?_) (fun h47 => ?_)
        · refine xSeg (N := 2) (r := ev m_M_is 23 [some (eR 0), some (eSt 13), some (eI (y + 1))] [] ([mN P, eA 0 600 bY], c)) rfl ?_
          refine ih _ (by omega) (fun q hq => ?_)
          by_cases hqp : q = p
          · subst hqp; omega
          · exact ha q (by omega)
        · refine xRb (N := 2) (v := 0) (w2 := ([mN P, eA 0 600 bY], c)) rfl (by decide) ?_
          exact lf (bF (allN_F hp (decide_eq_false (by omega))))
    refine xEqT (N := 4) (x := P 15) (y := 3) (A := ev m_M_is 8 [some (eR 0), some (eSt 13)] [] ([mN P, eA 0 600 bY], c)) (B := ev m_M_is 19 [some (eR 0), some (eSt 13)] [] ([mN P, eA 0 600 bY], c)) rfl (wr_id (by omega) (by omega)) (show wr 3 = 3 by decide) (by omega) ?_
    refine xEqT (N := 5) (x := P 17) (y := 4) (A := ev m_M_is 21 [some (eR 0), some (eSt 13)] [] ([mN P, eA 0 600 bY], c)) (B := ev m_M_is 19 [some (eR 0), some (eSt 13)] [] ([mN P, eA 0 600 bY], c)) rfl (wr_id (by omega) (by omega)) (show wr 4 = 4 by decide) (by omega) ?_
    refine xSeg (N := 2) (r := ev m_M_is 23 [some (eR 0), some (eSt 13), some (eI 0)] [] ([mN P, eA 0 600 bY], c)) rfl ?_
    exact hl 0 (Nat.zero_le _) _ rfl (fun k hk => absurd hk (by omega))
  · rw [hi, decide_eq_false h1, Bool.false_and]
    have h17b : K = 1 → P 17 = ((E - S : Nat) : Int) := fun hk => by rw [h17, if_pos hk]
    by_cases hk : K = 1
    · have h17c := h17b hk
      have hT2 := hT.mpr hk
      refine xEqT (N := 4) (x := P 15) (y := 3) (A := ev m_M_is 8 [some (eR 0), some (eSt 13)] [] ([mN P, eA 0 600 bY], c)) (B := ev m_M_is 19 [some (eR 0), some (eSt 13)] [] ([mN P, eA 0 600 bY], c)) rfl (wr_id (by omega) (by omega)) (show wr 3 = 3 by decide) (by omega) ?_
      refine xEqF (N := 5) (x := P 17) (y := 4) (A := ev m_M_is 21 [some (eR 0), some (eSt 13)] [] ([mN P, eA 0 600 bY], c)) (B := ev m_M_is 19 [some (eR 0), some (eSt 13)] [] ([mN P, eA 0 600 bY], c)) rfl (wr_id (by omega) (by omega)) (show wr 4 = 4 by decide) (by omega) ?_
      refine xRb (N := 2) (v := 0) (w2 := ([mN P, eA 0 600 bY], c)) rfl (by decide) ?_
      rfl
    · have hT2 : P 15 ≠ 3 := fun h => hk (hT.mp h)
      have h15b : P 15 = 0 ∨ P 15 = 1 ∨ P 15 = 2 ∨ P 15 = 3 := by rw [h15]; unfold tkT; split <;> (try split) <;> (try split) <;> omega
      refine xEqF (N := 4) (x := P 15) (y := 3) (A := ev m_M_is 8 [some (eR 0), some (eSt 13)] [] ([mN P, eA 0 600 bY], c)) (B := ev m_M_is 19 [some (eR 0), some (eSt 13)] [] ([mN P, eA 0 600 bY], c)) rfl (wr_id (by omega) (by omega)) (show wr 3 = 3 by decide) (by omega) ?_
      refine xRb (N := 2) (v := 0) (w2 := ([mN P, eA 0 600 bY], c)) rfl (by decide) ?_
      rfl
theorem isB_m3 {B : Nat → Nat} {K S E : Nat} : isB B K S E 14 = isB B K S E 3 := rfl
theorem c_tokenIs3 {P bY : Nat → Int} {B : Nat → Nat} {n S E K : Nat} {ln : Int} {c : Nat × Nat} (h4 : P 4 = (S : Int)) (h5 : P 5 = (E : Int)) (h6 : P 6 = (K : Int)) (hSE : S ≤ E) (hE : E ≤ n) (hn : n ≤ 600) (hK : K ≤ 3) (hby : ∀ i, i < n → bY i = (B i : Int) ∧ B i < 256) : ev m_P_tokenIs 0 [some (eR 0), some (eSt 3)] [] ([pO P, eO 2 [eR 2, eI ln, eSt 20], eA 0 600 bY], c) = some (.inl (some (eI (bI (isB B K S E 3)))), ([pO P, eO 2 [eR 2, eI ln, eSt 20], eA 0 600 bY], c)) := by
  have hln : eLen (eStr 3) = 6 := rfl
  have hch : ∀ p, p < 6 → 0 ≤ (eNth (eStr 3) p).getD 0 ∧ (eNth (eStr 3) p).getD 0 < 128 := by decide
  have hi : isB B K S E 3 = (decide (K = 1 ∧ E - S = 6) && allN (fun p => decide ((B (S + p) : Int) = (eNth (eStr 3) p).getD 0)) 6) := rfl
  by_cases h1 : K = 1 ∧ E - S = 6
  · rw [hi, decide_eq_true h1, Bool.true_and]
    have hl : ∀ p : Nat, p ≤ 6 → ∀ y : Int, y = (p : Int) → (∀ q, q < p → (B (S + q) : Int) = (eNth (eStr 3) q).getD 0) → ev m_P_tokenIs 28 [some (eR 0), some (eSt 3), some (eI y)] [] ([pO P, eO 2 [eR 2, eI ln, eSt 20], eA 0 600 bY], c) = some (.inl (some (eI (bI (allN (fun p => decide ((B (S + p) : Int) = (eNth (eStr 3) p).getD 0)) 6)))), ([pO P, eO 2 [eR 2, eI ln, eSt 20], eA 0 600 bY], c)) := by
      refine loop_up ?_ ?_
      · intro y hy ha
        refine xLtF (N := 4) (x := y) (y := 6) (A := ev m_P_tokenIs 36 [some (eR 0), some (eSt 3), some (eI y)] [] ([pO P, eO 2 [eR 2, eI ln, eSt 20], eA 0 600 bY], c)) (B := ev m_P_tokenIs 63 [some (eR 0), some (eSt 3), some (eI y)] [] ([pO P, eO 2 [eR 2, eI ln, eSt 20], eA 0 600 bY], c)) rfl (wr_id (by omega) (by omega)) (show wr 6 = 6 by decide) (by omega) ?_
        refine xRb (N := 2) (v := 1) (w2 := ([pO P, eO 2 [eR 2, eI ln, eSt 20], eA 0 600 bY], c)) rfl (by decide) ?_
        exact lf (bT (allN_iff.mpr (fun q hq => decide_eq_true (ha q hq))))
      · intro p hp ih y hy ha
        have hb := hby (S + p) (by omega)
        have hcp := hch p hp
        refine xLtT (N := 4) (x := y) (y := 6) (A := ev m_P_tokenIs 36 [some (eR 0), some (eSt 3), some (eI y)] [] ([pO P, eO 2 [eR 2, eI ln, eSt 20], eA 0 600 bY], c)) (B := ev m_P_tokenIs 63 [some (eR 0), some (eSt 3), some (eI y)] [] ([pO P, eO 2 [eR 2, eI ln, eSt 20], eA 0 600 bY], c)) rfl (wr_id (by omega) (by omega)) (show wr 6 = 6 by decide) (by omega) ?_
        refine xLd (N := 7) (n := 600) (i := (P 4) + y) (F := fun zq => ev m_P_tokenIs 47 [some (eR 0), some (eSt 3), some (eI y)] [eI (bY zq)] ([pO P, eO 2 [eR 2, eI ln, eSt 20], eA 0 600 bY], c)) (k := S + p) rfl (wr_nat (by omega) (by omega)) (by omega) ?_
        refine xLd (N := 3) (n := eLen (eStr 3)) (i := y) (F := fun zq => ev m_P_tokenIs 52 [some (eR 0), some (eSt 3), some (eI y)] [eI ((eNth (eStr 3) zq).getD 0), eI (bY (S + p))] ([pO P, eO 2 [eR 2, eI ln, eSt 20], eA 0 600 bY], c)) (k := p) rfl (wr_nat (by omega) (by omega)) (by omega) ?_
        refine xEq (N := 1) (x := bY (S + p)) (y := (eNth (eStr 3) p).getD 0) (A := ev m_P_tokenIs 57 [some (eR 0), some (eSt 3), some (eI y)] [] ([pO P, eO 2 [eR 2, eI ln, eSt 20], eA 0 600 bY], c)) (B := ev m_P_tokenIs 55 [some (eR 0), some (eSt 3), some (eI y)] [] ([pO P, eO 2 [eR 2, eI ln, eSt 20], eA 0 600 bY], c)) rfl (wr_id (by omega) (by omega)) (wr_id (by omega) (by omega)) (fun h52 => ?_) (fun h52 => ?_)
        · refine xSeg (N := 2) (r := ev m_P_tokenIs 28 [some (eR 0), some (eSt 3), some (eI (y + 1))] [] ([pO P, eO 2 [eR 2, eI ln, eSt 20], eA 0 600 bY], c)) rfl ?_
          refine ih _ (by omega) (fun q hq => ?_)
          by_cases hqp : q = p
          · subst hqp; omega
          · exact ha q (by omega)
        · refine xRb (N := 2) (v := 0) (w2 := ([pO P, eO 2 [eR 2, eI ln, eSt 20], eA 0 600 bY], c)) rfl (by decide) ?_
          exact lf (bF (allN_F hp (decide_eq_false (by omega))))
    refine xEqT (N := 4) (x := P 6) (y := 1) (A := ev m_P_tokenIs 8 [some (eR 0), some (eSt 3)] [] ([pO P, eO 2 [eR 2, eI ln, eSt 20], eA 0 600 bY], c)) (B := ev m_P_tokenIs 24 [some (eR 0), some (eSt 3)] [] ([pO P, eO 2 [eR 2, eI ln, eSt 20], eA 0 600 bY], c)) rfl (wr_id (by omega) (by omega)) (show wr 1 = 1 by decide) (by omega) ?_
    refine xEqT (N := 8) (x := (P 5) - (P 4)) (y := 6) (A := ev m_P_tokenIs 26 [some (eR 0), some (eSt 3)] [] ([pO P, eO 2 [eR 2, eI ln, eSt 20], eA 0 600 bY], c)) (B := ev m_P_tokenIs 24 [some (eR 0), some (eSt 3)] [] ([pO P, eO 2 [eR 2, eI ln, eSt 20], eA 0 600 bY], c)) rfl (wr_id (by omega) (by omega)) (show wr 6 = 6 by decide) (by omega) ?_
    refine xSeg (N := 2) (r := ev m_P_tokenIs 28 [some (eR 0), some (eSt 3), some (eI 0)] [] ([pO P, eO 2 [eR 2, eI ln, eSt 20], eA 0 600 bY], c)) rfl ?_
    exact hl 0 (Nat.zero_le _) _ rfl (fun k hk => absurd hk (by omega))
  · rw [hi, decide_eq_false h1, Bool.false_and]
    refine xEq (N := 4) (x := P 6) (y := 1) (A := ev m_P_tokenIs 8 [some (eR 0), some (eSt 3)] [] ([pO P, eO 2 [eR 2, eI ln, eSt 20], eA 0 600 bY], c)) (B := ev m_P_tokenIs 24 [some (eR 0), some (eSt 3)] [] ([pO P, eO 2 [eR 2, eI ln, eSt 20], eA 0 600 bY], c)) rfl (wr_id (by omega) (by omega)) (show wr 1 = 1 by decide) (fun h5 => ?_) (fun h5 => ?_)
    · refine xEq (N := 8) (x := (P 5) - (P 4)) (y := 6) (A := ev m_P_tokenIs 26 [some (eR 0), some (eSt 3)] [] ([pO P, eO 2 [eR 2, eI ln, eSt 20], eA 0 600 bY], c)) (B := ev m_P_tokenIs 24 [some (eR 0), some (eSt 3)] [] ([pO P, eO 2 [eR 2, eI ln, eSt 20], eA 0 600 bY], c)) rfl (wr_id (by omega) (by omega)) (show wr 6 = 6 by decide) (fun h21 => ?_) (fun h21 => ?_)
      · refine xSeg (N := 2) (r := ev m_P_tokenIs 28 [some (eR 0), some (eSt 3), some (eI 0)] [] ([pO P, eO 2 [eR 2, eI ln, eSt 20], eA 0 600 bY], c)) rfl ?_
        exact absurd h1 (by omega)
      · refine xRb (N := 2) (v := 0) (w2 := ([pO P, eO 2 [eR 2, eI ln, eSt 20], eA 0 600 bY], c)) rfl (by decide) ?_
        rfl
    · refine xRb (N := 2) (v := 0) (w2 := ([pO P, eO 2 [eR 2, eI ln, eSt 20], eA 0 600 bY], c)) rfl (by decide) ?_
      rfl
theorem n_is3 {P bY : Nat → Int} {B : Nat → Nat} {n S E K : Nat} {c : Nat × Nat} (h14 : P 14 = (S : Int)) (h15 : P 15 = ((tkT K : Nat) : Int)) (h17 : P 17 = ((if K = 1 then E - S else 0 : Nat) : Int)) (hSE : S ≤ E) (hE : E ≤ n) (hn : n ≤ 600) (hK : K ≤ 3) (hby : ∀ i, i < n → bY i = (B i : Int) ∧ B i < 256) : ev m_M_is 0 [some (eR 0), some (eSt 14)] [] ([mN P, eA 0 600 bY], c) = some (.inl (some (eI (bI (isB B K S E 14)))), ([mN P, eA 0 600 bY], c)) := by
  have hln : eLen (eStr 14) = 6 := rfl
  have hch : ∀ p, p < 6 → 0 ≤ (eNth (eStr 14) p).getD 0 ∧ (eNth (eStr 14) p).getD 0 < 128 := by decide
  have hi : isB B K S E 14 = (decide (K = 1 ∧ E - S = 6) && allN (fun p => decide ((B (S + p) : Int) = (eNth (eStr 14) p).getD 0)) 6) := rfl
  have hT : P 15 = 3 ↔ K = 1 := by rw [h15]; unfold tkT; split <;> (try split) <;> (try split) <;> omega
  by_cases h1 : K = 1 ∧ E - S = 6
  · rw [hi, decide_eq_true h1, Bool.true_and]
    rw [if_pos h1.1] at h17
    have hT2 := hT.mpr h1.1
    have hl : ∀ p : Nat, p ≤ 6 → ∀ y : Int, y = (p : Int) → (∀ q, q < p → (B (S + q) : Int) = (eNth (eStr 14) q).getD 0) → ev m_M_is 23 [some (eR 0), some (eSt 14), some (eI y)] [] ([mN P, eA 0 600 bY], c) = some (.inl (some (eI (bI (allN (fun p => decide ((B (S + p) : Int) = (eNth (eStr 14) p).getD 0)) 6)))), ([mN P, eA 0 600 bY], c)) := by
      refine loop_up ?_ ?_
      · intro y hy ha
        refine xLtF (N := 4) (x := y) (y := P 17) (A := ev m_M_is 31 [some (eR 0), some (eSt 14), some (eI y)] [] ([mN P, eA 0 600 bY], c)) (B := ev m_M_is 58 [some (eR 0), some (eSt 14), some (eI y)] [] ([mN P, eA 0 600 bY], c)) rfl (wr_id (by omega) (by omega)) (wr_id (by omega) (by omega)) (by omega) ?_
        refine xRb (N := 2) (v := 1) (w2 := ([mN P, eA 0 600 bY], c)) rfl (by decide) ?_
        exact lf (bT (allN_iff.mpr (fun q hq => decide_eq_true (ha q hq))))
      · intro p hp ih y hy ha
        have hb := hby (S + p) (by omega)
        have hcp := hch p hp
        refine xLtT (N := 4) (x := y) (y := P 17) (A := ev m_M_is 31 [some (eR 0), some (eSt 14), some (eI y)] [] ([mN P, eA 0 600 bY], c)) (B := ev m_M_is 58 [some (eR 0), some (eSt 14), some (eI y)] [] ([mN P, eA 0 600 bY], c)) rfl (wr_id (by omega) (by omega)) (wr_id (by omega) (by omega)) (by omega) ?_
        refine xLd (N := 7) (n := 600) (i := (P 14) + y) (F := fun zq => ev m_M_is 42 [some (eR 0), some (eSt 14), some (eI y)] [eI (bY zq)] ([mN P, eA 0 600 bY], c)) (k := S + p) rfl (wr_nat (by omega) (by omega)) (by omega) ?_
        refine xLd (N := 3) (n := eLen (eStr 14)) (i := y) (F := fun zq => ev m_M_is 47 [some (eR 0), some (eSt 14), some (eI y)] [eI ((eNth (eStr 14) zq).getD 0), eI (bY (S + p))] ([mN P, eA 0 600 bY], c)) (k := p) rfl (wr_nat (by omega) (by omega)) (by omega) ?_
        refine xEq (N := 1) (x := bY (S + p)) (y := (eNth (eStr 14) p).getD 0) (A := ev m_M_is 52 [some (eR 0), some (eSt 14), some (eI y)] [] ([mN P, eA 0 600 bY], c)) (B := ev m_M_is 50 [some (eR 0), some (eSt 14), some (eI y)] [] ([mN P, eA 0 600 bY], c)) rfl (wr_id (by omega) (by omega)) (wr_id (by omega) (by omega)) (fun h47 => ?_) (fun h47 => ?_)
        · refine xSeg (N := 2) (r := ev m_M_is 23 [some (eR 0), some (eSt 14), some (eI (y + 1))] [] ([mN P, eA 0 600 bY], c)) rfl ?_
          refine ih _ (by omega) (fun q hq => ?_)
          by_cases hqp : q = p
          · subst hqp; omega
          · exact ha q (by omega)
        · refine xRb (N := 2) (v := 0) (w2 := ([mN P, eA 0 600 bY], c)) rfl (by decide) ?_
          exact lf (bF (allN_F hp (decide_eq_false (by omega))))
    refine xEqT (N := 4) (x := P 15) (y := 3) (A := ev m_M_is 8 [some (eR 0), some (eSt 14)] [] ([mN P, eA 0 600 bY], c)) (B := ev m_M_is 19 [some (eR 0), some (eSt 14)] [] ([mN P, eA 0 600 bY], c)) rfl (wr_id (by omega) (by omega)) (show wr 3 = 3 by decide) (by omega) ?_
    refine xEqT (N := 5) (x := P 17) (y := 6) (A := ev m_M_is 21 [some (eR 0), some (eSt 14)] [] ([mN P, eA 0 600 bY], c)) (B := ev m_M_is 19 [some (eR 0), some (eSt 14)] [] ([mN P, eA 0 600 bY], c)) rfl (wr_id (by omega) (by omega)) (show wr 6 = 6 by decide) (by omega) ?_
    refine xSeg (N := 2) (r := ev m_M_is 23 [some (eR 0), some (eSt 14), some (eI 0)] [] ([mN P, eA 0 600 bY], c)) rfl ?_
    exact hl 0 (Nat.zero_le _) _ rfl (fun k hk => absurd hk (by omega))
  · rw [hi, decide_eq_false h1, Bool.false_and]
    have h17b : K = 1 → P 17 = ((E - S : Nat) : Int) := fun hk => by rw [h17, if_pos hk]
    by_cases hk : K = 1
    · have h17c := h17b hk
      have hT2 := hT.mpr hk
      refine xEqT (N := 4) (x := P 15) (y := 3) (A := ev m_M_is 8 [some (eR 0), some (eSt 14)] [] ([mN P, eA 0 600 bY], c)) (B := ev m_M_is 19 [some (eR 0), some (eSt 14)] [] ([mN P, eA 0 600 bY], c)) rfl (wr_id (by omega) (by omega)) (show wr 3 = 3 by decide) (by omega) ?_
      refine xEqF (N := 5) (x := P 17) (y := 6) (A := ev m_M_is 21 [some (eR 0), some (eSt 14)] [] ([mN P, eA 0 600 bY], c)) (B := ev m_M_is 19 [some (eR 0), some (eSt 14)] [] ([mN P, eA 0 600 bY], c)) rfl (wr_id (by omega) (by omega)) (show wr 6 = 6 by decide) (by omega) ?_
      refine xRb (N := 2) (v := 0) (w2 := ([mN P, eA 0 600 bY], c)) rfl (by decide) ?_
      rfl
    · have hT2 : P 15 ≠ 3 := fun h => hk (hT.mp h)
      have h15b : P 15 = 0 ∨ P 15 = 1 ∨ P 15 = 2 ∨ P 15 = 3 := by rw [h15]; unfold tkT; split <;> (try split) <;> (try split) <;> omega
      refine xEqF (N := 4) (x := P 15) (y := 3) (A := ev m_M_is 8 [some (eR 0), some (eSt 14)] [] ([mN P, eA 0 600 bY], c)) (B := ev m_M_is 19 [some (eR 0), some (eSt 14)] [] ([mN P, eA 0 600 bY], c)) rfl (wr_id (by omega) (by omega)) (show wr 3 = 3 by decide) (by omega) ?_
      refine xRb (N := 2) (v := 0) (w2 := ([mN P, eA 0 600 bY], c)) rfl (by decide) ?_
      rfl
theorem isB_m4 {B : Nat → Nat} {K S E : Nat} : isB B K S E 15 = isB B K S E 4 := rfl
theorem c_tokenIs4 {P bY : Nat → Int} {B : Nat → Nat} {n S E K : Nat} {ln : Int} {c : Nat × Nat} (h4 : P 4 = (S : Int)) (h5 : P 5 = (E : Int)) (h6 : P 6 = (K : Int)) (hSE : S ≤ E) (hE : E ≤ n) (hn : n ≤ 600) (hK : K ≤ 3) (hby : ∀ i, i < n → bY i = (B i : Int) ∧ B i < 256) : ev m_P_tokenIs 0 [some (eR 0), some (eSt 4)] [] ([pO P, eO 2 [eR 2, eI ln, eSt 20], eA 0 600 bY], c) = some (.inl (some (eI (bI (isB B K S E 4)))), ([pO P, eO 2 [eR 2, eI ln, eSt 20], eA 0 600 bY], c)) := by
  have hln : eLen (eStr 4) = 5 := rfl
  have hch : ∀ p, p < 5 → 0 ≤ (eNth (eStr 4) p).getD 0 ∧ (eNth (eStr 4) p).getD 0 < 128 := by decide
  have hi : isB B K S E 4 = (decide (K = 1 ∧ E - S = 5) && allN (fun p => decide ((B (S + p) : Int) = (eNth (eStr 4) p).getD 0)) 5) := rfl
  by_cases h1 : K = 1 ∧ E - S = 5
  · rw [hi, decide_eq_true h1, Bool.true_and]
    have hl : ∀ p : Nat, p ≤ 5 → ∀ y : Int, y = (p : Int) → (∀ q, q < p → (B (S + q) : Int) = (eNth (eStr 4) q).getD 0) → ev m_P_tokenIs 28 [some (eR 0), some (eSt 4), some (eI y)] [] ([pO P, eO 2 [eR 2, eI ln, eSt 20], eA 0 600 bY], c) = some (.inl (some (eI (bI (allN (fun p => decide ((B (S + p) : Int) = (eNth (eStr 4) p).getD 0)) 5)))), ([pO P, eO 2 [eR 2, eI ln, eSt 20], eA 0 600 bY], c)) := by
      refine loop_up ?_ ?_
      · intro y hy ha
        refine xLtF (N := 4) (x := y) (y := 5) (A := ev m_P_tokenIs 36 [some (eR 0), some (eSt 4), some (eI y)] [] ([pO P, eO 2 [eR 2, eI ln, eSt 20], eA 0 600 bY], c)) (B := ev m_P_tokenIs 63 [some (eR 0), some (eSt 4), some (eI y)] [] ([pO P, eO 2 [eR 2, eI ln, eSt 20], eA 0 600 bY], c)) rfl (wr_id (by omega) (by omega)) (show wr 5 = 5 by decide) (by omega) ?_
        refine xRb (N := 2) (v := 1) (w2 := ([pO P, eO 2 [eR 2, eI ln, eSt 20], eA 0 600 bY], c)) rfl (by decide) ?_
        exact lf (bT (allN_iff.mpr (fun q hq => decide_eq_true (ha q hq))))
      · intro p hp ih y hy ha
        have hb := hby (S + p) (by omega)
        have hcp := hch p hp
        refine xLtT (N := 4) (x := y) (y := 5) (A := ev m_P_tokenIs 36 [some (eR 0), some (eSt 4), some (eI y)] [] ([pO P, eO 2 [eR 2, eI ln, eSt 20], eA 0 600 bY], c)) (B := ev m_P_tokenIs 63 [some (eR 0), some (eSt 4), some (eI y)] [] ([pO P, eO 2 [eR 2, eI ln, eSt 20], eA 0 600 bY], c)) rfl (wr_id (by omega) (by omega)) (show wr 5 = 5 by decide) (by omega) ?_
        refine xLd (N := 7) (n := 600) (i := (P 4) + y) (F := fun zq => ev m_P_tokenIs 47 [some (eR 0), some (eSt 4), some (eI y)] [eI (bY zq)] ([pO P, eO 2 [eR 2, eI ln, eSt 20], eA 0 600 bY], c)) (k := S + p) rfl (wr_nat (by omega) (by omega)) (by omega) ?_
        refine xLd (N := 3) (n := eLen (eStr 4)) (i := y) (F := fun zq => ev m_P_tokenIs 52 [some (eR 0), some (eSt 4), some (eI y)] [eI ((eNth (eStr 4) zq).getD 0), eI (bY (S + p))] ([pO P, eO 2 [eR 2, eI ln, eSt 20], eA 0 600 bY], c)) (k := p) rfl (wr_nat (by omega) (by omega)) (by omega) ?_
        refine xEq (N := 1) (x := bY (S + p)) (y := (eNth (eStr 4) p).getD 0) (A := ev m_P_tokenIs 57 [some (eR 0), some (eSt 4), some (eI y)] [] ([pO P, eO 2 [eR 2, eI ln, eSt 20], eA 0 600 bY], c)) (B := ev m_P_tokenIs 55 [some (eR 0), some (eSt 4), some (eI y)] [] ([pO P, eO 2 [eR 2, eI ln, eSt 20], eA 0 600 bY], c)) rfl (wr_id (by omega) (by omega)) (wr_id (by omega) (by omega)) (fun h52 => ?_) (fun h52 => ?_)
        · refine xSeg (N := 2) (r := ev m_P_tokenIs 28 [some (eR 0), some (eSt 4), some (eI (y + 1))] [] ([pO P, eO 2 [eR 2, eI ln, eSt 20], eA 0 600 bY], c)) rfl ?_
          refine ih _ (by omega) (fun q hq => ?_)
          by_cases hqp : q = p
          · subst hqp; omega
          · exact ha q (by omega)
        · refine xRb (N := 2) (v := 0) (w2 := ([pO P, eO 2 [eR 2, eI ln, eSt 20], eA 0 600 bY], c)) rfl (by decide) ?_
          exact lf (bF (allN_F hp (decide_eq_false (by omega))))
    refine xEqT (N := 4) (x := P 6) (y := 1) (A := ev m_P_tokenIs 8 [some (eR 0), some (eSt 4)] [] ([pO P, eO 2 [eR 2, eI ln, eSt 20], eA 0 600 bY], c)) (B := ev m_P_tokenIs 24 [some (eR 0), some (eSt 4)] [] ([pO P, eO 2 [eR 2, eI ln, eSt 20], eA 0 600 bY], c)) rfl (wr_id (by omega) (by omega)) (show wr 1 = 1 by decide) (by omega) ?_
    refine xEqT (N := 8) (x := (P 5) - (P 4)) (y := 5) (A := ev m_P_tokenIs 26 [some (eR 0), some (eSt 4)] [] ([pO P, eO 2 [eR 2, eI ln, eSt 20], eA 0 600 bY], c)) (B := ev m_P_tokenIs 24 [some (eR 0), some (eSt 4)] [] ([pO P, eO 2 [eR 2, eI ln, eSt 20], eA 0 600 bY], c)) rfl (wr_id (by omega) (by omega)) (show wr 5 = 5 by decide) (by omega) ?_
    refine xSeg (N := 2) (r := ev m_P_tokenIs 28 [some (eR 0), some (eSt 4), some (eI 0)] [] ([pO P, eO 2 [eR 2, eI ln, eSt 20], eA 0 600 bY], c)) rfl ?_
    exact hl 0 (Nat.zero_le _) _ rfl (fun k hk => absurd hk (by omega))
  · rw [hi, decide_eq_false h1, Bool.false_and]
    refine xEq (N := 4) (x := P 6) (y := 1) (A := ev m_P_tokenIs 8 [some (eR 0), some (eSt 4)] [] ([pO P, eO 2 [eR 2, eI ln, eSt 20], eA 0 600 bY], c)) (B := ev m_P_tokenIs 24 [some (eR 0), some (eSt 4)] [] ([pO P, eO 2 [eR 2, eI ln, eSt 20], eA 0 600 bY], c)) rfl (wr_id (by omega) (by omega)) (show wr 1 = 1 by decide) (fun h5 => ?_) (fun h5 => ?_)
    · refine xEq (N := 8) (x := (P 5) - (P 4)) (y := 5) (A := ev m_P_tokenIs 26 [some (eR 0), some (eSt 4)] [] ([pO P, eO 2 [eR 2, eI ln, eSt 20], eA 0 600 bY], c)) (B := ev m_P_tokenIs 24 [some (eR 0), some (eSt 4)] [] ([pO P, eO 2 [eR 2, eI ln, eSt 20], eA 0 600 bY], c)) rfl (wr_id (by omega) (by omega)) (show wr 5 = 5 by decide) (fun h21 => ?_) (fun h21 => ?_)
      · refine xSeg (N := 2) (r := ev m_P_tokenIs 28 [some (eR 0), some (eSt 4), some (eI 0)] [] ([pO P, eO 2 [eR 2, eI ln, eSt 20], eA 0 600 bY], c)) rfl ?_
        exact absurd h1 (by omega)
      · refine xRb (N := 2) (v := 0) (w2 := ([pO P, eO 2 [eR 2, eI ln, eSt 20], eA 0 600 bY], c)) rfl (by decide) ?_
        rfl
    · refine xRb (N := 2) (v := 0) (w2 := ([pO P, eO 2 [eR 2, eI ln, eSt 20], eA 0 600 bY], c)) rfl (by decide) ?_
      rfl
theorem n_is4 {P bY : Nat → Int} {B : Nat → Nat} {n S E K : Nat} {c : Nat × Nat} (h14 : P 14 = (S : Int)) (h15 : P 15 = ((tkT K : Nat) : Int)) (h17 : P 17 = ((if K = 1 then E - S else 0 : Nat) : Int)) (hSE : S ≤ E) (hE : E ≤ n) (hn : n ≤ 600) (hK : K ≤ 3) (hby : ∀ i, i < n → bY i = (B i : Int) ∧ B i < 256) : ev m_M_is 0 [some (eR 0), some (eSt 15)] [] ([mN P, eA 0 600 bY], c) = some (.inl (some (eI (bI (isB B K S E 15)))), ([mN P, eA 0 600 bY], c)) := by
  have hln : eLen (eStr 15) = 5 := rfl
  have hch : ∀ p, p < 5 → 0 ≤ (eNth (eStr 15) p).getD 0 ∧ (eNth (eStr 15) p).getD 0 < 128 := by decide
  have hi : isB B K S E 15 = (decide (K = 1 ∧ E - S = 5) && allN (fun p => decide ((B (S + p) : Int) = (eNth (eStr 15) p).getD 0)) 5) := rfl
  have hT : P 15 = 3 ↔ K = 1 := by rw [h15]; unfold tkT; split <;> (try split) <;> (try split) <;> omega
  by_cases h1 : K = 1 ∧ E - S = 5
  · rw [hi, decide_eq_true h1, Bool.true_and]
    rw [if_pos h1.1] at h17
    have hT2 := hT.mpr h1.1
    have hl : ∀ p : Nat, p ≤ 5 → ∀ y : Int, y = (p : Int) → (∀ q, q < p → (B (S + q) : Int) = (eNth (eStr 15) q).getD 0) → ev m_M_is 23 [some (eR 0), some (eSt 15), some (eI y)] [] ([mN P, eA 0 600 bY], c) = some (.inl (some (eI (bI (allN (fun p => decide ((B (S + p) : Int) = (eNth (eStr 15) p).getD 0)) 5)))), ([mN P, eA 0 600 bY], c)) := by
      refine loop_up ?_ ?_
      · intro y hy ha
        refine xLtF (N := 4) (x := y) (y := P 17) (A := ev m_M_is 31 [some (eR 0), some (eSt 15), some (eI y)] [] ([mN P, eA 0 600 bY], c)) (B := ev m_M_is 58 [some (eR 0), some (eSt 15), some (eI y)] [] ([mN P, eA 0 600 bY], c)) rfl (wr_id (by omega) (by omega)) (wr_id (by omega) (by omega)) (by omega) ?_
        refine xRb (N := 2) (v := 1) (w2 := ([mN P, eA 0 600 bY], c)) rfl (by decide) ?_
        exact lf (bT (allN_iff.mpr (fun q hq => decide_eq_true (ha q hq))))
      · intro p hp ih y hy ha
        have hb := hby (S + p) (by omega)
        have hcp := hch p hp
        refine xLtT (N := 4) (x := y) (y := P 17) (A := ev m_M_is 31 [some (eR 0), some (eSt 15), some (eI y)] [] ([mN P, eA 0 600 bY], c)) (B := ev m_M_is 58 [some (eR 0), some (eSt 15), some (eI y)] [] ([mN P, eA 0 600 bY], c)) rfl (wr_id (by omega) (by omega)) (wr_id (by omega) (by omega)) (by omega) ?_
        refine xLd (N := 7) (n := 600) (i := (P 14) + y) (F := fun zq => ev m_M_is 42 [some (eR 0), some (eSt 15), some (eI y)] [eI (bY zq)] ([mN P, eA 0 600 bY], c)) (k := S + p) rfl (wr_nat (by omega) (by omega)) (by omega) ?_
        refine xLd (N := 3) (n := eLen (eStr 15)) (i := y) (F := fun zq => ev m_M_is 47 [some (eR 0), some (eSt 15), some (eI y)] [eI ((eNth (eStr 15) zq).getD 0), eI (bY (S + p))] ([mN P, eA 0 600 bY], c)) (k := p) rfl (wr_nat (by omega) (by omega)) (by omega) ?_
        refine xEq (N := 1) (x := bY (S + p)) (y := (eNth (eStr 15) p).getD 0) (A := ev m_M_is 52 [some (eR 0), some (eSt 15), some (eI y)] [] ([mN P, eA 0 600 bY], c)) (B := ev m_M_is 50 [some (eR 0), some (eSt 15), some (eI y)] [] ([mN P, eA 0 600 bY], c)) rfl (wr_id (by omega) (by omega)) (wr_id (by omega) (by omega)) (fun h47 => ?_) (fun h47 => ?_)
        · refine xSeg (N := 2) (r := ev m_M_is 23 [some (eR 0), some (eSt 15), some (eI (y + 1))] [] ([mN P, eA 0 600 bY], c)) rfl ?_
          refine ih _ (by omega) (fun q hq => ?_)
          by_cases hqp : q = p
          · subst hqp; omega
          · exact ha q (by omega)
        · refine xRb (N := 2) (v := 0) (w2 := ([mN P, eA 0 600 bY], c)) rfl (by decide) ?_
          exact lf (bF (allN_F hp (decide_eq_false (by omega))))
    refine xEqT (N := 4) (x := P 15) (y := 3) (A := ev m_M_is 8 [some (eR 0), some (eSt 15)] [] ([mN P, eA 0 600 bY], c)) (B := ev m_M_is 19 [some (eR 0), some (eSt 15)] [] ([mN P, eA 0 600 bY], c)) rfl (wr_id (by omega) (by omega)) (show wr 3 = 3 by decide) (by omega) ?_
    refine xEqT (N := 5) (x := P 17) (y := 5) (A := ev m_M_is 21 [some (eR 0), some (eSt 15)] [] ([mN P, eA 0 600 bY], c)) (B := ev m_M_is 19 [some (eR 0), some (eSt 15)] [] ([mN P, eA 0 600 bY], c)) rfl (wr_id (by omega) (by omega)) (show wr 5 = 5 by decide) (by omega) ?_
    refine xSeg (N := 2) (r := ev m_M_is 23 [some (eR 0), some (eSt 15), some (eI 0)] [] ([mN P, eA 0 600 bY], c)) rfl ?_
    exact hl 0 (Nat.zero_le _) _ rfl (fun k hk => absurd hk (by omega))
  · rw [hi, decide_eq_false h1, Bool.false_and]
    have h17b : K = 1 → P 17 = ((E - S : Nat) : Int) := fun hk => by rw [h17, if_pos hk]
    by_cases hk : K = 1
    · have h17c := h17b hk
      have hT2 := hT.mpr hk
      refine xEqT (N := 4) (x := P 15) (y := 3) (A := ev m_M_is 8 [some (eR 0), some (eSt 15)] [] ([mN P, eA 0 600 bY], c)) (B := ev m_M_is 19 [some (eR 0), some (eSt 15)] [] ([mN P, eA 0 600 bY], c)) rfl (wr_id (by omega) (by omega)) (show wr 3 = 3 by decide) (by omega) ?_
      refine xEqF (N := 5) (x := P 17) (y := 5) (A := ev m_M_is 21 [some (eR 0), some (eSt 15)] [] ([mN P, eA 0 600 bY], c)) (B := ev m_M_is 19 [some (eR 0), some (eSt 15)] [] ([mN P, eA 0 600 bY], c)) rfl (wr_id (by omega) (by omega)) (show wr 5 = 5 by decide) (by omega) ?_
      refine xRb (N := 2) (v := 0) (w2 := ([mN P, eA 0 600 bY], c)) rfl (by decide) ?_
      rfl
    · have hT2 : P 15 ≠ 3 := fun h => hk (hT.mp h)
      have h15b : P 15 = 0 ∨ P 15 = 1 ∨ P 15 = 2 ∨ P 15 = 3 := by rw [h15]; unfold tkT; split <;> (try split) <;> (try split) <;> omega
      refine xEqF (N := 4) (x := P 15) (y := 3) (A := ev m_M_is 8 [some (eR 0), some (eSt 15)] [] ([mN P, eA 0 600 bY], c)) (B := ev m_M_is 19 [some (eR 0), some (eSt 15)] [] ([mN P, eA 0 600 bY], c)) rfl (wr_id (by omega) (by omega)) (show wr 3 = 3 by decide) (by omega) ?_
      refine xRb (N := 2) (v := 0) (w2 := ([mN P, eA 0 600 bY], c)) rfl (by decide) ?_
      rfl
theorem isB_m5 {B : Nat → Nat} {K S E : Nat} : isB B K S E 16 = isB B K S E 5 := rfl
theorem c_tokenIs5 {P bY : Nat → Int} {B : Nat → Nat} {n S E K : Nat} {ln : Int} {c : Nat × Nat} (h4 : P 4 = (S : Int)) (h5 : P 5 = (E : Int)) (h6 : P 6 = (K : Int)) (hSE : S ≤ E) (hE : E ≤ n) (hn : n ≤ 600) (hK : K ≤ 3) (hby : ∀ i, i < n → bY i = (B i : Int) ∧ B i < 256) : ev m_P_tokenIs 0 [some (eR 0), some (eSt 5)] [] ([pO P, eO 2 [eR 2, eI ln, eSt 20], eA 0 600 bY], c) = some (.inl (some (eI (bI (isB B K S E 5)))), ([pO P, eO 2 [eR 2, eI ln, eSt 20], eA 0 600 bY], c)) := by
  have hln : eLen (eStr 5) = 4 := rfl
  have hch : ∀ p, p < 4 → 0 ≤ (eNth (eStr 5) p).getD 0 ∧ (eNth (eStr 5) p).getD 0 < 128 := by decide
  have hi : isB B K S E 5 = (decide (K = 1 ∧ E - S = 4) && allN (fun p => decide ((B (S + p) : Int) = (eNth (eStr 5) p).getD 0)) 4) := rfl
  by_cases h1 : K = 1 ∧ E - S = 4
  · rw [hi, decide_eq_true h1, Bool.true_and]
    have hl : ∀ p : Nat, p ≤ 4 → ∀ y : Int, y = (p : Int) → (∀ q, q < p → (B (S + q) : Int) = (eNth (eStr 5) q).getD 0) → ev m_P_tokenIs 28 [some (eR 0), some (eSt 5), some (eI y)] [] ([pO P, eO 2 [eR 2, eI ln, eSt 20], eA 0 600 bY], c) = some (.inl (some (eI (bI (allN (fun p => decide ((B (S + p) : Int) = (eNth (eStr 5) p).getD 0)) 4)))), ([pO P, eO 2 [eR 2, eI ln, eSt 20], eA 0 600 bY], c)) := by
      refine loop_up ?_ ?_
      · intro y hy ha
        refine xLtF (N := 4) (x := y) (y := 4) (A := ev m_P_tokenIs 36 [some (eR 0), some (eSt 5), some (eI y)] [] ([pO P, eO 2 [eR 2, eI ln, eSt 20], eA 0 600 bY], c)) (B := ev m_P_tokenIs 63 [some (eR 0), some (eSt 5), some (eI y)] [] ([pO P, eO 2 [eR 2, eI ln, eSt 20], eA 0 600 bY], c)) rfl (wr_id (by omega) (by omega)) (show wr 4 = 4 by decide) (by omega) ?_
        refine xRb (N := 2) (v := 1) (w2 := ([pO P, eO 2 [eR 2, eI ln, eSt 20], eA 0 600 bY], c)) rfl (by decide) ?_
        exact lf (bT (allN_iff.mpr (fun q hq => decide_eq_true (ha q hq))))
      · intro p hp ih y hy ha
        have hb := hby (S + p) (by omega)
        have hcp := hch p hp
        refine xLtT (N := 4) (x := y) (y := 4) (A := ev m_P_tokenIs 36 [some (eR 0), some (eSt 5), some (eI y)] [] ([pO P, eO 2 [eR 2, eI ln, eSt 20], eA 0 600 bY], c)) (B := ev m_P_tokenIs 63 [some (eR 0), some (eSt 5), some (eI y)] [] ([pO P, eO 2 [eR 2, eI ln, eSt 20], eA 0 600 bY], c)) rfl (wr_id (by omega) (by omega)) (show wr 4 = 4 by decide) (by omega) ?_
        refine xLd (N := 7) (n := 600) (i := (P 4) + y) (F := fun zq => ev m_P_tokenIs 47 [some (eR 0), some (eSt 5), some (eI y)] [eI (bY zq)] ([pO P, eO 2 [eR 2, eI ln, eSt 20], eA 0 600 bY], c)) (k := S + p) rfl (wr_nat (by omega) (by omega)) (by omega) ?_
        refine xLd (N := 3) (n := eLen (eStr 5)) (i := y) (F := fun zq => ev m_P_tokenIs 52 [some (eR 0), some (eSt 5), some (eI y)] [eI ((eNth (eStr 5) zq).getD 0), eI (bY (S + p))] ([pO P, eO 2 [eR 2, eI ln, eSt 20], eA 0 600 bY], c)) (k := p) rfl (wr_nat (by omega) (by omega)) (by omega) ?_
        refine xEq (N := 1) (x := bY (S + p)) (y := (eNth (eStr 5) p).getD 0) (A := ev m_P_tokenIs 57 [some (eR 0), some (eSt 5), some (eI y)] [] ([pO P, eO 2 [eR 2, eI ln, eSt 20], eA 0 600 bY], c)) (B := ev m_P_tokenIs 55 [some (eR 0), some (eSt 5), some (eI y)] [] ([pO P, eO 2 [eR 2, eI ln, eSt 20], eA 0 600 bY], c)) rfl (wr_id (by omega) (by omega)) (wr_id (by omega) (by omega)) (fun h52 => ?_) (fun h52 => ?_)
        · refine xSeg (N := 2) (r := ev m_P_tokenIs 28 [some (eR 0), some (eSt 5), some (eI (y + 1))] [] ([pO P, eO 2 [eR 2, eI ln, eSt 20], eA 0 600 bY], c)) rfl ?_
          refine ih _ (by omega) (fun q hq => ?_)
          by_cases hqp : q = p
          · subst hqp; omega
          · exact ha q (by omega)
        · refine xRb (N := 2) (v := 0) (w2 := ([pO P, eO 2 [eR 2, eI ln, eSt 20], eA 0 600 bY], c)) rfl (by decide) ?_
          exact lf (bF (allN_F hp (decide_eq_false (by omega))))
    refine xEqT (N := 4) (x := P 6) (y := 1) (A := ev m_P_tokenIs 8 [some (eR 0), some (eSt 5)] [] ([pO P, eO 2 [eR 2, eI ln, eSt 20], eA 0 600 bY], c)) (B := ev m_P_tokenIs 24 [some (eR 0), some (eSt 5)] [] ([pO P, eO 2 [eR 2, eI ln, eSt 20], eA 0 600 bY], c)) rfl (wr_id (by omega) (by omega)) (show wr 1 = 1 by decide) (by omega) ?_
    refine xEqT (N := 8) (x := (P 5) - (P 4)) (y := 4) (A := ev m_P_tokenIs 26 [some (eR 0), some (eSt 5)] [] ([pO P, eO 2 [eR 2, eI ln, eSt 20], eA 0 600 bY], c)) (B := ev m_P_tokenIs 24 [some (eR 0), some (eSt 5)] [] ([pO P, eO 2 [eR 2, eI ln, eSt 20], eA 0 600 bY], c)) rfl (wr_id (by omega) (by omega)) (show wr 4 = 4 by decide) (by omega) ?_
    refine xSeg (N := 2) (r := ev m_P_tokenIs 28 [some (eR 0), some (eSt 5), some (eI 0)] [] ([pO P, eO 2 [eR 2, eI ln, eSt 20], eA 0 600 bY], c)) rfl ?_
    exact hl 0 (Nat.zero_le _) _ rfl (fun k hk => absurd hk (by omega))
  · rw [hi, decide_eq_false h1, Bool.false_and]
    refine xEq (N := 4) (x := P 6) (y := 1) (A := ev m_P_tokenIs 8 [some (eR 0), some (eSt 5)] [] ([pO P, eO 2 [eR 2, eI ln, eSt 20], eA 0 600 bY], c)) (B := ev m_P_tokenIs 24 [some (eR 0), some (eSt 5)] [] ([pO P, eO 2 [eR 2, eI ln, eSt 20], eA 0 600 bY], c)) rfl (wr_id (by omega) (by omega)) (show wr 1 = 1 by decide) (fun h5 => ?_) (fun h5 => ?_)
    · refine xEq (N := 8) (x := (P 5) - (P 4)) (y := 4) (A := ev m_P_tokenIs 26 [some (eR 0), some (eSt 5)] [] ([pO P, eO 2 [eR 2, eI ln, eSt 20], eA 0 600 bY], c)) (B := ev m_P_tokenIs 24 [some (eR 0), some (eSt 5)] [] ([pO P, eO 2 [eR 2, eI ln, eSt 20], eA 0 600 bY], c)) rfl (wr_id (by omega) (by omega)) (show wr 4 = 4 by decide) (fun h21 => ?_) (fun h21 => ?_)
      · refine xSeg (N := 2) (r := ev m_P_tokenIs 28 [some (eR 0), some (eSt 5), some (eI 0)] [] ([pO P, eO 2 [eR 2, eI ln, eSt 20], eA 0 600 bY], c)) rfl ?_
        exact absurd h1 (by omega)
      · refine xRb (N := 2) (v := 0) (w2 := ([pO P, eO 2 [eR 2, eI ln, eSt 20], eA 0 600 bY], c)) rfl (by decide) ?_
        rfl
    · refine xRb (N := 2) (v := 0) (w2 := ([pO P, eO 2 [eR 2, eI ln, eSt 20], eA 0 600 bY], c)) rfl (by decide) ?_
      rfl
theorem n_is5 {P bY : Nat → Int} {B : Nat → Nat} {n S E K : Nat} {c : Nat × Nat} (h14 : P 14 = (S : Int)) (h15 : P 15 = ((tkT K : Nat) : Int)) (h17 : P 17 = ((if K = 1 then E - S else 0 : Nat) : Int)) (hSE : S ≤ E) (hE : E ≤ n) (hn : n ≤ 600) (hK : K ≤ 3) (hby : ∀ i, i < n → bY i = (B i : Int) ∧ B i < 256) : ev m_M_is 0 [some (eR 0), some (eSt 16)] [] ([mN P, eA 0 600 bY], c) = some (.inl (some (eI (bI (isB B K S E 16)))), ([mN P, eA 0 600 bY], c)) := by
  have hln : eLen (eStr 16) = 4 := rfl
  have hch : ∀ p, p < 4 → 0 ≤ (eNth (eStr 16) p).getD 0 ∧ (eNth (eStr 16) p).getD 0 < 128 := by decide
  have hi : isB B K S E 16 = (decide (K = 1 ∧ E - S = 4) && allN (fun p => decide ((B (S + p) : Int) = (eNth (eStr 16) p).getD 0)) 4) := rfl
  have hT : P 15 = 3 ↔ K = 1 := by rw [h15]; unfold tkT; split <;> (try split) <;> (try split) <;> omega
  by_cases h1 : K = 1 ∧ E - S = 4
  · rw [hi, decide_eq_true h1, Bool.true_and]
    rw [if_pos h1.1] at h17
    have hT2 := hT.mpr h1.1
    have hl : ∀ p : Nat, p ≤ 4 → ∀ y : Int, y = (p : Int) → (∀ q, q < p → (B (S + q) : Int) = (eNth (eStr 16) q).getD 0) → ev m_M_is 23 [some (eR 0), some (eSt 16), some (eI y)] [] ([mN P, eA 0 600 bY], c) = some (.inl (some (eI (bI (allN (fun p => decide ((B (S + p) : Int) = (eNth (eStr 16) p).getD 0)) 4)))), ([mN P, eA 0 600 bY], c)) := by
      refine loop_up ?_ ?_
      · intro y hy ha
        refine xLtF (N := 4) (x := y) (y := P 17) (A := ev m_M_is 31 [some (eR 0), some (eSt 16), some (eI y)] [] ([mN P, eA 0 600 bY], c)) (B := ev m_M_is 58 [some (eR 0), some (eSt 16), some (eI y)] [] ([mN P, eA 0 600 bY], c)) rfl (wr_id (by omega) (by omega)) (wr_id (by omega) (by omega)) (by omega) ?_
        refine xRb (N := 2) (v := 1) (w2 := ([mN P, eA 0 600 bY], c)) rfl (by decide) ?_
        exact lf (bT (allN_iff.mpr (fun q hq => decide_eq_true (ha q hq))))
      · intro p hp ih y hy ha
        have hb := hby (S + p) (by omega)
        have hcp := hch p hp
        refine xLtT (N := 4) (x := y) (y := P 17) (A := ev m_M_is 31 [some (eR 0), some (eSt 16), some (eI y)] [] ([mN P, eA 0 600 bY], c)) (B := ev m_M_is 58 [some (eR 0), some (eSt 16), some (eI y)] [] ([mN P, eA 0 600 bY], c)) rfl (wr_id (by omega) (by omega)) (wr_id (by omega) (by omega)) (by omega) ?_
        refine xLd (N := 7) (n := 600) (i := (P 14) + y) (F := fun zq => ev m_M_is 42 [some (eR 0), some (eSt 16), some (eI y)] [eI (bY zq)] ([mN P, eA 0 600 bY], c)) (k := S + p) rfl (wr_nat (by omega) (by omega)) (by omega) ?_
        refine xLd (N := 3) (n := eLen (eStr 16)) (i := y) (F := fun zq => ev m_M_is 47 [some (eR 0), some (eSt 16), some (eI y)] [eI ((eNth (eStr 16) zq).getD 0), eI (bY (S + p))] ([mN P, eA 0 600 bY], c)) (k := p) rfl (wr_nat (by omega) (by omega)) (by omega) ?_
        refine xEq (N := 1) (x := bY (S + p)) (y := (eNth (eStr 16) p).getD 0) (A := ev m_M_is 52 [some (eR 0), some (eSt 16), some (eI y)] [] ([mN P, eA 0 600 bY], c)) (B := ev m_M_is 50 [some (eR 0), some (eSt 16), some (eI y)] [] ([mN P, eA 0 600 bY], c)) rfl (wr_id (by omega) (by omega)) (wr_id (by omega) (by omega)) (fun h47 => ?_) (fun h47 => ?_)
        · refine xSeg (N := 2) (r := ev m_M_is 23 [some (eR 0), some (eSt 16), some (eI (y + 1))] [] ([mN P, eA 0 600 bY], c)) rfl ?_
          refine ih _ (by omega) (fun q hq => ?_)
          by_cases hqp : q = p
          · subst hqp; omega
          · exact ha q (by omega)
        · refine xRb (N := 2) (v := 0) (w2 := ([mN P, eA 0 600 bY], c)) rfl (by decide) ?_
          exact lf (bF (allN_F hp (decide_eq_false (by omega))))
    refine xEqT (N := 4) (x := P 15) (y := 3) (A := ev m_M_is 8 [some (eR 0), some (eSt 16)] [] ([mN P, eA 0 600 bY], c)) (B := ev m_M_is 19 [some (eR 0), some (eSt 16)] [] ([mN P, eA 0 600 bY], c)) rfl (wr_id (by omega) (by omega)) (show wr 3 = 3 by decide) (by omega) ?_
    refine xEqT (N := 5) (x := P 17) (y := 4) (A := ev m_M_is 21 [some (eR 0), some (eSt 16)] [] ([mN P, eA 0 600 bY], c)) (B := ev m_M_is 19 [some (eR 0), some (eSt 16)] [] ([mN P, eA 0 600 bY], c)) rfl (wr_id (by omega) (by omega)) (show wr 4 = 4 by decide) (by omega) ?_
    refine xSeg (N := 2) (r := ev m_M_is 23 [some (eR 0), some (eSt 16), some (eI 0)] [] ([mN P, eA 0 600 bY], c)) rfl ?_
    exact hl 0 (Nat.zero_le _) _ rfl (fun k hk => absurd hk (by omega))
  · rw [hi, decide_eq_false h1, Bool.false_and]
    have h17b : K = 1 → P 17 = ((E - S : Nat) : Int) := fun hk => by rw [h17, if_pos hk]
    by_cases hk : K = 1
    · have h17c := h17b hk
      have hT2 := hT.mpr hk
      refine xEqT (N := 4) (x := P 15) (y := 3) (A := ev m_M_is 8 [some (eR 0), some (eSt 16)] [] ([mN P, eA 0 600 bY], c)) (B := ev m_M_is 19 [some (eR 0), some (eSt 16)] [] ([mN P, eA 0 600 bY], c)) rfl (wr_id (by omega) (by omega)) (show wr 3 = 3 by decide) (by omega) ?_
      refine xEqF (N := 5) (x := P 17) (y := 4) (A := ev m_M_is 21 [some (eR 0), some (eSt 16)] [] ([mN P, eA 0 600 bY], c)) (B := ev m_M_is 19 [some (eR 0), some (eSt 16)] [] ([mN P, eA 0 600 bY], c)) rfl (wr_id (by omega) (by omega)) (show wr 4 = 4 by decide) (by omega) ?_
      refine xRb (N := 2) (v := 0) (w2 := ([mN P, eA 0 600 bY], c)) rfl (by decide) ?_
      rfl
    · have hT2 : P 15 ≠ 3 := fun h => hk (hT.mp h)
      have h15b : P 15 = 0 ∨ P 15 = 1 ∨ P 15 = 2 ∨ P 15 = 3 := by rw [h15]; unfold tkT; split <;> (try split) <;> (try split) <;> omega
      refine xEqF (N := 4) (x := P 15) (y := 3) (A := ev m_M_is 8 [some (eR 0), some (eSt 16)] [] ([mN P, eA 0 600 bY], c)) (B := ev m_M_is 19 [some (eR 0), some (eSt 16)] [] ([mN P, eA 0 600 bY], c)) rfl (wr_id (by omega) (by omega)) (show wr 3 = 3 by decide) (by omega) ?_
      refine xRb (N := 2) (v := 0) (w2 := ([mN P, eA 0 600 bY], c)) rfl (by decide) ?_
      rfl
theorem isB_m6 {B : Nat → Nat} {K S E : Nat} : isB B K S E 17 = isB B K S E 6 := rfl
theorem c_tokenIs6 {P bY : Nat → Int} {B : Nat → Nat} {n S E K : Nat} {ln : Int} {c : Nat × Nat} (h4 : P 4 = (S : Int)) (h5 : P 5 = (E : Int)) (h6 : P 6 = (K : Int)) (hSE : S ≤ E) (hE : E ≤ n) (hn : n ≤ 600) (hK : K ≤ 3) (hby : ∀ i, i < n → bY i = (B i : Int) ∧ B i < 256) : ev m_P_tokenIs 0 [some (eR 0), some (eSt 6)] [] ([pO P, eO 2 [eR 2, eI ln, eSt 20], eA 0 600 bY], c) = some (.inl (some (eI (bI (isB B K S E 6)))), ([pO P, eO 2 [eR 2, eI ln, eSt 20], eA 0 600 bY], c)) := by
  have hln : eLen (eStr 6) = 5 := rfl
  have hch : ∀ p, p < 5 → 0 ≤ (eNth (eStr 6) p).getD 0 ∧ (eNth (eStr 6) p).getD 0 < 128 := by decide
  have hi : isB B K S E 6 = (decide (K = 1 ∧ E - S = 5) && allN (fun p => decide ((B (S + p) : Int) = (eNth (eStr 6) p).getD 0)) 5) := rfl
  by_cases h1 : K = 1 ∧ E - S = 5
  · rw [hi, decide_eq_true h1, Bool.true_and]
    have hl : ∀ p : Nat, p ≤ 5 → ∀ y : Int, y = (p : Int) → (∀ q, q < p → (B (S + q) : Int) = (eNth (eStr 6) q).getD 0) → ev m_P_tokenIs 28 [some (eR 0), some (eSt 6), some (eI y)] [] ([pO P, eO 2 [eR 2, eI ln, eSt 20], eA 0 600 bY], c) = some (.inl (some (eI (bI (allN (fun p => decide ((B (S + p) : Int) = (eNth (eStr 6) p).getD 0)) 5)))), ([pO P, eO 2 [eR 2, eI ln, eSt 20], eA 0 600 bY], c)) := by
      refine loop_up ?_ ?_
      · intro y hy ha
        refine xLtF (N := 4) (x := y) (y := 5) (A := ev m_P_tokenIs 36 [some (eR 0), some (eSt 6), some (eI y)] [] ([pO P, eO 2 [eR 2, eI ln, eSt 20], eA 0 600 bY], c)) (B := ev m_P_tokenIs 63 [some (eR 0), some (eSt 6), some (eI y)] [] ([pO P, eO 2 [eR 2, eI ln, eSt 20], eA 0 600 bY], c)) rfl (wr_id (by omega) (by omega)) (show wr 5 = 5 by decide) (by omega) ?_
        refine xRb (N := 2) (v := 1) (w2 := ([pO P, eO 2 [eR 2, eI ln, eSt 20], eA 0 600 bY], c)) rfl (by decide) ?_
        exact lf (bT (allN_iff.mpr (fun q hq => decide_eq_true (ha q hq))))
      · intro p hp ih y hy ha
        have hb := hby (S + p) (by omega)
        have hcp := hch p hp
        refine xLtT (N := 4) (x := y) (y := 5) (A := ev m_P_tokenIs 36 [some (eR 0), some (eSt 6), some (eI y)] [] ([pO P, eO 2 [eR 2, eI ln, eSt 20], eA 0 600 bY], c)) (B := ev m_P_tokenIs 63 [some (eR 0), some (eSt 6), some (eI y)] [] ([pO P, eO 2 [eR 2, eI ln, eSt 20], eA 0 600 bY], c)) rfl (wr_id (by omega) (by omega)) (show wr 5 = 5 by decide) (by omega) ?_
        refine xLd (N := 7) (n := 600) (i := (P 4) + y) (F := fun zq => ev m_P_tokenIs 47 [some (eR 0), some (eSt 6), some (eI y)] [eI (bY zq)] ([pO P, eO 2 [eR 2, eI ln, eSt 20], eA 0 600 bY], c)) (k := S + p) rfl (wr_nat (by omega) (by omega)) (by omega) ?_
        refine xLd (N := 3) (n := eLen (eStr 6)) (i := y) (F := fun zq => ev m_P_tokenIs 52 [some (eR 0), some (eSt 6), some (eI y)] [eI ((eNth (eStr 6) zq).getD 0), eI (bY (S + p))] ([pO P, eO 2 [eR 2, eI ln, eSt 20], eA 0 600 bY], c)) (k := p) rfl (wr_nat (by omega) (by omega)) (by omega) ?_
        refine xEq (N := 1) (x := bY (S + p)) (y := (eNth (eStr 6) p).getD 0) (A := ev m_P_tokenIs 57 [some (eR 0), some (eSt 6), some (eI y)] [] ([pO P, eO 2 [eR 2, eI ln, eSt 20], eA 0 600 bY], c)) (B := ev m_P_tokenIs 55 [some (eR 0), some (eSt 6), some (eI y)] [] ([pO P, eO 2 [eR 2, eI ln, eSt 20], eA 0 600 bY], c)) rfl (wr_id (by omega) (by omega)) (wr_id (by omega) (by omega)) (fun h52 => ?_) (fun h52 => ?_)
        · refine xSeg (N := 2) (r := ev m_P_tokenIs 28 [some (eR 0), some (eSt 6), some (eI (y + 1))] [] ([pO P, eO 2 [eR 2, eI ln, eSt 20], eA 0 600 bY], c)) rfl ?_
          refine ih _ (by omega) (fun q hq => ?_)
          by_cases hqp : q = p
          · subst hqp; omega
          · exact ha q (by omega)
        · refine xRb (N := 2) (v := 0) (w2 := ([pO P, eO 2 [eR 2, eI ln, eSt 20], eA 0 600 bY], c)) rfl (by decide) ?_
          exact lf (bF (allN_F hp (decide_eq_false (by omega))))
    refine xEqT (N := 4) (x := P 6) (y := 1) (A := ev m_P_tokenIs 8 [some (eR 0), some (eSt 6)] [] ([pO P, eO 2 [eR 2, eI ln, eSt 20], eA 0 600 bY], c)) (B := ev m_P_tokenIs 24 [some (eR 0), some (eSt 6)] [] ([pO P, eO 2 [eR 2, eI ln, eSt 20], eA 0 600 bY], c)) rfl (wr_id (by omega) (by omega)) (show wr 1 = 1 by decide) (by omega) ?_
    refine xEqT (N := 8) (x := (P 5) - (P 4)) (y := 5) (A := ev m_P_tokenIs 26 [some (eR 0), some (eSt 6)] [] ([pO P, eO 2 [eR 2, eI ln, eSt 20], eA 0 600 bY], c)) (B := ev m_P_tokenIs 24 [some (eR 0), some (eSt 6)] [] ([pO P, eO 2 [eR 2, eI ln, eSt 20], eA 0 600 bY], c)) rfl (wr_id (by omega) (by omega)) (show wr 5 = 5 by decide) (by omega) ?_
    refine xSeg (N := 2) (r := ev m_P_tokenIs 28 [some (eR 0), some (eSt 6), some (eI 0)] [] ([pO P, eO 2 [eR 2, eI ln, eSt 20], eA 0 600 bY], c)) rfl ?_
    exact hl 0 (Nat.zero_le _) _ rfl (fun k hk => absurd hk (by omega))
  · rw [hi, decide_eq_false h1, Bool.false_and]
    refine xEq (N := 4) (x := P 6) (y := 1) (A := ev m_P_tokenIs 8 [some (eR 0), some (eSt 6)] [] ([pO P, eO 2 [eR 2, eI ln, eSt 20], eA 0 600 bY], c)) (B := ev m_P_tokenIs 24 [some (eR 0), some (eSt 6)] [] ([pO P, eO 2 [eR 2, eI ln, eSt 20], eA 0 600 bY], c)) rfl (wr_id (by omega) (by omega)) (show wr 1 = 1 by decide) (fun h5 => ?_) (fun h5 => ?_)
    · refine xEq (N := 8) (x := (P 5) - (P 4)) (y := 5) (A := ev m_P_tokenIs 26 [some (eR 0), some (eSt 6)] [] ([pO P, eO 2 [eR 2, eI ln, eSt 20], eA 0 600 bY], c)) (B := ev m_P_tokenIs 24 [some (eR 0), some (eSt 6)] [] ([pO P, eO 2 [eR 2, eI ln, eSt 20], eA 0 600 bY], c)) rfl (wr_id (by omega) (by omega)) (show wr 5 = 5 by decide) (fun h21 => ?_) (fun h21 => ?_)
      · refine xSeg (N := 2) (r := ev m_P_tokenIs 28 [some (eR 0), some (eSt 6), some (eI 0)] [] ([pO P, eO 2 [eR 2, eI ln, eSt 20], eA 0 600 bY], c)) rfl ?_
        exact absurd h1 (by omega)
      · refine xRb (N := 2) (v := 0) (w2 := ([pO P, eO 2 [eR 2, eI ln, eSt 20], eA 0 600 bY], c)) rfl (by decide) ?_
        rfl
    · refine xRb (N := 2) (v := 0) (w2 := ([pO P, eO 2 [eR 2, eI ln, eSt 20], eA 0 600 bY], c)) rfl (by decide) ?_
      rfl
theorem n_is6 {P bY : Nat → Int} {B : Nat → Nat} {n S E K : Nat} {c : Nat × Nat} (h14 : P 14 = (S : Int)) (h15 : P 15 = ((tkT K : Nat) : Int)) (h17 : P 17 = ((if K = 1 then E - S else 0 : Nat) : Int)) (hSE : S ≤ E) (hE : E ≤ n) (hn : n ≤ 600) (hK : K ≤ 3) (hby : ∀ i, i < n → bY i = (B i : Int) ∧ B i < 256) : ev m_M_is 0 [some (eR 0), some (eSt 17)] [] ([mN P, eA 0 600 bY], c) = some (.inl (some (eI (bI (isB B K S E 17)))), ([mN P, eA 0 600 bY], c)) := by
  have hln : eLen (eStr 17) = 5 := rfl
  have hch : ∀ p, p < 5 → 0 ≤ (eNth (eStr 17) p).getD 0 ∧ (eNth (eStr 17) p).getD 0 < 128 := by decide
  have hi : isB B K S E 17 = (decide (K = 1 ∧ E - S = 5) && allN (fun p => decide ((B (S + p) : Int) = (eNth (eStr 17) p).getD 0)) 5) := rfl
  have hT : P 15 = 3 ↔ K = 1 := by rw [h15]; unfold tkT; split <;> (try split) <;> (try split) <;> omega
  by_cases h1 : K = 1 ∧ E - S = 5
  · rw [hi, decide_eq_true h1, Bool.true_and]
    rw [if_pos h1.1] at h17
    have hT2 := hT.mpr h1.1
    have hl : ∀ p : Nat, p ≤ 5 → ∀ y : Int, y = (p : Int) → (∀ q, q < p → (B (S + q) : Int) = (eNth (eStr 17) q).getD 0) → ev m_M_is 23 [some (eR 0), some (eSt 17), some (eI y)] [] ([mN P, eA 0 600 bY], c) = some (.inl (some (eI (bI (allN (fun p => decide ((B (S + p) : Int) = (eNth (eStr 17) p).getD 0)) 5)))), ([mN P, eA 0 600 bY], c)) := by
      refine loop_up ?_ ?_
      · intro y hy ha
        refine xLtF (N := 4) (x := y) (y := P 17) (A := ev m_M_is 31 [some (eR 0), some (eSt 17), some (eI y)] [] ([mN P, eA 0 600 bY], c)) (B := ev m_M_is 58 [some (eR 0), some (eSt 17), some (eI y)] [] ([mN P, eA 0 600 bY], c)) rfl (wr_id (by omega) (by omega)) (wr_id (by omega) (by omega)) (by omega) ?_
        refine xRb (N := 2) (v := 1) (w2 := ([mN P, eA 0 600 bY], c)) rfl (by decide) ?_
        exact lf (bT (allN_iff.mpr (fun q hq => decide_eq_true (ha q hq))))
      · intro p hp ih y hy ha
        have hb := hby (S + p) (by omega)
        have hcp := hch p hp
        refine xLtT (N := 4) (x := y) (y := P 17) (A := ev m_M_is 31 [some (eR 0), some (eSt 17), some (eI y)] [] ([mN P, eA 0 600 bY], c)) (B := ev m_M_is 58 [some (eR 0), some (eSt 17), some (eI y)] [] ([mN P, eA 0 600 bY], c)) rfl (wr_id (by omega) (by omega)) (wr_id (by omega) (by omega)) (by omega) ?_
        refine xLd (N := 7) (n := 600) (i := (P 14) + y) (F := fun zq => ev m_M_is 42 [some (eR 0), some (eSt 17), some (eI y)] [eI (bY zq)] ([mN P, eA 0 600 bY], c)) (k := S + p) rfl (wr_nat (by omega) (by omega)) (by omega) ?_
        refine xLd (N := 3) (n := eLen (eStr 17)) (i := y) (F := fun zq => ev m_M_is 47 [some (eR 0), some (eSt 17), some (eI y)] [eI ((eNth (eStr 17) zq).getD 0), eI (bY (S + p))] ([mN P, eA 0 600 bY], c)) (k := p) rfl (wr_nat (by omega) (by omega)) (by omega) ?_
        refine xEq (N := 1) (x := bY (S + p)) (y := (eNth (eStr 17) p).getD 0) (A := ev m_M_is 52 [some (eR 0), some (eSt 17), some (eI y)] [] ([mN P, eA 0 600 bY], c)) (B := ev m_M_is 50 [some (eR 0), some (eSt 17), some (eI y)] [] ([mN P, eA 0 600 bY], c)) rfl (wr_id (by omega) (by omega)) (wr_id (by omega) (by omega)) (fun h47 => ?_) (fun h47 => ?_)
        · refine xSeg (N := 2) (r := ev m_M_is 23 [some (eR 0), some (eSt 17), some (eI (y + 1))] [] ([mN P, eA 0 600 bY], c)) rfl ?_
          refine ih _ (by omega) (fun q hq => ?_)
          by_cases hqp : q = p
          · subst hqp; omega
          · exact ha q (by omega)
        · refine xRb (N := 2) (v := 0) (w2 := ([mN P, eA 0 600 bY], c)) rfl (by decide) ?_
          exact lf (bF (allN_F hp (decide_eq_false (by omega))))
    refine xEqT (N := 4) (x := P 15) (y := 3) (A := ev m_M_is 8 [some (eR 0), some (eSt 17)] [] ([mN P, eA 0 600 bY], c)) (B := ev m_M_is 19 [some (eR 0), some (eSt 17)] [] ([mN P, eA 0 600 bY], c)) rfl (wr_id (by omega) (by omega)) (show wr 3 = 3 by decide) (by omega) ?_
    refine xEqT (N := 5) (x := P 17) (y := 5) (A := ev m_M_is 21 [some (eR 0), some (eSt 17)] [] ([mN P, eA 0 600 bY], c)) (B := ev m_M_is 19 [some (eR 0), some (eSt 17)] [] ([mN P, eA 0 600 bY], c)) rfl (wr_id (by omega) (by omega)) (show wr 5 = 5 by decide) (by omega) ?_
    refine xSeg (N := 2) (r := ev m_M_is 23 [some (eR 0), some (eSt 17), some (eI 0)] [] ([mN P, eA 0 600 bY], c)) rfl ?_
    exact hl 0 (Nat.zero_le _) _ rfl (fun k hk => absurd hk (by omega))
  · rw [hi, decide_eq_false h1, Bool.false_and]
    have h17b : K = 1 → P 17 = ((E - S : Nat) : Int) := fun hk => by rw [h17, if_pos hk]
    by_cases hk : K = 1
    · have h17c := h17b hk
      have hT2 := hT.mpr hk
      refine xEqT (N := 4) (x := P 15) (y := 3) (A := ev m_M_is 8 [some (eR 0), some (eSt 17)] [] ([mN P, eA 0 600 bY], c)) (B := ev m_M_is 19 [some (eR 0), some (eSt 17)] [] ([mN P, eA 0 600 bY], c)) rfl (wr_id (by omega) (by omega)) (show wr 3 = 3 by decide) (by omega) ?_
      refine xEqF (N := 5) (x := P 17) (y := 5) (A := ev m_M_is 21 [some (eR 0), some (eSt 17)] [] ([mN P, eA 0 600 bY], c)) (B := ev m_M_is 19 [some (eR 0), some (eSt 17)] [] ([mN P, eA 0 600 bY], c)) rfl (wr_id (by omega) (by omega)) (show wr 5 = 5 by decide) (by omega) ?_
      refine xRb (N := 2) (v := 0) (w2 := ([mN P, eA 0 600 bY], c)) rfl (by decide) ?_
      rfl
    · have hT2 : P 15 ≠ 3 := fun h => hk (hT.mp h)
      have h15b : P 15 = 0 ∨ P 15 = 1 ∨ P 15 = 2 ∨ P 15 = 3 := by rw [h15]; unfold tkT; split <;> (try split) <;> (try split) <;> omega
      refine xEqF (N := 4) (x := P 15) (y := 3) (A := ev m_M_is 8 [some (eR 0), some (eSt 17)] [] ([mN P, eA 0 600 bY], c)) (B := ev m_M_is 19 [some (eR 0), some (eSt 17)] [] ([mN P, eA 0 600 bY], c)) rfl (wr_id (by omega) (by omega)) (show wr 3 = 3 by decide) (by omega) ?_
      refine xRb (N := 2) (v := 0) (w2 := ([mN P, eA 0 600 bY], c)) rfl (by decide) ?_
      rfl
