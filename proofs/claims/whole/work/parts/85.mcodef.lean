def cdF (B : Nat → Nat) (S : Nat) : Nat → Nat
  | 0 => 0
  | j + 1 => cdF B S j * 32 + (B (S + j) - 96)
def isL (b : Nat) : Bool := decide (97 ≤ b ∧ b ≤ 122)
theorem cdF_lt {B : Nat → Nat} {S : Nat} : ∀ {j : Nat}, (∀ q, q < j → 97 ≤ B (S + q) ∧ B (S + q) ≤ 122) → cdF B S j < 32 ^ j
  | 0, _ => by show 0 < 1; omega
  | j + 1, h => by
    have h1 := cdF_lt (j := j) (fun q hq => h q (by omega))
    have h2 := h j (by omega)
    show cdF B S j * 32 + (B (S + j) - 96) < 32 ^ (j + 1)
    rw [Nat.pow_succ]
    omega
set_option maxRecDepth 100000
theorem n_codeFrom {P bY : Nat → Int} {B : Nat → Nat} {n S L : Nat} {x z : Int} {c : Nat × Nat} (hn : n ≤ 600) (hby : ∀ i, i < n → bY i = (B i : Int) ∧ B i < 256) (hx : x = (S : Int)) (hz : z = (L : Int)) (hSL : S + L ≤ n) : ev m_M_codeFrom 0 [some (eR 0), some (eI x), some (eI z)] [] ([mN P, eA 0 600 bY], c) = some (.inl (some (eI ((if (2 ≤ L ∧ L ≤ 6) ∧ allN (fun p => isL (B (S + p))) L = true then cdF B S L else 0 : Nat) : Int))), ([mN P, eA 0 600 bY], c)) := by
  by_cases hL : 2 ≤ L ∧ L ≤ 6
  · have hl : ∀ p : Nat, p ≤ L → ∀ u y : Int, u = ((cdF B S p : Nat) : Int) → y = (p : Int) → (∀ q, q < p → 97 ≤ B (S + q) ∧ B (S + q) ≤ 122) → ev m_M_codeFrom 17 [some (eR 0), some (eI x), some (eI z), some (eI u), some (eI y)] [] ([mN P, eA 0 600 bY], c) = some (.inl (some (eI ((if (2 ≤ L ∧ L ≤ 6) ∧ allN (fun p => isL (B (S + p))) L = true then cdF B S L else 0 : Nat) : Int))), ([mN P, eA 0 600 bY], c)) := by
      refine loop_up ?_ ?_
      · intro u y hu hy ha
        rw [if_pos ⟨hL, allN_iff.mpr (fun q hq => decide_eq_true (ha q hq))⟩]
        refine xLtF (N := 3) (x := y) (y := z) (A := ev m_M_codeFrom 23 [some (eR 0), some (eI x), some (eI z), some (eI u), some (eI y)] [] ([mN P, eA 0 600 bY], c)) (B := ev m_M_codeFrom 63 [some (eR 0), some (eI x), some (eI z), some (eI u), some (eI y)] [] ([mN P, eA 0 600 bY], c)) rfl (wr_id (by omega) (by omega)) (wr_id (by omega) (by omega)) (by omega) ?_
        refine xSeg (N := 2) (r := some (.inl (some (eI u)), ([mN P, eA 0 600 bY], c))) rfl ?_
        exact lf hu
      · intro p hp ih u y hu hy ha
        have hb := hby (S + p) (by omega)
        by_cases hlet : 97 ≤ B (S + p) ∧ B (S + p) ≤ 122
        · have hlt := Nat.lt_of_lt_of_le (cdF_lt ha) (show 32 ^ p ≤ 32 ^ 5 from Nat.pow_le_pow_right (by decide) (by omega))
          have h25 : cdF B S p < 33554432 := hlt
          have hnew : bOr (bShl u 5) (bY (S + p) - 96) = ((cdF B S (p + 1) : Nat) : Int) := by
            rw [hu, bShl5 h25, hb.1, show ((B (S + p) : Int) - 96) = ((B (S + p) - 96 : Nat) : Int) by omega, bOr32 h25 (by omega)]
            rfl
          have hq := fun u2 (h2 : u2 = ((cdF B S (p + 1) : Nat) : Int)) => ih u2 (y + 1) h2 (by omega) (fun q hq => by
            by_cases hqp : q = p
            · rw [hqp]; exact hlet
            · exact ha q (by omega))
          refine xLtT (N := 3) (x := y) (y := z) (A := ev m_M_codeFrom 23 [some (eR 0), some (eI x), some (eI z), some (eI u), some (eI y)] [] ([mN P, eA 0 600 bY], c)) (B := ev m_M_codeFrom 63 [some (eR 0), some (eI x), some (eI z), some (eI u), some (eI y)] [] ([mN P, eA 0 600 bY], c)) rfl (wr_id (by omega) (by omega)) (wr_id (by omega) (by omega)) (by omega) ?_
          refine xLd (N := 6) (n := 600) (i := x + y) (F := fun zq => ev m_M_codeFrom 32 [some (eR 0), some (eI x), some (eI z), some (eI u), some (eI y)] [eI (bY zq)] ([mN P, eA 0 600 bY], c)) (k := S + p) rfl (wr_nat (by omega) (by omega)) (by omega) ?_
          refine xCallI (N := 1) (v := bI (decide (97 ≤ bY (S + p) ∧ bY (S + p) ≤ 122))) (M2 := m_M_codeFrom) (pc2 := 32) (ls2 := [some (eR 0), some (eI x), some (eI z), some (eI u), some (eI y)]) (st2 := []) (y := m_M_isLetter) (as := [some (eI (bY (S + p)))]) (w2 := ([mN P, eA 0 600 bY], c)) rfl (n_isLetter (by omega) (by omega)) (fun r32 hr32 => ?_)
          have hz2 : r32 = 1 := (bI_1 hr32).2.1.mpr (decide_eq_true (by omega))
          refine xEqF (N := 1) (x := r32) (y := 0) (A := ev m_M_codeFrom 38 [some (eR 0), some (eI x), some (eI z), some (eI u), some (eI y)] [] ([mN P, eA 0 600 bY], c)) (B := ev m_M_codeFrom 40 [some (eR 0), some (eI x), some (eI z), some (eI u), some (eI y)] [] ([mN P, eA 0 600 bY], c)) rfl (wr_id (by omega) (by omega)) (show wr 0 = 0 by decide) (by omega) ?_
          refine xLd (N := 9) (n := 600) (i := x + y) (F := fun zq => ev m_M_codeFrom 52 [some (eR 0), some (eI x), some (eI z), some (eI u), some (eI y)] [eI (bY zq), eI (bShl u 5)] ([mN P, eA 0 600 bY], c)) (k := S + p) rfl (wr_nat (by omega) (by omega)) (by omega) ?_
          refine xSeg (N := 6) (r := ev m_M_codeFrom 17 [some (eR 0), some (eI x), some (eI z), some (eI (bOr (bShl u 5) ((bY (S + p)) - 96))), some (eI (y + 1))] [] ([mN P, eA 0 600 bY], c)) rfl ?_
          exact hq _ hnew
        · rw [if_neg (fun h => absurd (allN_iff.mp h.2 p hp) (by unfold isL; rw [decide_eq_false hlet]; exact Bool.false_ne_true))]
          refine xLtT (N := 3) (x := y) (y := z) (A := ev m_M_codeFrom 23 [some (eR 0), some (eI x), some (eI z), some (eI u), some (eI y)] [] ([mN P, eA 0 600 bY], c)) (B := ev m_M_codeFrom 63 [some (eR 0), some (eI x), some (eI z), some (eI u), some (eI y)] [] ([mN P, eA 0 600 bY], c)) rfl (wr_id (by omega) (by omega)) (wr_id (by omega) (by omega)) (by omega) ?_
          refine xLd (N := 6) (n := 600) (i := x + y) (F := fun zq => ev m_M_codeFrom 32 [some (eR 0), some (eI x), some (eI z), some (eI u), some (eI y)] [eI (bY zq)] ([mN P, eA 0 600 bY], c)) (k := S + p) rfl (wr_nat (by omega) (by omega)) (by omega) ?_
          refine xCallI (N := 1) (v := bI (decide (97 ≤ bY (S + p) ∧ bY (S + p) ≤ 122))) (M2 := m_M_codeFrom) (pc2 := 32) (ls2 := [some (eR 0), some (eI x), some (eI z), some (eI u), some (eI y)]) (st2 := []) (y := m_M_isLetter) (as := [some (eI (bY (S + p)))]) (w2 := ([mN P, eA 0 600 bY], c)) rfl (n_isLetter (by omega) (by omega)) (fun r32 hr32 => ?_)
          have hz2 : r32 = 0 := (bI_1 hr32).2.2.mpr (decide_eq_false (by omega))
          refine xEqT (N := 1) (x := r32) (y := 0) (A := ev m_M_codeFrom 38 [some (eR 0), some (eI x), some (eI z), some (eI u), some (eI y)] [] ([mN P, eA 0 600 bY], c)) (B := ev m_M_codeFrom 40 [some (eR 0), some (eI x), some (eI z), some (eI u), some (eI y)] [] ([mN P, eA 0 600 bY], c)) rfl (wr_id (by omega) (by omega)) (show wr 0 = 0 by decide) (by omega) ?_
          refine xSeg (N := 2) (r := some (.inl (some (eI 0)), ([mN P, eA 0 600 bY], c))) rfl ?_
          rfl
    refine xCallI (N := 4) (v := bI (decide (2 ≤ z ∧ z ≤ 6))) (M2 := m_M_codeFrom) (pc2 := 4) (ls2 := [some (eR 0), some (eI x), some (eI z)]) (st2 := []) (y := m_M_isBetween) (as := [some (eI z), some (eI 2), some (eI 6)]) (w2 := ([mN P, eA 0 600 bY], c)) rfl (n_between (by omega) (by omega) (by omega)) (fun r4 hr4 => ?_)
    have hz2 : r4 = 1 := (bI_1 hr4).2.1.mpr (decide_eq_true (by omega))
    refine xEqF (N := 1) (x := r4) (y := 0) (A := ev m_M_codeFrom 10 [some (eR 0), some (eI x), some (eI z)] [] ([mN P, eA 0 600 bY], c)) (B := ev m_M_codeFrom 12 [some (eR 0), some (eI x), some (eI z)] [] ([mN P, eA 0 600 bY], c)) rfl (wr_id (by omega) (by omega)) (show wr 0 = 0 by decide) (by omega) ?_
    refine xSeg (N := 4) (r := ev m_M_codeFrom 17 [some (eR 0), some (eI x), some (eI z), some (eI 0), some (eI 0)] [] ([mN P, eA 0 600 bY], c)) rfl ?_
    exact hl 0 (Nat.zero_le _) _ _ rfl rfl (fun q hq => absurd hq (by omega))
  · rw [if_neg (fun h => hL h.1)]
    refine xCallI (N := 4) (v := bI (decide (2 ≤ z ∧ z ≤ 6))) (M2 := m_M_codeFrom) (pc2 := 4) (ls2 := [some (eR 0), some (eI x), some (eI z)]) (st2 := []) (y := m_M_isBetween) (as := [some (eI z), some (eI 2), some (eI 6)]) (w2 := ([mN P, eA 0 600 bY], c)) rfl (n_between (by omega) (by omega) (by omega)) (fun r4 hr4 => ?_)
    have hz2 : r4 = 0 := (bI_1 hr4).2.2.mpr (decide_eq_false (by omega))
    refine xEqT (N := 1) (x := r4) (y := 0) (A := ev m_M_codeFrom 10 [some (eR 0), some (eI x), some (eI z)] [] ([mN P, eA 0 600 bY], c)) (B := ev m_M_codeFrom 12 [some (eR 0), some (eI x), some (eI z)] [] ([mN P, eA 0 600 bY], c)) rfl (wr_id (by omega) (by omega)) (show wr 0 = 0 by decide) (by omega) ?_
    refine xSeg (N := 2) (r := some (.inl (some (eI 0)), ([mN P, eA 0 600 bY], c))) rfl ?_
    rfl
