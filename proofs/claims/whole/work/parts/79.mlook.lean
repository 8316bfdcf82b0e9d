/-! The model's reader: checks, looks. -/
def ckM (P : Nat → Int) (b : Bool) (k : Int) : Nat → Int := bif decide (P 18 = 0) && !b then eUp (eUp P 18 k) 19 (P 14) else P
theorem ckM_T {P : Nat → Int} {k : Int} : ckM P true k = P := by unfold ckM; rw [Bool.not_true, Bool.and_false]; rfl
theorem ckM_C {P : Nat → Int} {b : Bool} {k : Int} (h : P 18 ≠ 0) : ckM P b k = P := by unfold ckM; rw [decide_eq_false h, Bool.false_and]; rfl
theorem ckM_F {P : Nat → Int} {k : Int} (h : P 18 = 0) : ckM P false k = eUp (eUp P 18 k) 19 (P 14) := by unfold ckM; rw [decide_eq_true h]; rfl
set_option maxRecDepth 100000
theorem n_check {P bY : Nat → Int} {c : Nat × Nat} {x k : Int} {b : Bool} (hx : x = bI b) (hk : 1 ≤ k ∧ k ≤ 9) (h18 : 0 ≤ P 18 ∧ P 18 ≤ 9) : ev m_M_check 0 [some (eR 0), some (eI x), some (eI k)] [] ([mN P, eA 0 600 bY], c) = some (.inl (some (eI (bI (decide (ckM P b k 18 = 0))))), ([mN (ckM P b k), eA 0 600 bY], c)) := by
  have hb := bI_1 hx
  by_cases h0 : P 18 = 0
  · cases b with
    | true =>
      rw [ckM_T, decide_eq_true h0]
      have hx1 : x = 1 := hx
      refine xEq (N := 3) (x := P 18) (y := 0) (A := ev m_M_check 7 [some (eR 0), some (eI x), some (eI k)] [] ([mN P, eA 0 600 bY], c)) (B := ev m_M_check 24 [some (eR 0), some (eI x), some (eI k)] [] ([mN P, eA 0 600 bY], c)) rfl (wr_id (by omega) (by omega)) (show wr 0 = 0 by decide) (fun h4 => ?_) (fun h4 => ?_)
      · refine xEq (N := 2) (x := x) (y := 0) (A := ev m_M_check 11 [some (eR 0), some (eI x), some (eI k)] [] ([mN P, eA 0 600 bY], c)) (B := ev m_M_check 24 [some (eR 0), some (eI x), some (eI k)] [] ([mN P, eA 0 600 bY], c)) rfl (wr_id (by omega) (by omega)) (show wr 0 = 0 by decide) (fun h8 => ?_) (fun h8 => ?_)
        · refine xEq (N := 10) (x := k) (y := 0) (A := ev m_M_check 31 [some (eR 0), some (eI x), some (eI k)] [] ([mN (eUp (eUp P 18 k) 19 (P 14)), eA 0 600 bY], c)) (B := ev m_M_check 35 [some (eR 0), some (eI x), some (eI k)] [] ([mN (eUp (eUp P 18 k) 19 (P 14)), eA 0 600 bY], c)) rfl (wr_id (by omega) (by omega)) (show wr 0 = 0 by decide) (fun h28 => ?_) (fun h28 => ?_)
          · refine xRb (N := 3) (v := 1) (w2 := ([mN (eUp (eUp P 18 k) 19 (P 14)), eA 0 600 bY], c)) rfl (by decide) ?_
            first | rfl | omega
          · refine xRb (N := 2) (v := 0) (w2 := ([mN (eUp (eUp P 18 k) 19 (P 14)), eA 0 600 bY], c)) rfl (by decide) ?_
            first | rfl | omega
        · refine xEq (N := 3) (x := P 18) (y := 0) (A := ev m_M_check 31 [some (eR 0), some (eI x), some (eI k)] [] ([mN P, eA 0 600 bY], c)) (B := ev m_M_check 35 [some (eR 0), some (eI x), some (eI k)] [] ([mN P, eA 0 600 bY], c)) rfl (wr_id (by omega) (by omega)) (show wr 0 = 0 by decide) (fun h28 => ?_) (fun h28 => ?_)
          · refine xRb (N := 3) (v := 1) (w2 := ([mN P, eA 0 600 bY], c)) rfl (by decide) ?_
            first | rfl | omega
          · refine xRb (N := 2) (v := 0) (w2 := ([mN P, eA 0 600 bY], c)) rfl (by decide) ?_
            first | rfl | omega
      · refine xEq (N := 3) (x := P 18) (y := 0) (A := ev m_M_check 31 [some (eR 0), some (eI x), some (eI k)] [] ([mN P, eA 0 600 bY], c)) (B := ev m_M_check 35 [some (eR 0), some (eI x), some (eI k)] [] ([mN P, eA 0 600 bY], c)) rfl (wr_id (by omega) (by omega)) (show wr 0 = 0 by decide) (fun h28 => ?_) (fun h28 => ?_)
        · refine xRb (N := 3) (v := 1) (w2 := ([mN P, eA 0 600 bY], c)) rfl (by decide) ?_
          first | rfl | omega
        · refine xRb (N := 2) (v := 0) (w2 := ([mN P, eA 0 600 bY], c)) rfl (by decide) ?_
          first | rfl | omega
    | false =>
      rw [ckM_F h0]
      have hx1 : x = 0 := hx
      have e18 : eUp (eUp P 18 k) 19 (P 14) 18 = k := by rw [eUp_ne (by omega), eUp_at]
      rw [e18, decide_eq_false (by omega)]
      refine xEq (N := 3) (x := P 18) (y := 0) (A := ev m_M_check 7 [some (eR 0), some (eI x), some (eI k)] [] ([mN P, eA 0 600 bY], c)) (B := ev m_M_check 24 [some (eR 0), some (eI x), some (eI k)] [] ([mN P, eA 0 600 bY], c)) rfl (wr_id (by omega) (by omega)) (show wr 0 = 0 by decide) (fun h4 => ?_) (fun h4 => ?_)
      · refine xEq (N := 2) (x := x) (y := 0) (A := ev m_M_check 11 [some (eR 0), some (eI x), some (eI k)] [] ([mN P, eA 0 600 bY], c)) (B := ev m_M_check 24 [some (eR 0), some (eI x), some (eI k)] [] ([mN P, eA 0 600 bY], c)) rfl (wr_id (by omega) (by omega)) (show wr 0 = 0 by decide) (fun h8 => ?_) (fun h8 => ?_)
        · refine xEq (N := 10) (x := k) (y := 0) (A := ev m_M_check 31 [some (eR 0), some (eI x), some (eI k)] [] ([mN (eUp (eUp P 18 k) 19 (P 14)), eA 0 600 bY], c)) (B := ev m_M_check 35 [some (eR 0), some (eI x), some (eI k)] [] ([mN (eUp (eUp P 18 k) 19 (P 14)), eA 0 600 bY], c)) rfl (wr_id (by omega) (by omega)) (show wr 0 = 0 by decide) (fun h28 => ?_) (fun h28 => ?_)
          · refine xRb (N := 3) (v := 1) (w2 := ([mN (eUp (eUp P 18 k) 19 (P 14)), eA 0 600 bY], c)) rfl (by decide) ?_
            first | rfl | omega
          · refine xRb (N := 2) (v := 0) (w2 := ([mN (eUp (eUp P 18 k) 19 (P 14)), eA 0 600 bY], c)) rfl (by decide) ?_
            first | rfl | omega
        · refine xEq (N := 3) (x := P 18) (y := 0) (A := ev m_M_check 31 [some (eR 0), some (eI x), some (eI k)] [] ([mN P, eA 0 600 bY], c)) (B := ev m_M_check 35 [some (eR 0), some (eI x), some (eI k)] [] ([mN P, eA 0 600 bY], c)) rfl (wr_id (by omega) (by omega)) (show wr 0 = 0 by decide) (fun h28 => ?_) (fun h28 => ?_)
          · refine xRb (N := 3) (v := 1) (w2 := ([mN P, eA 0 600 bY], c)) rfl (by decide) ?_
            first | rfl | omega
          · refine xRb (N := 2) (v := 0) (w2 := ([mN P, eA 0 600 bY], c)) rfl (by decide) ?_
            first | rfl | omega
      · refine xEq (N := 3) (x := P 18) (y := 0) (A := ev m_M_check 31 [some (eR 0), some (eI x), some (eI k)] [] ([mN P, eA 0 600 bY], c)) (B := ev m_M_check 35 [some (eR 0), some (eI x), some (eI k)] [] ([mN P, eA 0 600 bY], c)) rfl (wr_id (by omega) (by omega)) (show wr 0 = 0 by decide) (fun h28 => ?_) (fun h28 => ?_)
        · refine xRb (N := 3) (v := 1) (w2 := ([mN P, eA 0 600 bY], c)) rfl (by decide) ?_
          first | rfl | omega
        · refine xRb (N := 2) (v := 0) (w2 := ([mN P, eA 0 600 bY], c)) rfl (by decide) ?_
          first | rfl | omega
  · rw [ckM_C h0, decide_eq_false h0]
    refine xEq (N := 3) (x := P 18) (y := 0) (A := ev m_M_check 7 [some (eR 0), some (eI x), some (eI k)] [] ([mN P, eA 0 600 bY], c)) (B := ev m_M_check 24 [some (eR 0), some (eI x), some (eI k)] [] ([mN P, eA 0 600 bY], c)) rfl (wr_id (by omega) (by omega)) (show wr 0 = 0 by decide) (fun h4 => ?_) (fun h4 => ?_)
    · refine xEq (N := 2) (x := x) (y := 0) (A := ev m_M_check 11 [some (eR 0), some (eI x), some (eI k)] [] ([mN P, eA 0 600 bY], c)) (B := ev m_M_check 24 [some (eR 0), some (eI x), some (eI k)] [] ([mN P, eA 0 600 bY], c)) rfl (wr_id (by omega) (by omega)) (show wr 0 = 0 by decide) (fun h8 => ?_) (fun h8 => ?_)
      · refine xEq (N := 10) (x := k) (y := 0) (A := ev m_M_check 31 [some (eR 0), some (eI x), some (eI k)] [] ([mN (eUp (eUp P 18 k) 19 (P 14)), eA 0 600 bY], c)) (B := ev m_M_check 35 [some (eR 0), some (eI x), some (eI k)] [] ([mN (eUp (eUp P 18 k) 19 (P 14)), eA 0 600 bY], c)) rfl (wr_id (by omega) (by omega)) (show wr 0 = 0 by decide) (fun h28 => ?_) (fun h28 => ?_)
        · refine xRb (N := 3) (v := 1) (w2 := ([mN (eUp (eUp P 18 k) 19 (P 14)), eA 0 600 bY], c)) rfl (by decide) ?_
          first | rfl | omega
        · refine xRb (N := 2) (v := 0) (w2 := ([mN (eUp (eUp P 18 k) 19 (P 14)), eA 0 600 bY], c)) rfl (by decide) ?_
          first | rfl | omega
      · refine xEq (N := 3) (x := P 18) (y := 0) (A := ev m_M_check 31 [some (eR 0), some (eI x), some (eI k)] [] ([mN P, eA 0 600 bY], c)) (B := ev m_M_check 35 [some (eR 0), some (eI x), some (eI k)] [] ([mN P, eA 0 600 bY], c)) rfl (wr_id (by omega) (by omega)) (show wr 0 = 0 by decide) (fun h28 => ?_) (fun h28 => ?_)
        · refine xRb (N := 3) (v := 1) (w2 := ([mN P, eA 0 600 bY], c)) rfl (by decide) ?_
          first | rfl | omega
        · refine xRb (N := 2) (v := 0) (w2 := ([mN P, eA 0 600 bY], c)) rfl (by decide) ?_
          first | rfl | omega
    · refine xEq (N := 3) (x := P 18) (y := 0) (A := ev m_M_check 31 [some (eR 0), some (eI x), some (eI k)] [] ([mN P, eA 0 600 bY], c)) (B := ev m_M_check 35 [some (eR 0), some (eI x), some (eI k)] [] ([mN P, eA 0 600 bY], c)) rfl (wr_id (by omega) (by omega)) (show wr 0 = 0 by decide) (fun h28 => ?_) (fun h28 => ?_)
      · refine xRb (N := 3) (v := 1) (w2 := ([mN P, eA 0 600 bY], c)) rfl (by decide) ?_
        first | rfl | omega
      · refine xRb (N := 2) (v := 0) (w2 := ([mN P, eA 0 600 bY], c)) rfl (by decide) ?_
        first | rfl | omega
theorem n_nextC {P bY : Nat → Int} {c : Nat × Nat} (h18 : 0 ≤ P 18 ∧ P 18 ≤ 9) (h0 : P 18 ≠ 0) : ev m_M_next 0 [some (eR 0)] [] ([mN P, eA 0 600 bY], c) = some (.inl none, ([mN P, eA 0 600 bY], c)) := by
  refine xEqF (N := 3) (x := P 18) (y := 0) (A := ev m_M_next 7 [some (eR 0)] [] ([mN P, eA 0 600 bY], c)) (B := ev m_M_next 11 [some (eR 0)] [] ([mN P, eA 0 600 bY], c)) rfl (wr_id (by omega) (by omega)) (show wr 0 = 0 by decide) (by omega) ?_
  refine xSeg (N := 1) (r := some (.inl none, ([mN P, eA 0 600 bY], c))) rfl ?_
  rfl
theorem n_next {P bY : Nat → Int} {B : Nat → Nat} {n e : Nat} {c : Nat × Nat} (h0 : P 18 = 0) (h12 : P 12 = (n : Int)) (hn : n ≤ 600) (hby : ∀ i, i < n → bY i = (B i : Int) ∧ B i < 256) (he : P 13 = (e : Int)) (hen : e ≤ n) : ∃ P' : Nat → Int, (P' 14 = ((tkS B n e : Nat) : Int) ∧ P' 13 = ((tkE B n e : Nat) : Int) ∧ P' 15 = ((tkT (tkK B n e) : Nat) : Int) ∧ P' 16 = ((tkV B n e : Nat) : Int) ∧ P' 17 = ((tkL B n e : Nat) : Int) ∧ kM P P') ∧ ev m_M_next 0 [some (eR 0)] [] ([mN P, eA 0 600 bY], c) = some (.inl none, ([mN P', eA 0 600 bY], c)) := by
  obtain ⟨P', q1, q2⟩ := n_advance (c := c) h12 hn hby he hen
  refine ⟨P', q1, ?_⟩
  refine xEqT (N := 3) (x := P 18) (y := 0) (A := ev m_M_next 7 [some (eR 0)] [] ([mN P, eA 0 600 bY], c)) (B := ev m_M_next 11 [some (eR 0)] [] ([mN P, eA 0 600 bY], c)) rfl (wr_id (by omega) (by omega)) (show wr 0 = 0 by decide) (by omega) ?_
  refine xCallWV (N := 2) (M2 := m_M_next) (pc2 := 8) (ls2 := [some (eR 0)]) (st2 := []) (y := m_M_advance) (as := [some (eR 0)]) (w2 := ([mN P, eA 0 600 bY], c)) rfl q2 ?_
  refine xSeg (N := 1) (r := some (.inl none, ([mN P', eA 0 600 bY], c))) rfl ?_
  rfl
/-- a number from l to h is looked at -/
def lkM (P : Nat → Int) (l h : Int) : Nat → Int := ckM (ckM P (decide (P 15 = 2)) 1) (decide (l ≤ P 16 ∧ P 16 ≤ h)) 2
theorem n_look {P bY : Nat → Int} {c : Nat × Nat} {l h : Int} (hl : 0 ≤ l ∧ l ≤ 1000) (hh : 0 ≤ h ∧ h ≤ 1000) (h15 : 0 ≤ P 15 ∧ P 15 ≤ 3) (h16 : 0 ≤ P 16 ∧ P 16 < 1000000000) (h18 : 0 ≤ P 18 ∧ P 18 ≤ 9) : ev m_M_look 0 [some (eR 0), some (eI l), some (eI h)] [] ([mN P, eA 0 600 bY], c) = some (.inl (some (eI (if lkM P l h 18 = 0 then P 16 else l))), ([mN (lkM P l h), eA 0 600 bY], c)) := by
  have c16 : ∀ (Q : Nat → Int) b k, ckM Q b k 16 = Q 16 := fun Q b k => by
    unfold ckM
    cases (decide (Q 18 = 0) && !b) with
    | true => rw [cond_true, eUp_ne (by omega), eUp_ne (by omega)]
    | false => rfl
  have c18 : ∀ (Q : Nat → Int) b k, (1 ≤ k ∧ k ≤ 9) → (0 ≤ Q 18 ∧ Q 18 ≤ 9) → 0 ≤ ckM Q b k 18 ∧ ckM Q b k 18 ≤ 9 := fun Q b k hk hq => by
    unfold ckM
    cases (decide (Q 18 = 0) && !b) with
    | true => rw [cond_true, eUp_ne (by omega), eUp_at]; omega
    | false => exact hq
  have d1 := c18 P (decide (P 15 = 2)) 1 (by omega) h18
  have d2 : 0 ≤ lkM P l h 18 ∧ lkM P l h 18 ≤ 9 := c18 _ _ 2 (by omega) d1
  have e16 : ckM P (decide (P 15 = 2)) 1 16 = P 16 := c16 _ _ _
  have f16 : lkM P l h 16 = P 16 := (c16 _ _ _).trans e16
  have hc2 : ∀ z : Int, z = bI (decide (l ≤ P 16 ∧ P 16 ≤ h)) → ev m_M_check 0 [some (eR 0), some (eI z), some (eI 2)] [] ([mN (ckM P (decide (P 15 = 2)) 1), eA 0 600 bY], c) = some (.inl (some (eI (bI (decide (lkM P l h 18 = 0))))), ([mN (lkM P l h), eA 0 600 bY], c)) := fun z hz => n_check hz (by omega) d1
  have htail : ev m_M_look 19 [some (eR 0), some (eI l), some (eI h)] [] ([mN (ckM P (decide (P 15 = 2)) 1), eA 0 600 bY], c) = some (.inl (some (eI (if lkM P l h 18 = 0 then P 16 else l))), ([mN (lkM P l h), eA 0 600 bY], c)) := by
    generalize ckM P (decide (P 15 = 2)) 1 = Q at hc2 e16
    generalize lkM P l h = Q2 at hc2 d2 f16 ⊢
    refine xCallI (N := 6) (v := bI (decide (l ≤ Q 16 ∧ Q 16 ≤ h))) (M2 := m_M_look) (pc2 := 26) (ls2 := [some (eR 0), some (eI l), some (eI h)]) (st2 := [eR 0]) (y := m_M_isBetween) (as := [some (eI (Q 16)), some (eI l), some (eI h)]) (w2 := ([mN Q, eA 0 600 bY], c)) rfl (n_between (by omega) (by omega) (by omega)) (fun r26 hr26 => ?_)
    refine xCallWI (N := 2) (v := bI (decide (Q2 18 = 0))) (M2 := m_M_look) (pc2 := 30) (ls2 := [some (eR 0), some (eI l), some (eI h)]) (st2 := []) (y := m_M_check) (as := [some (eR 0), some (eI r26), some (eI 2)]) (w2 := ([mN Q, eA 0 600 bY], c)) rfl (hc2 _ (by rw [hr26, e16])) (fun r30 hr30 => ?_)
    refine xEq (N := 4) (x := Q2 18) (y := 0) (A := ev m_M_look 41 [some (eR 0), some (eI l), some (eI h)] [] ([mN Q2, eA 0 600 bY], c)) (B := ev m_M_look 48 [some (eR 0), some (eI l), some (eI h)] [] ([mN Q2, eA 0 600 bY], c)) rfl (wr_id (by omega) (by omega)) (show wr 0 = 0 by decide) (fun h38 => ?_) (fun h38 => ?_)
    · refine xSeg (N := 4) (r := some (.inl (some (eI (Q2 16))), ([mN Q2, eA 0 600 bY], c))) rfl ?_
      first | exact lf (by rw [if_pos (by omega)]; exact f16) | exact lf (by rw [if_neg (by omega)])
    · refine xSeg (N := 2) (r := some (.inl (some (eI l)), ([mN Q2, eA 0 600 bY], c))) rfl ?_
      first | exact lf (by rw [if_pos (by omega)]; exact f16) | exact lf (by rw [if_neg (by omega)])
  by_cases hd : P 15 = 2
  · rw [decide_eq_true hd] at htail
    refine xEqT (N := 5) (x := P 15) (y := 2) (A := ev m_M_look 9 [some (eR 0), some (eI l), some (eI h)] [eR 0] ([mN P, eA 0 600 bY], c)) (B := ev m_M_look 13 [some (eR 0), some (eI l), some (eI h)] [eR 0] ([mN P, eA 0 600 bY], c)) rfl (wr_id (by omega) (by omega)) (show wr 2 = 2 by decide) (by omega) ?_
    refine xCallWI (N := 4) (v := bI (decide (ckM P true 1 18 = 0))) (M2 := m_M_look) (pc2 := 15) (ls2 := [some (eR 0), some (eI l), some (eI h)]) (st2 := []) (y := m_M_check) (as := [some (eR 0), some (eI 1), some (eI 1)]) (w2 := ([mN P, eA 0 600 bY], c)) rfl (n_check (b := true) rfl (by omega) h18) (fun r15 hr15 => ?_)
    refine xSeg (N := 1) (r := ev m_M_look 19 [some (eR 0), some (eI l), some (eI h)] [] ([mN (ckM P true 1), eA 0 600 bY], c)) rfl ?_
    exact htail
  · rw [decide_eq_false hd] at htail
    refine xEqF (N := 5) (x := P 15) (y := 2) (A := ev m_M_look 9 [some (eR 0), some (eI l), some (eI h)] [eR 0] ([mN P, eA 0 600 bY], c)) (B := ev m_M_look 13 [some (eR 0), some (eI l), some (eI h)] [eR 0] ([mN P, eA 0 600 bY], c)) rfl (wr_id (by omega) (by omega)) (show wr 2 = 2 by decide) (by omega) ?_
    refine xCallWI (N := 3) (v := bI (decide (ckM P false 1 18 = 0))) (M2 := m_M_look) (pc2 := 15) (ls2 := [some (eR 0), some (eI l), some (eI h)]) (st2 := []) (y := m_M_check) (as := [some (eR 0), some (eI 0), some (eI 1)]) (w2 := ([mN P, eA 0 600 bY], c)) rfl (n_check (b := false) rfl (by omega) h18) (fun r15 hr15 => ?_)
    refine xSeg (N := 1) (r := ev m_M_look 19 [some (eR 0), some (eI l), some (eI h)] [] ([mN (ckM P false 1), eA 0 600 bY], c)) rfl ?_
    exact htail
