/-! The class's next token. -/
set_option maxRecDepth 100000
theorem kd_le {b : Nat} : 1 ≤ kd b ∧ kd b ≤ 3 := by unfold kd; split <;> (try split) <;> omega
theorem pO_cong {P Q : Nat → Int} (h : ∀ j, 3 ≤ j → j < 18 → P j = Q j) : pO P = pO Q := by
  unfold pO
  rw [h 3 (by omega) (by omega), h 4 (by omega) (by omega), h 5 (by omega) (by omega), h 6 (by omega) (by omega), h 7 (by omega) (by omega), h 8 (by omega) (by omega), h 9 (by omega) (by omega), h 10 (by omega) (by omega), h 11 (by omega) (by omega), h 12 (by omega) (by omega), h 13 (by omega) (by omega), h 14 (by omega) (by omega), h 15 (by omega) (by omega), h 16 (by omega) (by omega), h 17 (by omega) (by omega)]
theorem c_ws {P bY : Nat → Int} {B : Nat → Nat} {n : Nat} {ln : Int} {c : Nat × Nat} {r : eRes} (hln : ln = (n : Int)) (hn : n ≤ 600) (hby : ∀ i, i < n → bY i = (B i : Int) ∧ B i < 256) : ∀ d i : Nat, i + d = n → ∀ v : Int, v = (i : Int) → (∀ v' : Int, v' = ((wsN B d i : Nat) : Int) → ev m_P_nextToken 63 [some (eR 0)] [] ([pO (eUp P 4 v'), eO 2 [eR 2, eI ln, eSt 20], eA 0 600 bY], c) = r) → ev m_P_nextToken 8 [some (eR 0)] [] ([pO (eUp P 4 v), eO 2 [eR 2, eI ln, eSt 20], eA 0 600 bY], c) = r := by
  intro d
  induction d with
  | zero =>
    intro i hi v hv hr
    refine xLtF (N := 6) (x := v) (y := ln) (A := ev m_P_nextToken 22 [some (eR 0)] [] ([pO (eUp P 4 v), eO 2 [eR 2, eI ln, eSt 20], eA 0 600 bY], c)) (B := ev m_P_nextToken 63 [some (eR 0)] [] ([pO (eUp P 4 v), eO 2 [eR 2, eI ln, eSt 20], eA 0 600 bY], c)) rfl (wr_id (by omega) (by omega)) (wr_id (by omega) (by omega)) (by omega) ?_
    exact hr v hv
  | succ d ih =>
    intro i hi v hv hr
    have hb := hby i (by omega)
    have hw : wsN B (d + 1) i = if B i = 32 ∨ B i = 10 then wsN B d (i + 1) else i := rfl
    by_cases h1 : B i = 32 ∨ B i = 10
    · rw [if_pos h1] at hw
      have hq := ih (i + 1) (by omega) (v + 1) (by omega) (fun v' hv' => hr v' (by rw [hw]; exact hv'))
      refine xLtT (N := 6) (x := v) (y := ln) (A := ev m_P_nextToken 22 [some (eR 0)] [] ([pO (eUp P 4 v), eO 2 [eR 2, eI ln, eSt 20], eA 0 600 bY], c)) (B := ev m_P_nextToken 63 [some (eR 0)] [] ([pO (eUp P 4 v), eO 2 [eR 2, eI ln, eSt 20], eA 0 600 bY], c)) rfl (wr_id (by omega) (by omega)) (wr_id (by omega) (by omega)) (by omega) ?_
      refine xLd (N := 5) (n := 600) (i := v) (F := fun zq => ev m_P_nextToken 31 [some (eR 0)] [eI (bY zq)] ([pO (eUp P 4 v), eO 2 [eR 2, eI ln, eSt 20], eA 0 600 bY], c)) (k := i) rfl (wr_nat (by omega) (by omega)) (by omega) ?_
      refine xEq (N := 2) (x := bY i) (y := 32) (A := ev m_P_nextToken 50 [some (eR 0)] [] ([pO (eUp P 4 v), eO 2 [eR 2, eI ln, eSt 20], eA 0 600 bY], c)) (B := ev m_P_nextToken 36 [some (eR 0)] [] ([pO (eUp P 4 v), eO 2 [eR 2, eI ln, eSt 20], eA 0 600 bY], c)) rfl (wr_id (by omega) (by omega)) (show wr 32 = 32 by decide) (fun h33 => ?_) (fun h33 => ?_)
      · refine xSeg (N := 7) (r := ev m_P_nextToken 8 [some (eR 0)] [] ([pO (eUp (eUp P 4 v) 4 (v + 1)), eO 2 [eR 2, eI ln, eSt 20], eA 0 600 bY], c)) rfl ?_
        rw [eUp_eUp]
        exact hq
      · refine xLd (N := 5) (n := 600) (i := v) (F := fun zq => ev m_P_nextToken 45 [some (eR 0)] [eI (bY zq)] ([pO (eUp P 4 v), eO 2 [eR 2, eI ln, eSt 20], eA 0 600 bY], c)) (k := i) rfl (wr_nat (by omega) (by omega)) (by omega) ?_
        refine xEq (N := 2) (x := bY i) (y := 10) (A := ev m_P_nextToken 50 [some (eR 0)] [] ([pO (eUp P 4 v), eO 2 [eR 2, eI ln, eSt 20], eA 0 600 bY], c)) (B := ev m_P_nextToken 63 [some (eR 0)] [] ([pO (eUp P 4 v), eO 2 [eR 2, eI ln, eSt 20], eA 0 600 bY], c)) rfl (wr_id (by omega) (by omega)) (show wr 10 = 10 by decide) (fun h47 => ?_) (fun h47 => ?_)
        · refine xSeg (N := 7) (r := ev m_P_nextToken 8 [some (eR 0)] [] ([pO (eUp (eUp P 4 v) 4 (v + 1)), eO 2 [eR 2, eI ln, eSt 20], eA 0 600 bY], c)) rfl ?_
          rw [eUp_eUp]
          exact hq
        · exact absurd h1 (by omega)
    · rw [if_neg h1] at hw
      have hq := hr v (by rw [hw]; exact hv)
      refine xLtT (N := 6) (x := v) (y := ln) (A := ev m_P_nextToken 22 [some (eR 0)] [] ([pO (eUp P 4 v), eO 2 [eR 2, eI ln, eSt 20], eA 0 600 bY], c)) (B := ev m_P_nextToken 63 [some (eR 0)] [] ([pO (eUp P 4 v), eO 2 [eR 2, eI ln, eSt 20], eA 0 600 bY], c)) rfl (wr_id (by omega) (by omega)) (wr_id (by omega) (by omega)) (by omega) ?_
      refine xLd (N := 5) (n := 600) (i := v) (F := fun zq => ev m_P_nextToken 31 [some (eR 0)] [eI (bY zq)] ([pO (eUp P 4 v), eO 2 [eR 2, eI ln, eSt 20], eA 0 600 bY], c)) (k := i) rfl (wr_nat (by omega) (by omega)) (by omega) ?_
      refine xEq (N := 2) (x := bY i) (y := 32) (A := ev m_P_nextToken 50 [some (eR 0)] [] ([pO (eUp P 4 v), eO 2 [eR 2, eI ln, eSt 20], eA 0 600 bY], c)) (B := ev m_P_nextToken 36 [some (eR 0)] [] ([pO (eUp P 4 v), eO 2 [eR 2, eI ln, eSt 20], eA 0 600 bY], c)) rfl (wr_id (by omega) (by omega)) (show wr 32 = 32 by decide) (fun h33 => ?_) (fun h33 => ?_)
      · refine xSeg (N := 7) (r := ev m_P_nextToken 8 [some (eR 0)] [] ([pO (eUp (eUp P 4 v) 4 (v + 1)), eO 2 [eR 2, eI ln, eSt 20], eA 0 600 bY], c)) rfl ?_
        exact absurd h1 (by omega)
      · refine xLd (N := 5) (n := 600) (i := v) (F := fun zq => ev m_P_nextToken 45 [some (eR 0)] [eI (bY zq)] ([pO (eUp P 4 v), eO 2 [eR 2, eI ln, eSt 20], eA 0 600 bY], c)) (k := i) rfl (wr_nat (by omega) (by omega)) (by omega) ?_
        refine xEq (N := 2) (x := bY i) (y := 10) (A := ev m_P_nextToken 50 [some (eR 0)] [] ([pO (eUp P 4 v), eO 2 [eR 2, eI ln, eSt 20], eA 0 600 bY], c)) (B := ev m_P_nextToken 63 [some (eR 0)] [] ([pO (eUp P 4 v), eO 2 [eR 2, eI ln, eSt 20], eA 0 600 bY], c)) rfl (wr_id (by omega) (by omega)) (show wr 10 = 10 by decide) (fun h47 => ?_) (fun h47 => ?_)
        · refine xSeg (N := 7) (r := ev m_P_nextToken 8 [some (eR 0)] [] ([pO (eUp (eUp P 4 v) 4 (v + 1)), eO 2 [eR 2, eI ln, eSt 20], eA 0 600 bY], c)) rfl ?_
          exact absurd h1 (by omega)
        · exact hq
theorem c_rn {P bY : Nat → Int} {B : Nat → Nat} {n k : Nat} {ln : Int} {c : Nat × Nat} {r : eRes} (hln : ln = (n : Int)) (hn : n ≤ 600) (hby : ∀ i, i < n → bY i = (B i : Int) ∧ B i < 256) (hk : P 6 = (k : Int)) (hk3 : k < 3) : ∀ d i : Nat, i + d = n → ∀ v : Int, v = (i : Int) → (∀ v' : Int, v' = ((rnN B k d i : Nat) : Int) → some (.inl none, ([pO (eUp P 5 v'), eO 2 [eR 2, eI ln, eSt 20], eA 0 600 bY], c)) = r) → ev m_P_nextToken 118 [some (eR 0)] [] ([pO (eUp P 5 v), eO 2 [eR 2, eI ln, eSt 20], eA 0 600 bY], c) = r := by
  have e6 : ∀ v, eUp P 5 v 6 = P 6 := fun v => eUp_ne (by omega)
  intro d
  induction d with
  | zero =>
    intro i hi v hv hr
    have e6v := e6 v
    refine xEqF (N := 4) (x := P 6) (y := 3) (A := ev m_P_nextToken 173 [some (eR 0)] [] ([pO (eUp P 5 v), eO 2 [eR 2, eI ln, eSt 20], eA 0 600 bY], c)) (B := ev m_P_nextToken 126 [some (eR 0)] [] ([pO (eUp P 5 v), eO 2 [eR 2, eI ln, eSt 20], eA 0 600 bY], c)) rfl (wr_id (by omega) (by omega)) (show wr 3 = 3 by decide) (by omega) ?_
    refine xLtF (N := 6) (x := v) (y := ln) (A := ev m_P_nextToken 140 [some (eR 0)] [] ([pO (eUp P 5 v), eO 2 [eR 2, eI ln, eSt 20], eA 0 600 bY], c)) (B := ev m_P_nextToken 173 [some (eR 0)] [] ([pO (eUp P 5 v), eO 2 [eR 2, eI ln, eSt 20], eA 0 600 bY], c)) rfl (wr_id (by omega) (by omega)) (wr_id (by omega) (by omega)) (by omega) ?_
    refine xSeg (N := 1) (r := some (.inl none, ([pO (eUp P 5 v), eO 2 [eR 2, eI ln, eSt 20], eA 0 600 bY], c))) rfl ?_
    exact hr v hv
  | succ d ih =>
    intro i hi v hv hr
    have e6v := e6 v
    have hb := hby i (by omega)
    have hkl := kd_le (b := B i)
    have hw : rnN B k (d + 1) i = if kd (B i) = k then rnN B k d (i + 1) else i := rfl
    by_cases h1 : kd (B i) = k
    · rw [if_pos h1] at hw
      have hq := ih (i + 1) (by omega) (v + 1) (by omega) (fun v' hv' => hr v' (by rw [hw]; exact hv'))
      refine xEqF (N := 4) (x := P 6) (y := 3) (A := ev m_P_nextToken 173 [some (eR 0)] [] ([pO (eUp P 5 v), eO 2 [eR 2, eI ln, eSt 20], eA 0 600 bY], c)) (B := ev m_P_nextToken 126 [some (eR 0)] [] ([pO (eUp P 5 v), eO 2 [eR 2, eI ln, eSt 20], eA 0 600 bY], c)) rfl (wr_id (by omega) (by omega)) (show wr 3 = 3 by decide) (by omega) ?_
      refine xLtT (N := 6) (x := v) (y := ln) (A := ev m_P_nextToken 140 [some (eR 0)] [] ([pO (eUp P 5 v), eO 2 [eR 2, eI ln, eSt 20], eA 0 600 bY], c)) (B := ev m_P_nextToken 173 [some (eR 0)] [] ([pO (eUp P 5 v), eO 2 [eR 2, eI ln, eSt 20], eA 0 600 bY], c)) rfl (wr_id (by omega) (by omega)) (wr_id (by omega) (by omega)) (by omega) ?_
      refine xLd (N := 6) (n := 600) (i := v) (F := fun zq => ev m_P_nextToken 150 [some (eR 0)] [eI (bY zq), eR 0] ([pO (eUp P 5 v), eO 2 [eR 2, eI ln, eSt 20], eA 0 600 bY], c)) (k := i) rfl (wr_nat (by omega) (by omega)) (by omega) ?_
      refine xCallWI (N := 1) (v := ((kd (B i) : Nat) : Int)) (M2 := m_P_nextToken) (pc2 := 150) (ls2 := [some (eR 0)]) (st2 := []) (y := m_P_kindOf) (as := [some (eR 0), some (eI (bY i))]) (w2 := ([pO (eUp P 5 v), eO 2 [eR 2, eI ln, eSt 20], eA 0 600 bY], c)) rfl (c_kindOf hb) (fun r150 hr150 => ?_)
      refine xEqT (N := 3) (x := r150) (y := P 6) (A := ev m_P_nextToken 160 [some (eR 0)] [] ([pO (eUp P 5 v), eO 2 [eR 2, eI ln, eSt 20], eA 0 600 bY], c)) (B := ev m_P_nextToken 173 [some (eR 0)] [] ([pO (eUp P 5 v), eO 2 [eR 2, eI ln, eSt 20], eA 0 600 bY], c)) rfl (wr_id (by omega) (by omega)) (wr_id (by omega) (by omega)) (by omega) ?_
      refine xSeg (N := 7) (r := ev m_P_nextToken 118 [some (eR 0)] [] ([pO (eUp (eUp P 5 v) 5 (v + 1)), eO 2 [eR 2, eI ln, eSt 20], eA 0 600 bY], c)) rfl ?_
      rw [eUp_eUp]
      exact hq
    · rw [if_neg h1] at hw
      have hq := hr v (by rw [hw]; exact hv)
      refine xEqF (N := 4) (x := P 6) (y := 3) (A := ev m_P_nextToken 173 [some (eR 0)] [] ([pO (eUp P 5 v), eO 2 [eR 2, eI ln, eSt 20], eA 0 600 bY], c)) (B := ev m_P_nextToken 126 [some (eR 0)] [] ([pO (eUp P 5 v), eO 2 [eR 2, eI ln, eSt 20], eA 0 600 bY], c)) rfl (wr_id (by omega) (by omega)) (show wr 3 = 3 by decide) (by omega) ?_
      refine xLtT (N := 6) (x := v) (y := ln) (A := ev m_P_nextToken 140 [some (eR 0)] [] ([pO (eUp P 5 v), eO 2 [eR 2, eI ln, eSt 20], eA 0 600 bY], c)) (B := ev m_P_nextToken 173 [some (eR 0)] [] ([pO (eUp P 5 v), eO 2 [eR 2, eI ln, eSt 20], eA 0 600 bY], c)) rfl (wr_id (by omega) (by omega)) (wr_id (by omega) (by omega)) (by omega) ?_
      refine xLd (N := 6) (n := 600) (i := v) (F := fun zq => ev m_P_nextToken 150 [some (eR 0)] [eI (bY zq), eR 0] ([pO (eUp P 5 v), eO 2 [eR 2, eI ln, eSt 20], eA 0 600 bY], c)) (k := i) rfl (wr_nat (by omega) (by omega)) (by omega) ?_
      refine xCallWI (N := 1) (v := ((kd (B i) : Nat) : Int)) (M2 := m_P_nextToken) (pc2 := 150) (ls2 := [some (eR 0)]) (st2 := []) (y := m_P_kindOf) (as := [some (eR 0), some (eI (bY i))]) (w2 := ([pO (eUp P 5 v), eO 2 [eR 2, eI ln, eSt 20], eA 0 600 bY], c)) rfl (c_kindOf hb) (fun r150 hr150 => ?_)
      refine xEqF (N := 3) (x := r150) (y := P 6) (A := ev m_P_nextToken 160 [some (eR 0)] [] ([pO (eUp P 5 v), eO 2 [eR 2, eI ln, eSt 20], eA 0 600 bY], c)) (B := ev m_P_nextToken 173 [some (eR 0)] [] ([pO (eUp P 5 v), eO 2 [eR 2, eI ln, eSt 20], eA 0 600 bY], c)) rfl (wr_id (by omega) (by omega)) (wr_id (by omega) (by omega)) (by omega) ?_
      refine xSeg (N := 1) (r := some (.inl none, ([pO (eUp P 5 v), eO 2 [eR 2, eI ln, eSt 20], eA 0 600 bY], c))) rfl ?_
      exact hq
theorem pO_ev {P Q : Nat → Int} {M pc : Nat} {ls : eL} {st : List eV} {x y : eC} {c : Nat × Nat} {r : eRes} (h : ∀ j, 3 ≤ j → j < 18 → P j = Q j) (hq : ev M pc ls st ([pO Q, x, y], c) = r) : ev M pc ls st ([pO P, x, y], c) = r := by
  rw [pO_cong h]
  exact hq
theorem pO_res {P Q : Nat → Int} {x y : eC} {c : Nat × Nat} {o : Option eV ⊕ Nat} (h : ∀ j, 3 ≤ j → j < 18 → P j = Q j) : (some (o, ([pO P, x, y], c)) : eRes) = some (o, ([pO Q, x, y], c)) := by
  rw [pO_cong h]
/-- all but the token stays -/
def kP (P P' : Nat → Int) : Prop := ∀ j, j ≠ 4 → j ≠ 5 → j ≠ 6 → P' j = P j
theorem c_nextToken {P bY : Nat → Int} {B : Nat → Nat} {n e : Nat} {ln : Int} {c : Nat × Nat} (hln : ln = (n : Int)) (hn : n ≤ 600) (hby : ∀ i, i < n → bY i = (B i : Int) ∧ B i < 256) (he : P 5 = (e : Int)) (hen : e ≤ n) : ∃ P' : Nat → Int, (P' 4 = ((tkS B n e : Nat) : Int) ∧ P' 5 = ((tkE B n e : Nat) : Int) ∧ P' 6 = ((tkK B n e : Nat) : Int) ∧ kP P P') ∧ ev m_P_nextToken 0 [some (eR 0)] [] ([pO P, eO 2 [eR 2, eI ln, eSt 20], eA 0 600 bY], c) = some (.inl none, ([pO P', eO 2 [eR 2, eI ln, eSt 20], eA 0 600 bY], c)) := by
  have hs := wsN_le (B := B) (d := n - e) (i := e)
  have hS : tkS B n e = wsN B (n - e) e := rfl
  rw [← hS] at hs
  generalize hsd : tkS B n e = s at hs hS
  have hws : ∀ r : eRes, (∀ v' : Int, v' = (s : Int) → ev m_P_nextToken 63 [some (eR 0)] [] ([pO (eUp P 4 v'), eO 2 [eR 2, eI ln, eSt 20], eA 0 600 bY], c) = r) → ev m_P_nextToken 8 [some (eR 0)] [] ([pO (eUp P 4 (P 5)), eO 2 [eR 2, eI ln, eSt 20], eA 0 600 bY], c) = r := fun r hr => c_ws hln hn hby (n - e) e (by omega) (P 5) he (fun v' hv' => hr v' (by rw [hv', ← hS]))
  by_cases h1 : s < n
  · have hb := hby s h1
    have hkl := kd_le (b := B s)
    have hK : tkK B n e = kd (B s) := by unfold tkK; rw [hsd, if_pos h1]
    by_cases h3 : kd (B s) = 3
    · have hE : tkE B n e = s + 1 := by unfold tkE; rw [hsd, if_pos h1, if_pos h3]
      refine ⟨eUp (eUp (eUp P 4 (s : Int)) 5 ((s + 1 : Nat) : Int)) 6 3, ⟨?_, ?_, ?_, ?_⟩, ?_⟩
      · rw [eUp_ne (by omega), eUp_ne (by omega), eUp_at]
      · rw [eUp_ne (by omega), eUp_at, hE]
      · rw [eUp_at, hK, h3]; rfl
      · intro j h4 h5 h6
        rw [eUp_ne h6, eUp_ne h5, eUp_ne h4]
      · refine Eq.trans (?_ : _ = ev m_P_nextToken 8 [some (eR 0)] [] ([pO (eUp P 4 (P 5)), eO 2 [eR 2, eI ln, eSt 20], eA 0 600 bY], c)) (hws _ (fun v' hv' => ?_))
        · refine xSeg (N := 4) (r := ev m_P_nextToken 8 [some (eR 0)] [] ([pO (eUp P 4 (P 5)), eO 2 [eR 2, eI ln, eSt 20], eA 0 600 bY], c)) rfl ?_
          rfl
        · refine xLtT (N := 13) (x := v') (y := ln) (A := ev m_P_nextToken 91 [some (eR 0)] [] ([pO (eUp (eUp (eUp P 4 v') 5 v') 6 0), eO 2 [eR 2, eI ln, eSt 20], eA 0 600 bY], c)) (B := ev m_P_nextToken 90 [some (eR 0)] [] ([pO (eUp (eUp (eUp P 4 v') 5 v') 6 0), eO 2 [eR 2, eI ln, eSt 20], eA 0 600 bY], c)) rfl (wr_id (by omega) (by omega)) (wr_id (by omega) (by omega)) (by omega) ?_
          refine xLd (N := 7) (n := 600) (i := v') (F := fun zq => ev m_P_nextToken 102 [some (eR 0)] [eI (bY zq), eR 0, eR 0] ([pO (eUp (eUp (eUp P 4 v') 5 v') 6 0), eO 2 [eR 2, eI ln, eSt 20], eA 0 600 bY], c)) (k := s) rfl (wr_nat (by omega) (by omega)) (by omega) ?_
          refine xCallWI (N := 1) (v := ((kd (B s) : Nat) : Int)) (M2 := m_P_nextToken) (pc2 := 102) (ls2 := [some (eR 0)]) (st2 := [eR 0]) (y := m_P_kindOf) (as := [some (eR 0), some (eI (bY s))]) (w2 := ([pO (eUp (eUp (eUp P 4 v') 5 v') 6 0), eO 2 [eR 2, eI ln, eSt 20], eA 0 600 bY], c)) rfl (c_kindOf hb) (fun r102 hr102 => ?_)
          refine xEqT (N := 11) (x := r102) (y := 3) (A := ev m_P_nextToken 173 [some (eR 0)] [] ([pO (eUp (eUp (eUp (eUp (eUp P 4 v') 5 v') 6 0) 6 r102) 5 (v' + 1)), eO 2 [eR 2, eI ln, eSt 20], eA 0 600 bY], c)) (B := ev m_P_nextToken 126 [some (eR 0)] [] ([pO (eUp (eUp (eUp (eUp (eUp P 4 v') 5 v') 6 0) 6 r102) 5 (v' + 1)), eO 2 [eR 2, eI ln, eSt 20], eA 0 600 bY], c)) rfl (wr_id (by omega) (by omega)) (show wr 3 = 3 by decide) (by omega) ?_
          refine xSeg (N := 1) (r := some (.inl none, ([pO (eUp (eUp (eUp (eUp (eUp P 4 v') 5 v') 6 0) 6 r102) 5 (v' + 1)), eO 2 [eR 2, eI ln, eSt 20], eA 0 600 bY], c))) rfl ?_
          refine pO_res (fun j _ _ => ?_)
          unfold eUp
          (repeat (first | omega | split)) <;> omega
    · have hE : tkE B n e = rnN B (kd (B s)) (n - (s + 1)) (s + 1) := by unfold tkE; rw [hsd, if_pos h1, if_neg h3]
      refine ⟨eUp (eUp (eUp P 4 (s : Int)) 6 ((kd (B s) : Nat) : Int)) 5 ((tkE B n e : Nat) : Int), ⟨?_, ?_, ?_, ?_⟩, ?_⟩
      · rw [eUp_ne (by omega), eUp_ne (by omega), eUp_at]
      · rw [eUp_at]
      · rw [eUp_ne (by omega), eUp_at, hK]
      · intro j h4 h5 h6
        rw [eUp_ne h5, eUp_ne h6, eUp_ne h4]
      · refine Eq.trans (?_ : _ = ev m_P_nextToken 8 [some (eR 0)] [] ([pO (eUp P 4 (P 5)), eO 2 [eR 2, eI ln, eSt 20], eA 0 600 bY], c)) (hws _ (fun v' hv' => ?_))
        · refine xSeg (N := 4) (r := ev m_P_nextToken 8 [some (eR 0)] [] ([pO (eUp P 4 (P 5)), eO 2 [eR 2, eI ln, eSt 20], eA 0 600 bY], c)) rfl ?_
          rfl
        · have hrn := c_rn (P := eUp (eUp P 4 (s : Int)) 6 ((kd (B s) : Nat) : Int)) (bY := bY) (B := B) (n := n) (k := kd (B s)) (ln := ln) (c := c) (r := some (.inl none, ([pO (eUp (eUp (eUp P 4 (s : Int)) 6 ((kd (B s) : Nat) : Int)) 5 ((tkE B n e : Nat) : Int)), eO 2 [eR 2, eI ln, eSt 20], eA 0 600 bY], c))) hln hn hby eUp_at (by omega) (n - (s + 1)) (s + 1) (by omega) (v' + 1) (by omega) (fun v2 hv2 => by rw [hv2, hE])
          refine xLtT (N := 13) (x := v') (y := ln) (A := ev m_P_nextToken 91 [some (eR 0)] [] ([pO (eUp (eUp (eUp P 4 v') 5 v') 6 0), eO 2 [eR 2, eI ln, eSt 20], eA 0 600 bY], c)) (B := ev m_P_nextToken 90 [some (eR 0)] [] ([pO (eUp (eUp (eUp P 4 v') 5 v') 6 0), eO 2 [eR 2, eI ln, eSt 20], eA 0 600 bY], c)) rfl (wr_id (by omega) (by omega)) (wr_id (by omega) (by omega)) (by omega) ?_
          refine xLd (N := 7) (n := 600) (i := v') (F := fun zq => ev m_P_nextToken 102 [some (eR 0)] [eI (bY zq), eR 0, eR 0] ([pO (eUp (eUp (eUp P 4 v') 5 v') 6 0), eO 2 [eR 2, eI ln, eSt 20], eA 0 600 bY], c)) (k := s) rfl (wr_nat (by omega) (by omega)) (by omega) ?_
          refine xCallWI (N := 1) (v := ((kd (B s) : Nat) : Int)) (M2 := m_P_nextToken) (pc2 := 102) (ls2 := [some (eR 0)]) (st2 := [eR 0]) (y := m_P_kindOf) (as := [some (eR 0), some (eI (bY s))]) (w2 := ([pO (eUp (eUp (eUp P 4 v') 5 v') 6 0), eO 2 [eR 2, eI ln, eSt 20], eA 0 600 bY], c)) rfl (c_kindOf hb) (fun r102 hr102 => ?_)
          refine xSeg (N := 7) (r := ev m_P_nextToken 118 [some (eR 0)] [] ([pO (eUp (eUp (eUp (eUp (eUp P 4 v') 5 v') 6 0) 6 r102) 5 (v' + 1)), eO 2 [eR 2, eI ln, eSt 20], eA 0 600 bY], c)) rfl ?_
          refine pO_ev (fun j _ _ => ?_) hrn
          unfold eUp
          (repeat (first | omega | split)) <;> omega
  · have hK : tkK B n e = 0 := by unfold tkK; rw [hsd, if_neg h1]
    have hE : tkE B n e = s := by unfold tkE; rw [hsd, if_neg h1]
    refine ⟨eUp (eUp (eUp P 4 (s : Int)) 5 (s : Int)) 6 0, ⟨?_, ?_, ?_, ?_⟩, ?_⟩
    · rw [eUp_ne (by omega), eUp_ne (by omega), eUp_at]
    · rw [eUp_ne (by omega), eUp_at, hE]
    · rw [eUp_at, hK]; rfl
    · intro j h4 h5 h6
      rw [eUp_ne h6, eUp_ne h5, eUp_ne h4]
    · refine Eq.trans (?_ : _ = ev m_P_nextToken 8 [some (eR 0)] [] ([pO (eUp P 4 (P 5)), eO 2 [eR 2, eI ln, eSt 20], eA 0 600 bY], c)) (hws _ (fun v' hv' => ?_))
      · refine xSeg (N := 4) (r := ev m_P_nextToken 8 [some (eR 0)] [] ([pO (eUp P 4 (P 5)), eO 2 [eR 2, eI ln, eSt 20], eA 0 600 bY], c)) rfl ?_
        rfl
      · rw [← hv']
        have hq : v' = (s : Int) := hv'
        refine xLtF (N := 13) (x := v') (y := ln) (A := ev m_P_nextToken 91 [some (eR 0)] [] ([pO (eUp (eUp (eUp P 4 v') 5 v') 6 0), eO 2 [eR 2, eI ln, eSt 20], eA 0 600 bY], c)) (B := ev m_P_nextToken 90 [some (eR 0)] [] ([pO (eUp (eUp (eUp P 4 v') 5 v') 6 0), eO 2 [eR 2, eI ln, eSt 20], eA 0 600 bY], c)) rfl (wr_id (by omega) (by omega)) (wr_id (by omega) (by omega)) (by omega) ?_
        refine xSeg (N := 1) (r := some (.inl none, ([pO (eUp (eUp (eUp P 4 v') 5 v') 6 0), eO 2 [eR 2, eI ln, eSt 20], eA 0 600 bY], c))) rfl ?_
        rfl
