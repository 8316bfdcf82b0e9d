/-! The model's next token. -/
def mN (P : Nat → Int) : eC := eO 7 [eSt 19, eSt 20, eSt 21, eSt 22, eSt 23, eSt 24, eSt 25, eSt 26, eI (P 8), eI (P 9), eI (P 10), eR 1, eI (P 12), eI (P 13), eI (P 14), eI (P 15), eI (P 16), eI (P 17), eI (P 18), eI (P 19), eSt 27, eI (P 21)]
def bAt (B : Nat → Nat) (n i : Nat) : Int := if i < n then (B i : Int) else -1
set_option maxRecDepth 100000
theorem mN_cong {P Q : Nat → Int} (h : ∀ j, 8 ≤ j → j < 22 → P j = Q j) : mN P = mN Q := by
  unfold mN
  rw [h 8 (by omega) (by omega), h 9 (by omega) (by omega), h 10 (by omega) (by omega), h 12 (by omega) (by omega), h 13 (by omega) (by omega), h 14 (by omega) (by omega), h 15 (by omega) (by omega), h 16 (by omega) (by omega), h 17 (by omega) (by omega), h 18 (by omega) (by omega), h 19 (by omega) (by omega), h 21 (by omega) (by omega)]
theorem mN_ev {P Q : Nat → Int} {M pc : Nat} {ls : eL} {st : List eV} {x : eC} {c : Nat × Nat} {r : eRes} (h : ∀ j, 8 ≤ j → j < 22 → P j = Q j) (hq : ev M pc ls st ([mN Q, x], c) = r) : ev M pc ls st ([mN P, x], c) = r := by
  rw [mN_cong h]
  exact hq
theorem mN_res {P Q : Nat → Int} {x : eC} {c : Nat × Nat} {o : Option eV ⊕ Nat} (h : ∀ j, 8 ≤ j → j < 22 → P j = Q j) : (some (o, ([mN P, x], c)) : eRes) = some (o, ([mN Q, x], c)) := by
  rw [mN_cong h]
theorem n_byteAt {P bY : Nat → Int} {B : Nat → Nat} {n i : Nat} {x : Int} {c : Nat × Nat} (h12 : P 12 = (n : Int)) (hn : n ≤ 600) (hby : ∀ i, i < n → bY i = (B i : Int) ∧ B i < 256) (hx : x = (i : Int)) (hi : i ≤ 600) : ev m_M_byteAt 0 [some (eR 0), some (eI x)] [] ([mN P, eA 0 600 bY], c) = some (.inl (some (eI (bAt B n i))), ([mN P, eA 0 600 bY], c)) := by
  by_cases h : i < n
  · have hb := hby i h
    have e : bAt B n i = (B i : Int) := if_pos h
    rw [e, ← hb.1]
    refine xLtT (N := 4) (x := x) (y := P 12) (A := ev m_M_byteAt 8 [some (eR 0), some (eI x)] [] ([mN P, eA 0 600 bY], c)) (B := ev m_M_byteAt 17 [some (eR 0), some (eI x)] [] ([mN P, eA 0 600 bY], c)) rfl (wr_id (by omega) (by omega)) (wr_id (by omega) (by omega)) (by omega) ?_
    refine xLd (N := 4) (n := 600) (i := x) (F := fun zq => ev m_M_byteAt 14 [some (eR 0), some (eI x)] [eI (bY zq)] ([mN P, eA 0 600 bY], c)) (k := i) rfl (wr_nat (by omega) (by omega)) (by omega) ?_
    refine xSeg (N := 2) (r := some (.inl (some (eI (bY i))), ([mN P, eA 0 600 bY], c))) rfl ?_
    rfl
  · have e : bAt B n i = -1 := if_neg h
    rw [e]
    refine xLtF (N := 4) (x := x) (y := P 12) (A := ev m_M_byteAt 8 [some (eR 0), some (eI x)] [] ([mN P, eA 0 600 bY], c)) (B := ev m_M_byteAt 17 [some (eR 0), some (eI x)] [] ([mN P, eA 0 600 bY], c)) rfl (wr_id (by omega) (by omega)) (wr_id (by omega) (by omega)) (by omega) ?_
    refine xSeg (N := 2) (r := some (.inl (some (eI (-1))), ([mN P, eA 0 600 bY], c))) rfl ?_
    rfl
theorem n_isLetter {x : Int} {w : eW} (h1 : -2147483648 ≤ x) (h2 : x ≤ 2147483647) : ev m_M_isLetter 0 [some (eI x)] [] w = some (.inl (some (eI (bI (decide (97 ≤ x ∧ x ≤ 122))))), w) := by
  refine xCallI (N := 4) (v := bI (decide (97 ≤ x ∧ x ≤ 122))) (M2 := m_M_isLetter) (pc2 := 5) (ls2 := [some (eI x)]) (st2 := []) (y := m_M_isBetween) (as := [some (eI x), some (eI 97), some (eI 122)]) (w2 := (w.1, w.2)) rfl (n_between (by omega) (by omega) (by omega)) (fun r5 hr5 => ?_)
  refine xRb (N := 1) (v := r5) (w2 := (w.1, w.2)) rfl (by have hb := (bI_1 hr5).1; rw [wr_id (by omega) (by omega)]; omega) ?_
  exact lf (by omega)
theorem n_ws {P bY : Nat → Int} {B : Nat → Nat} {n : Nat} {c : Nat × Nat} {r : eRes} (h12 : P 12 = (n : Int)) (hn : n ≤ 600) (hby : ∀ i, i < n → bY i = (B i : Int) ∧ B i < 256) : ∀ d i : Nat, i + d = n → ∀ v : Int, v = (i : Int) → (∀ v' : Int, v' = ((wsN B d i : Nat) : Int) → ev m_M_advance 39 [some (eR 0)] [] ([mN (eUp P 13 v'), eA 0 600 bY], c) = r) → ev m_M_advance 0 [some (eR 0)] [] ([mN (eUp P 13 v), eA 0 600 bY], c) = r := by
  have e12 : ∀ v, eUp P 13 v 12 = (n : Int) := fun v => by rw [eUp_ne (by omega)]; exact h12
  intro d
  induction d with
  | zero =>
    intro i hi v hv hr
    have hb : bAt B n i = -1 := if_neg (by omega)
    refine xCallWI (N := 4) (v := bAt B n i) (M2 := m_M_advance) (pc2 := 5) (ls2 := [some (eR 0)]) (st2 := []) (y := m_M_byteAt) (as := [some (eR 0), some (eI v)]) (w2 := ([mN (eUp P 13 v), eA 0 600 bY], c)) rfl (n_byteAt (i := i) (e12 v) hn hby hv (by omega)) (fun r5 hr5 => ?_)
    refine xEqF (N := 2) (x := r5) (y := 32) (A := ev m_M_advance 26 [some (eR 0)] [] ([mN (eUp P 13 v), eA 0 600 bY], c)) (B := ev m_M_advance 13 [some (eR 0)] [] ([mN (eUp P 13 v), eA 0 600 bY], c)) rfl (wr_id (by omega) (by omega)) (show wr 32 = 32 by decide) (by omega) ?_
    refine xCallWI (N := 4) (v := bAt B n i) (M2 := m_M_advance) (pc2 := 18) (ls2 := [some (eR 0)]) (st2 := []) (y := m_M_byteAt) (as := [some (eR 0), some (eI v)]) (w2 := ([mN (eUp P 13 v), eA 0 600 bY], c)) rfl (n_byteAt (i := i) (e12 v) hn hby hv (by omega)) (fun r18 hr18 => ?_)
    refine xEqF (N := 2) (x := r18) (y := 10) (A := ev m_M_advance 26 [some (eR 0)] [] ([mN (eUp P 13 v), eA 0 600 bY], c)) (B := ev m_M_advance 39 [some (eR 0)] [] ([mN (eUp P 13 v), eA 0 600 bY], c)) rfl (wr_id (by omega) (by omega)) (show wr 10 = 10 by decide) (by omega) ?_
    exact hr v hv
  | succ d ih =>
    intro i hi v hv hr
    have hb := hby i (by omega)
    have hbA : bAt B n i = (B i : Int) := if_pos (by omega)
    have hw : wsN B (d + 1) i = if B i = 32 ∨ B i = 10 then wsN B d (i + 1) else i := rfl
    by_cases h1 : B i = 32 ∨ B i = 10
    · rw [if_pos h1] at hw
      have hq := ih (i + 1) (by omega) (v + 1) (by omega) (fun v' hv' => hr v' (by rw [hw]; exact hv'))
      refine xCallWI (N := 4) (v := bAt B n i) (M2 := m_M_advance) (pc2 := 5) (ls2 := [some (eR 0)]) (st2 := []) (y := m_M_byteAt) (as := [some (eR 0), some (eI v)]) (w2 := ([mN (eUp P 13 v), eA 0 600 bY], c)) rfl (n_byteAt (i := i) (e12 v) hn hby hv (by omega)) (fun r5 hr5 => ?_)
      refine xEq (N := 2) (x := r5) (y := 32) (A := ev m_M_advance 26 [some (eR 0)] [] ([mN (eUp P 13 v), eA 0 600 bY], c)) (B := ev m_M_advance 13 [some (eR 0)] [] ([mN (eUp P 13 v), eA 0 600 bY], c)) rfl (wr_id (by omega) (by omega)) (show wr 32 = 32 by decide) (fun h10 => ?_) (fun h10 => ?_)
      · refine xSeg (N := 7) (r := ev m_M_advance 0 [some (eR 0)] [] ([mN (eUp (eUp P 13 v) 13 (v + 1)), eA 0 600 bY], c)) rfl ?_
        rw [eUp_eUp]
        exact hq
      · refine xCallWI (N := 4) (v := bAt B n i) (M2 := m_M_advance) (pc2 := 18) (ls2 := [some (eR 0)]) (st2 := []) (y := m_M_byteAt) (as := [some (eR 0), some (eI v)]) (w2 := ([mN (eUp P 13 v), eA 0 600 bY], c)) rfl (n_byteAt (i := i) (e12 v) hn hby hv (by omega)) (fun r18 hr18 => ?_)
        refine xEq (N := 2) (x := r18) (y := 10) (A := ev m_M_advance 26 [some (eR 0)] [] ([mN (eUp P 13 v), eA 0 600 bY], c)) (B := ev m_M_advance 39 [some (eR 0)] [] ([mN (eUp P 13 v), eA 0 600 bY], c)) rfl (wr_id (by omega) (by omega)) (show wr 10 = 10 by decide) (fun h23 => ?_) (fun h23 => ?_)
        · refine xSeg (N := 7) (r := ev m_M_advance 0 [some (eR 0)] [] ([mN (eUp (eUp P 13 v) 13 (v + 1)), eA 0 600 bY], c)) rfl ?_
          rw [eUp_eUp]
          exact hq
        · exact absurd h1 (by omega)
    · rw [if_neg h1] at hw
      have hq := hr v (by rw [hw]; exact hv)
      refine xCallWI (N := 4) (v := bAt B n i) (M2 := m_M_advance) (pc2 := 5) (ls2 := [some (eR 0)]) (st2 := []) (y := m_M_byteAt) (as := [some (eR 0), some (eI v)]) (w2 := ([mN (eUp P 13 v), eA 0 600 bY], c)) rfl (n_byteAt (i := i) (e12 v) hn hby hv (by omega)) (fun r5 hr5 => ?_)
      refine xEqF (N := 2) (x := r5) (y := 32) (A := ev m_M_advance 26 [some (eR 0)] [] ([mN (eUp P 13 v), eA 0 600 bY], c)) (B := ev m_M_advance 13 [some (eR 0)] [] ([mN (eUp P 13 v), eA 0 600 bY], c)) rfl (wr_id (by omega) (by omega)) (show wr 32 = 32 by decide) (by omega) ?_
      refine xCallWI (N := 4) (v := bAt B n i) (M2 := m_M_advance) (pc2 := 18) (ls2 := [some (eR 0)]) (st2 := []) (y := m_M_byteAt) (as := [some (eR 0), some (eI v)]) (w2 := ([mN (eUp P 13 v), eA 0 600 bY], c)) rfl (n_byteAt (i := i) (e12 v) hn hby hv (by omega)) (fun r18 hr18 => ?_)
      refine xEqF (N := 2) (x := r18) (y := 10) (A := ev m_M_advance 26 [some (eR 0)] [] ([mN (eUp P 13 v), eA 0 600 bY], c)) (B := ev m_M_advance 39 [some (eR 0)] [] ([mN (eUp P 13 v), eA 0 600 bY], c)) rfl (wr_id (by omega) (by omega)) (show wr 10 = 10 by decide) (by omega) ?_
      exact hq
