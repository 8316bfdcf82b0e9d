/-! The class's numbers. -/
def caN (B : Nat → Nat) : Nat → Nat → Nat → Nat
  | 0, _, v => v
  | d + 1, i, v => caN B d (i + 1) (min (10 * v + B i - 48) 1000)
/-- both values are one, up to 1000 -/
theorem va_ca {B : Nat → Nat} : ∀ {d i v u : Nat}, min v 1000 = u → min (vaN B d i v) 1000 = caN B (rnN B 2 d i - i) i u
  | 0, i, v, u, h => by
    show min v 1000 = caN B (i - i) i u
    rw [Nat.sub_self]
    exact h
  | d + 1, i, v, u, h => by
    show min (if kd (B i) = 2 then vaN B d (i + 1) (stV v (B i)) else v) 1000 = caN B ((if kd (B i) = 2 then rnN B 2 d (i + 1) else i) - i) i u
    by_cases hk : kd (B i) = 2
    · have hb := kd_2.mp hk
      have hle := (rnN_le (B := B) (k := 2) (d := d) (i := i + 1)).1
      rw [if_pos hk, if_pos hk, show rnN B 2 d (i + 1) - i = (rnN B 2 d (i + 1) - (i + 1)) + 1 by omega]
      refine va_ca (d := d) (i := i + 1) (v := stV v (B i)) (u := min (10 * u + B i - 48) 1000) ?_
      unfold stV
      split <;> omega
    · rw [if_neg hk, if_neg hk, Nat.sub_self]
      exact h
set_option maxRecDepth 100000
theorem c_fail {P bY : Nat → Int} {ln x : Int} {c : Nat × Nat} : ev m_P_fail 0 [some (eR 0), some (eI x)] [] ([pO P, eO 2 [eR 2, eI ln, eSt 20], eA 0 600 bY], c) = some (.inl (some (eI 0)), ([pO (eUp P 3 x), eO 2 [eR 2, eI ln, eSt 20], eA 0 600 bY], c)) := by
  refine xRb (N := 5) (v := 0) (w2 := ([pO (eUp P 3 x), eO 2 [eR 2, eI ln, eSt 20], eA 0 600 bY], c)) rfl (by decide) ?_
  rfl
theorem c_numL {P bY : Nat → Int} {B : Nat → Nat} {n S E : Nat} {ln x1 x2 x3 : Int} {c : Nat × Nat} (h5 : P 5 = (E : Int)) (hn : n ≤ 600) (hEn : E ≤ n) (hby : ∀ i, i < n → bY i = (B i : Int) ∧ B i < 256) (hdig : ∀ i, S ≤ i → i < E → 48 ≤ B i ∧ B i ≤ 57) {r : eRes} : ∀ d i : Nat, i + d = E → S ≤ i → ∀ (m : Nat) (v y : Int), v = (m : Int) → m ≤ 1000 → y = (i : Int) → (∀ v' y' : Int, v' = ((caN B d i m : Nat) : Int) → ev m_P_readNumber 68 [some (eR 0), some (eI x1), some (eI x2), some (eI x3), some (eI v'), some (eI y')] [] ([pO P, eO 2 [eR 2, eI ln, eSt 20], eA 0 600 bY], c) = r) → ev m_P_readNumber 29 [some (eR 0), some (eI x1), some (eI x2), some (eI x3), some (eI v), some (eI y)] [] ([pO P, eO 2 [eR 2, eI ln, eSt 20], eA 0 600 bY], c) = r := by
  intro d
  induction d with
  | zero =>
    intro i hi hS m v y hv hm hy hr
    refine xLtF (N := 4) (x := y) (y := P 5) (A := ev m_P_readNumber 38 [some (eR 0), some (eI x1), some (eI x2), some (eI x3), some (eI v), some (eI y)] [] ([pO P, eO 2 [eR 2, eI ln, eSt 20], eA 0 600 bY], c)) (B := ev m_P_readNumber 68 [some (eR 0), some (eI x1), some (eI x2), some (eI x3), some (eI v), some (eI y)] [] ([pO P, eO 2 [eR 2, eI ln, eSt 20], eA 0 600 bY], c)) rfl (wr_id (by omega) (by omega)) (wr_id (by omega) (by omega)) (by omega) ?_
    exact hr v y hv
  | succ d ih =>
    intro i hi hS m v y hv hm hy hr
    have hb := hby i (by omega)
    have hd := hdig i hS (by omega)
    have hq := fun v2 (h2 : v2 = ((min (10 * m + B i - 48) 1000 : Nat) : Int)) => ih (i + 1) (by omega) (by omega) (min (10 * m + B i - 48) 1000) v2 (y + 1) h2 (by omega) (by omega) (fun v' y' hv' => hr v' y' hv')
    refine xLtT (N := 4) (x := y) (y := P 5) (A := ev m_P_readNumber 38 [some (eR 0), some (eI x1), some (eI x2), some (eI x3), some (eI v), some (eI y)] [] ([pO P, eO 2 [eR 2, eI ln, eSt 20], eA 0 600 bY], c)) (B := ev m_P_readNumber 68 [some (eR 0), some (eI x1), some (eI x2), some (eI x3), some (eI v), some (eI y)] [] ([pO P, eO 2 [eR 2, eI ln, eSt 20], eA 0 600 bY], c)) rfl (wr_id (by omega) (by omega)) (wr_id (by omega) (by omega)) (by omega) ?_
    refine xLd (N := 7) (n := 600) (i := y) (F := fun zq => ev m_P_readNumber 50 [some (eR 0), some (eI x1), some (eI x2), some (eI x3), some (eI v), some (eI y)] [eI (bY zq), eI (v * 10)] ([pO P, eO 2 [eR 2, eI ln, eSt 20], eA 0 600 bY], c)) (k := i) rfl (wr_nat (by omega) (by omega)) (by omega) ?_
    refine xTop (N := 5) (pc2 := 60) (ls2 := [some (eR 0), some (eI x1), some (eI x2), some (eI x3), some (eI v), some (eI y)]) (a := if wr (((v * 10) + (bY i)) - 48) < wr 1000 then ((v * 10) + (bY i)) - 48 else 1000) (b := ((min (10 * m + B i - 48) 1000 : Nat) : Int)) (st2 := []) (w2 := ([pO P, eO 2 [eR 2, eI ln, eSt 20], eA 0 600 bY], c)) rfl (by rw [wr_id (by omega) (by omega), wr_id (by omega) (by omega)]; split <;> omega) (fun u hu => ?_)
    refine xSeg (N := 3) (r := ev m_P_readNumber 29 [some (eR 0), some (eI x1), some (eI x2), some (eI x3), some (eI u), some (eI (y + 1))] [] ([pO P, eO 2 [eR 2, eI ln, eSt 20], eA 0 600 bY], c)) rfl ?_
    exact hq u hu
theorem rn_all {B : Nat → Nat} {k : Nat} : ∀ {d i j : Nat}, i ≤ j → j < rnN B k d i → kd (B j) = k
  | 0, i, j, h1, h2 => by
    have h3 : j < i := h2
    omega
  | d + 1, i, j, h1, h2 => by
    have h3 : j < (if kd (B i) = k then rnN B k d (i + 1) else i) := h2
    by_cases hk : kd (B i) = k
    · rw [if_pos hk] at h3
      by_cases hj : j = i
      · rw [hj]; exact hk
      · exact rn_all (d := d) (i := i + 1) (by omega) h3
    · rw [if_neg hk] at h3
      omega
