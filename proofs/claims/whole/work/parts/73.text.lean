/-! The text: kinds of bytes, spaces, runs. -/
def kd (b : Nat) : Nat := if 97 ≤ b ∧ b ≤ 122 then 1 else if 48 ≤ b ∧ b ≤ 57 then 2 else 3
def wsN (B : Nat → Nat) : Nat → Nat → Nat
  | 0, i => i
  | d + 1, i => if B i = 32 ∨ B i = 10 then wsN B d (i + 1) else i
def rnN (B : Nat → Nat) (k : Nat) : Nat → Nat → Nat
  | 0, i => i
  | d + 1, i => if kd (B i) = k then rnN B k d (i + 1) else i
theorem wsN_le {B : Nat → Nat} : ∀ {d i : Nat}, i ≤ wsN B d i ∧ wsN B d i ≤ i + d
  | 0, i => ⟨Nat.le_refl i, Nat.le_refl i⟩
  | d + 1, i => by
    have h := wsN_le (B := B) (d := d) (i := i + 1)
    show i ≤ (if B i = 32 ∨ B i = 10 then wsN B d (i + 1) else i) ∧ (if B i = 32 ∨ B i = 10 then wsN B d (i + 1) else i) ≤ i + (d + 1)
    split <;> omega
theorem rnN_le {B : Nat → Nat} {k : Nat} : ∀ {d i : Nat}, i ≤ rnN B k d i ∧ rnN B k d i ≤ i + d
  | 0, i => ⟨Nat.le_refl i, Nat.le_refl i⟩
  | d + 1, i => by
    have h := rnN_le (B := B) (k := k) (d := d) (i := i + 1)
    show i ≤ (if kd (B i) = k then rnN B k d (i + 1) else i) ∧ (if kd (B i) = k then rnN B k d (i + 1) else i) ≤ i + (d + 1)
    split <;> omega
/-- where the next token begins, its kind (0 none, 1 letters, 2 digits, 3 a sign), where it ends -/
def tkS (B : Nat → Nat) (n e : Nat) : Nat := wsN B (n - e) e
def tkK (B : Nat → Nat) (n e : Nat) : Nat := if tkS B n e < n then kd (B (tkS B n e)) else 0
def tkE (B : Nat → Nat) (n e : Nat) : Nat := if tkS B n e < n then (if kd (B (tkS B n e)) = 3 then tkS B n e + 1 else rnN B (kd (B (tkS B n e))) (n - (tkS B n e + 1)) (tkS B n e + 1)) else tkS B n e
def pO (P : Nat → Int) : eC := eO 3 [eR 1, eSt 19, eR 2, eI (P 3), eI (P 4), eI (P 5), eI (P 6), eI (P 7), eI (P 8), eI (P 9), eI (P 10), eI (P 11), eI (P 12), eI (P 13), eI (P 14), eI (P 15), eI (P 16), eI (P 17)]
set_option maxRecDepth 100000
theorem c_kindOf {x : Int} {b : Nat} {w : eW} (hx : x = (b : Int) ∧ b < 256) : ev m_P_kindOf 0 [some (eR 0), some (eI x)] [] w = some (.inl (some (eI ((kd b : Nat) : Int))), w) := by
  by_cases h1 : 97 ≤ b ∧ b ≤ 122
  · have hk : kd b = 1 := if_pos h1
    rw [hk]
    refine xLtF (N := 3) (x := x) (y := 97) (A := ev m_P_kindOf 14 [some (eR 0), some (eI x)] [] (w.1, w.2)) (B := ev m_P_kindOf 6 [some (eR 0), some (eI x)] [] (w.1, w.2)) rfl (wr_id (by omega) (by omega)) (show wr 97 = 97 by decide) (by omega) ?_
    refine xLtF (N := 3) (x := 122) (y := x) (A := ev m_P_kindOf 14 [some (eR 0), some (eI x)] [] (w.1, w.2)) (B := ev m_P_kindOf 12 [some (eR 0), some (eI x)] [] (w.1, w.2)) rfl (show wr 122 = 122 by decide) (wr_id (by omega) (by omega)) (by omega) ?_
    refine xSeg (N := 2) (r := some (.inl (some (eI 1)), (w.1, w.2))) rfl ?_
    rfl
  · by_cases h2 : 48 ≤ b ∧ b ≤ 57
    · have hk : kd b = 2 := by unfold kd; rw [if_neg h1, if_pos h2]
      rw [hk]
      refine xLtT (N := 3) (x := x) (y := 97) (A := ev m_P_kindOf 14 [some (eR 0), some (eI x)] [] (w.1, w.2)) (B := ev m_P_kindOf 6 [some (eR 0), some (eI x)] [] (w.1, w.2)) rfl (wr_id (by omega) (by omega)) (show wr 97 = 97 by decide) (by omega) ?_
      refine xLtF (N := 3) (x := x) (y := 48) (A := ev m_P_kindOf 30 [some (eR 0), some (eI x)] [] (w.1, w.2)) (B := ev m_P_kindOf 20 [some (eR 0), some (eI x)] [] (w.1, w.2)) rfl (wr_id (by omega) (by omega)) (show wr 48 = 48 by decide) (by omega) ?_
      refine xLtF (N := 3) (x := 57) (y := x) (A := ev m_P_kindOf 30 [some (eR 0), some (eI x)] [] (w.1, w.2)) (B := ev m_P_kindOf 26 [some (eR 0), some (eI x)] [] (w.1, w.2)) rfl (show wr 57 = 57 by decide) (wr_id (by omega) (by omega)) (by omega) ?_
      refine xSeg (N := 3) (r := some (.inl (some (eI 2)), (w.1, w.2))) rfl ?_
      rfl
    · have hk : kd b = 3 := by unfold kd; rw [if_neg h1, if_neg h2]
      rw [hk]
      refine xLt (N := 3) (x := x) (y := 97) (A := ev m_P_kindOf 14 [some (eR 0), some (eI x)] [] (w.1, w.2)) (B := ev m_P_kindOf 6 [some (eR 0), some (eI x)] [] (w.1, w.2)) rfl (wr_id (by omega) (by omega)) (show wr 97 = 97 by decide) (fun h3 => ?_) (fun h3 => ?_)
      · refine xLt (N := 3) (x := x) (y := 48) (A := ev m_P_kindOf 30 [some (eR 0), some (eI x)] [] (w.1, w.2)) (B := ev m_P_kindOf 20 [some (eR 0), some (eI x)] [] (w.1, w.2)) rfl (wr_id (by omega) (by omega)) (show wr 48 = 48 by decide) (fun h17 => ?_) (fun h17 => ?_)
        · refine xSeg (N := 2) (r := some (.inl (some (eI 3)), (w.1, w.2))) rfl ?_
          first | rfl | omega
        · refine xLt (N := 3) (x := 57) (y := x) (A := ev m_P_kindOf 30 [some (eR 0), some (eI x)] [] (w.1, w.2)) (B := ev m_P_kindOf 26 [some (eR 0), some (eI x)] [] (w.1, w.2)) rfl (show wr 57 = 57 by decide) (wr_id (by omega) (by omega)) (fun h23 => ?_) (fun h23 => ?_)
          · refine xSeg (N := 2) (r := some (.inl (some (eI 3)), (w.1, w.2))) rfl ?_
            first | rfl | omega
          · refine xSeg (N := 3) (r := some (.inl (some (eI 2)), (w.1, w.2))) rfl ?_
            first | rfl | omega
      · refine xLt (N := 3) (x := 122) (y := x) (A := ev m_P_kindOf 14 [some (eR 0), some (eI x)] [] (w.1, w.2)) (B := ev m_P_kindOf 12 [some (eR 0), some (eI x)] [] (w.1, w.2)) rfl (show wr 122 = 122 by decide) (wr_id (by omega) (by omega)) (fun h9 => ?_) (fun h9 => ?_)
        · refine xLt (N := 3) (x := x) (y := 48) (A := ev m_P_kindOf 30 [some (eR 0), some (eI x)] [] (w.1, w.2)) (B := ev m_P_kindOf 20 [some (eR 0), some (eI x)] [] (w.1, w.2)) rfl (wr_id (by omega) (by omega)) (show wr 48 = 48 by decide) (fun h17 => ?_) (fun h17 => ?_)
          · refine xSeg (N := 2) (r := some (.inl (some (eI 3)), (w.1, w.2))) rfl ?_
            first | rfl | omega
          · refine xLt (N := 3) (x := 57) (y := x) (A := ev m_P_kindOf 30 [some (eR 0), some (eI x)] [] (w.1, w.2)) (B := ev m_P_kindOf 26 [some (eR 0), some (eI x)] [] (w.1, w.2)) rfl (show wr 57 = 57 by decide) (wr_id (by omega) (by omega)) (fun h23 => ?_) (fun h23 => ?_)
            · refine xSeg (N := 2) (r := some (.inl (some (eI 3)), (w.1, w.2))) rfl ?_
              first | rfl | omega
            · refine xSeg (N := 3) (r := some (.inl (some (eI 2)), (w.1, w.2))) rfl ?_
              first | rfl | omega
        · refine xSeg (N := 2) (r := some (.inl (some (eI 1)), (w.1, w.2))) rfl ?_
          first | rfl | omega
