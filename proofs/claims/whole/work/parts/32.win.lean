/-! The class's window: questions that change nothing. -/
/-- the first k from k on, d of them, with p; else -1 -/
def fnd (p : Nat → Bool) : Nat → Nat → Int
  | 0, _ => -1
  | d + 1, k => bif p k then (k : Int) else fnd p d (k + 1)
def sumN (f : Nat → Int) : Nat → Int
  | 0 => 0
  | k + 1 => sumN f k + f k
theorem c_cell {x y : Int} {w : eW} : ev m_G_cell 0 [some (eI x), some (eI y)] [] w = some (.inl (some (eI (y * 6 + x))), w) := by
  refine xSeg (N := 6) (r := some (.inl (some (eI (y * 6 + x))), w)) rfl ?_
  rfl
def oSlots (S : wS) (n : Nat) : Prop := S 1 4 = (n : Int) ∧ n ≤ 24
set_option maxRecDepth 100000 in
theorem c_findEmptySlot {S : wS} {c : Nat × Nat} {n : Nat} (h1 : S 1 4 = (n : Int)) (h2 : n ≤ 24) (h3 : ∀ k, k < n → 0 ≤ S 15 k ∧ S 15 k < 2147483648) : ev m_W_findEmptySlot 0 [some (eR 0)] [] (wC S, c) = some (.inl (some (eI (fnd (fun k => decide (S 15 k = 0)) n 0))), (wC S, c)) := by
  refine xSeg (N := 2) (r := ev m_W_findEmptySlot 2 [some (eR 0), some (eI 0)] [] (wC S, c)) rfl ?_
  skip
  have hl : ∀ k, k ≤ n → ∀ x : Int, x = (k : Int) → ev m_W_findEmptySlot 2 [some (eR 0), some (eI x)] [] (wC S, c) = some (.inl (some (eI (fnd (fun k => decide (S 15 k = 0)) (n - k) k))), (wC S, c)) := by
    refine loop_up ?_ ?_
    · intro x hx
      rw [Nat.sub_self]
      refine xLtF (N := 5) (x := x) (y := S 1 4) (A := ev m_W_findEmptySlot 13 [some (eR 0), some (eI x)] [] (wC S, c)) (B := ev m_W_findEmptySlot 30 [some (eR 0), some (eI x)] [] (wC S, c)) rfl (wr_id (by omega) (by omega)) (wr_id (by omega) (by omega)) (by omega) ?_
      refine xSeg (N := 2) (r := some (.inl (some (eI (-1))), (wC S, c))) rfl ?_
      rfl
    · intro k hk ih x hx
      have h4 := h3 k hk
      rw [show n - k = (n - (k + 1)) + 1 by omega]
      refine xLtT (N := 5) (x := x) (y := S 1 4) (A := ev m_W_findEmptySlot 13 [some (eR 0), some (eI x)] [] (wC S, c)) (B := ev m_W_findEmptySlot 30 [some (eR 0), some (eI x)] [] (wC S, c)) rfl (wr_id (by omega) (by omega)) (wr_id (by omega) (by omega)) (by omega) ?_
      refine xLd (N := 4) (n := 24) (i := x) (F := fun z => ev m_W_findEmptySlot 19 [some (eR 0), some (eI x)] [eI (S 15 z)] (wC S, c)) (k := k) rfl (wr_nat (by omega) (by omega)) (by omega) ?_
      refine xEq (N := 1) (x := S 15 k) (y := 0) (A := ev m_W_findEmptySlot 22 [some (eR 0), some (eI x)] [] (wC S, c)) (B := ev m_W_findEmptySlot 24 [some (eR 0), some (eI x)] [] (wC S, c)) rfl (wr_id (by omega) (by omega)) (show wr 0 = 0 by decide) (fun h19 => ?_) (fun h19 => ?_)
      · refine xSeg (N := 2) (r := some (.inl (some (eI x)), (wC S, c))) rfl ?_
        simp [fnd, h19, hx]
      · refine xSeg (N := 2) (r := ev m_W_findEmptySlot 2 [some (eR 0), some (eI (x + 1))] [] (wC S, c)) rfl ?_
        simp only [fnd, h19, decide_false, cond_false]
        exact ih _ (by omega)
  exact hl 0 (Nat.zero_le _) _ rfl
