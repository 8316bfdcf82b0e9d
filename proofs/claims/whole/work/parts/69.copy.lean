/-! Copies: the model's rows. -/
def cpR (f h : Nat → Int) (I J k : Nat) : Nat → Int := fun i => if J ≤ i ∧ i < J + k then f (I + (i - J)) else h i
theorem cpR_0 {f h : Nat → Int} {I J : Nat} : cpR f h I J 0 = h := by funext i; unfold cpR; rw [if_neg (by omega)]
theorem cpR_step {f h : Nat → Int} {I J k : Nat} : eUp (cpR f h I J k) (J + k) (f (I + k)) = cpR f h I J (k + 1) := by
  funext i
  unfold eUp cpR
  by_cases hi : i = J + k
  · rw [if_pos hi, if_pos (by omega), hi, Nat.add_sub_cancel_left]
  · rw [if_neg hi]
    by_cases h2 : J ≤ i ∧ i < J + k
    · rw [if_pos h2, if_pos (by omega)]
    · rw [if_neg h2, if_neg (by omega)]
theorem cpR_in {f h : Nat → Int} {I J k i : Nat} (hi : i < k) : cpR f h I J k (J + i) = f (I + i) := by
  unfold cpR
  rw [if_pos (by omega), Nat.add_sub_cancel_left]
theorem cpR_out {f h : Nat → Int} {I J k i : Nat} (hi : i < J ∨ J + k ≤ i) : cpR f h I J k i = h i := by
  unfold cpR
  rw [if_neg (by omega)]
set_option maxRecDepth 100000
theorem n_copyRow {f h : Nat → Int} {c : Nat × Nat} {x y : Int} {n n2 I J : Nat} (hx : x = (I : Int)) (hy : y = (J : Int)) (h1 : I + 964 ≤ n) (h2 : J + 964 ≤ n2) (hn : n ≤ 65536) (hn2 : n2 ≤ 65536) : ev m_M_copyRow 0 [some (eR 0), some (eI x), some (eR 1), some (eI y)] [] ([eA 0 n f, eA 0 n2 h], c) = some (.inl none, ([eA 0 n f, eA 0 n2 (cpR f h I J 964)], c)) := by
  have hl : ∀ k : Nat, k ≤ 964 → ∀ v : Int, v = (k : Int) → ev m_M_copyRow 3 [some (eR 0), some (eI x), some (eR 1), some (eI y), some (eI v)] [] ([eA 0 n f, eA 0 n2 (cpR f h I J k)], c) = some (.inl none, ([eA 0 n f, eA 0 n2 (cpR f h I J 964)], c)) := by
    refine loop_up ?_ ?_
    · intro v hv
      refine xLtF (N := 3) (x := v) (y := 964) (A := ev m_M_copyRow 11 [some (eR 0), some (eI x), some (eR 1), some (eI y), some (eI v)] [] ([eA 0 n f, eA 0 n2 (cpR f h I J 964)], c)) (B := ev m_M_copyRow 29 [some (eR 0), some (eI x), some (eR 1), some (eI y), some (eI v)] [] ([eA 0 n f, eA 0 n2 (cpR f h I J 964)], c)) rfl (wr_id (by omega) (by omega)) (show wr 964 = 964 by decide) (by omega) ?_
      refine xSeg (N := 1) (r := some (.inl none, ([eA 0 n f, eA 0 n2 (cpR f h I J 964)], c))) rfl ?_
      rfl
    · intro k hk ih v hv
      have hq := ih (v + 1) (by omega)
      refine xLtT (N := 3) (x := v) (y := 964) (A := ev m_M_copyRow 11 [some (eR 0), some (eI x), some (eR 1), some (eI y), some (eI v)] [] ([eA 0 n f, eA 0 n2 (cpR f h I J k)], c)) (B := ev m_M_copyRow 29 [some (eR 0), some (eI x), some (eR 1), some (eI y), some (eI v)] [] ([eA 0 n f, eA 0 n2 (cpR f h I J k)], c)) rfl (wr_id (by omega) (by omega)) (show wr 964 = 964 by decide) (by omega) ?_
      refine xLd (N := 9) (n := n) (i := x + v) (F := fun zq => ev m_M_copyRow 22 [some (eR 0), some (eI x), some (eR 1), some (eI y), some (eI v)] [eI (f zq), eI (y + v), eR 1] ([eA 0 n f, eA 0 n2 (cpR f h I J k)], c)) (k := I + k) rfl (wr_nat (by omega) (by omega)) (by omega) ?_
      refine xLd (N := 1) (n := n2) (i := y + v) (F := fun zq => ev m_M_copyRow 23 [some (eR 0), some (eI x), some (eR 1), some (eI y), some (eI v)] [] ([eA 0 n f, eA 0 n2 (eUp (cpR f h I J k) zq (f (I + k)))], c)) (k := J + k) rfl (wr_nat (by omega) (by omega)) (by omega) ?_
      refine xSeg (N := 2) (r := ev m_M_copyRow 3 [some (eR 0), some (eI x), some (eR 1), some (eI y), some (eI (v + 1))] [] ([eA 0 n f, eA 0 n2 (eUp (cpR f h I J k) (J + k) (f (I + k)))], c)) rfl ?_
      rw [cpR_step]
      exact hq
  have h0 := hl 0 (Nat.zero_le _) 0 rfl
  rw [cpR_0] at h0
  refine xSeg (N := 2) (r := ev m_M_copyRow 3 [some (eR 0), some (eI x), some (eR 1), some (eI y), some (eI 0)] [] ([eA 0 n f, eA 0 n2 h], c)) rfl ?_
  exact h0
theorem n_noLetters {g : Nat → Int} {a : eRow} {c : Nat × Nat} (hg : rg g a) (hG : iG a) : ev m_M_hasLetters 0 [some (eR 0)] [] ([eA 0 964 g], c) = some (.inl (some (eI (bI (anyN (fun e => decide (a (52 + e) ≠ 0)) 36)))), ([eA 0 964 g], c)) := n_hasLetters hg (fun e he => by
  have h9 := (hG.2.1 e he).2.1
  omega)
/-! The class's windows. -/
def cyl (b : Nat) : Nat := bif Nat.beq b 0 then 12 else bif Nat.beq b 1 then 12 else bif Nat.beq b 11 then 4 else bif Nat.beq b 12 then 30 else bif Nat.beq b 13 then 180 else bif Nat.beq b 14 then 26 else bif Nat.beq b 18 then 576 else bif Nat.beq b 9 then 144 else bif Nat.beq b 10 then 144 else bif Nat.beq b 19 then 144 else bif (Nat.beq b 2 || Nat.beq b 3 || Nat.beq b 7 || Nat.beq b 8) then 36 else 24
theorem eCpy_in {f h : Nat → Int} {k i : Nat} (hi : i < k) : eCpy f h 0 0 k i = f i := by
  unfold eCpy
  rw [if_pos (by omega)]
  congr 1
  omega
