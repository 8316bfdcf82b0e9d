/-! Texts that are laid. -/
def stI (s : Nat) (i : Nat) : Int := (eNth (eStr s) i).getD 0
set_option maxRecDepth 100000
theorem c_put {n : Nat} {ln v : Int} {bY : Nat → Int} {c : Nat × Nat} (hl : ln = (n : Int)) (hn : n < 600) : ev m_I_put 0 [some (eR 0), some (eI v)] [] ([eO 2 [eR 1, eI ln, eSt 19], eA 0 600 bY], c) = some (.inl none, ([eO 2 [eR 1, eI (ln + 1), eSt 19], eA 0 600 (eUp bY n v)], c)) := by
  refine xLtT (N := 4) (x := ln) (y := 600) (A := ev m_I_put 10 [some (eR 0), some (eI v)] [] ([eO 2 [eR 1, eI ln, eSt 19], eA 0 600 bY], c)) (B := ev m_I_put 30 [some (eR 0), some (eI v)] [] ([eO 2 [eR 1, eI ln, eSt 19], eA 0 600 bY], c)) rfl (wr_id (by omega) (by omega)) (show wr 600 = 600 by decide) (by omega) ?_
  refine xLd (N := 6) (n := 600) (i := ln) (F := fun zq => ev m_I_put 20 [some (eR 0), some (eI v)] [] ([eO 2 [eR 1, eI ln, eSt 19], eA 0 600 (eUp bY zq v)], c)) (k := n) rfl (wr_nat (by omega) (by omega)) (by omega) ?_
  refine xSeg (N := 7) (r := some (.inl none, ([eO 2 [eR 1, eI (ln + 1), eSt 19], eA 0 600 (eUp bY n v)], c))) rfl ?_
  rfl
theorem c_tx7 {n : Nat} {ln : Int} {bY : Nat → Int} {c : Nat × Nat} (hl : ln = (n : Int)) (hn : n + 49 ≤ 600) : ∃ le : Int, le = ((n + 49 : Nat) : Int) ∧ ev m_I_putText 0 [some (eR 0), some (eSt 7)] [] ([eO 2 [eR 1, eI ln, eSt 19], eA 0 600 bY], c) = some (.inl none, ([eO 2 [eR 1, eI le, eSt 19], eA 0 600 (cpR (stI 7) bY 0 n 49)], c)) := by
  obtain ⟨le, hle⟩ : ∃ le : Int, le = ((n + 49 : Nat) : Int) := ⟨_, rfl⟩
  refine ⟨le, hle, ?_⟩
  have hw : ∀ q p : Nat, p + q = 49 → ∀ y z : Int, y = (p : Int) → z = ((n + p : Nat) : Int) → ev m_I_putText 2 [some (eR 0), some (eSt 7), some (eI y)] [] ([eO 2 [eR 1, eI z, eSt 19], eA 0 600 (cpR (stI 7) bY 0 n p)], c) = some (.inl none, ([eO 2 [eR 1, eI le, eSt 19], eA 0 600 (cpR (stI 7) bY 0 n 49)], c)) := by
    intro q
    induction q with
    | zero =>
      intro p hp y z hy hz
      have hpm : p = 49 := by omega
      have hze : z = le := by omega
      subst hpm
      rw [hze]
      refine xLtF (N := 4) (x := y) (y := 49) (A := ev m_I_putText 10 [some (eR 0), some (eSt 7), some (eI y)] [] ([eO 2 [eR 1, eI le, eSt 19], eA 0 600 (cpR (stI 7) bY 0 n 49)], c)) (B := ev m_I_putText 25 [some (eR 0), some (eSt 7), some (eI y)] [] ([eO 2 [eR 1, eI le, eSt 19], eA 0 600 (cpR (stI 7) bY 0 n 49)], c)) rfl (wr_id (by omega) (by omega)) (show wr 49 = 49 by decide) (by omega) ?_
      refine xSeg (N := 1) (r := some (.inl none, ([eO 2 [eR 1, eI le, eSt 19], eA 0 600 (cpR (stI 7) bY 0 n 49)], c))) rfl ?_
      rfl
    | succ q ih =>
      intro p hp y z hy hz
      have hlen : eLen (eStr 7) = 49 := rfl
      refine xLtT (N := 4) (x := y) (y := 49) (A := ev m_I_putText 10 [some (eR 0), some (eSt 7), some (eI y)] [] ([eO 2 [eR 1, eI z, eSt 19], eA 0 600 (cpR (stI 7) bY 0 n p)], c)) (B := ev m_I_putText 25 [some (eR 0), some (eSt 7), some (eI y)] [] ([eO 2 [eR 1, eI z, eSt 19], eA 0 600 (cpR (stI 7) bY 0 n p)], c)) rfl (wr_id (by omega) (by omega)) (show wr 49 = 49 by decide) (by omega) ?_
      refine xLd (N := 4) (n := eLen (eStr 7)) (i := y) (F := fun zq => ev m_I_putText 16 [some (eR 0), some (eSt 7), some (eI y)] [eI ((eNth (eStr 7) zq).getD 0), eR 0] ([eO 2 [eR 1, eI z, eSt 19], eA 0 600 (cpR (stI 7) bY 0 n p)], c)) (k := p) rfl (wr_nat (by omega) (by omega)) (by omega) ?_
      refine xCallWV (N := 1) (M2 := m_I_putText) (pc2 := 16) (ls2 := [some (eR 0), some (eSt 7), some (eI y)]) (st2 := []) (y := m_I_put) (as := [some (eR 0), some (eI ((eNth (eStr 7) p).getD 0))]) (w2 := ([eO 2 [eR 1, eI z, eSt 19], eA 0 600 (cpR (stI 7) bY 0 n p)], c)) rfl (c_put (n := n + p) (v := stI 7 p) hz (by omega)) ?_
      refine xSeg (N := 2) (r := ev m_I_putText 2 [some (eR 0), some (eSt 7), some (eI (y + 1))] [] ([eO 2 [eR 1, eI (z + 1), eSt 19], eA 0 600 (eUp (cpR (stI 7) bY 0 n p) (n + p) (stI 7 p))], c)) rfl ?_
      have hcp := cpR_step (f := stI 7) (h := bY) (I := 0) (J := n) (k := p)
      rw [Nat.zero_add] at hcp
      rw [hcp]
      exact ih (p + 1) (by omega) _ _ (by omega) (by omega)
  refine xSeg (N := 2) (r := ev m_I_putText 2 [some (eR 0), some (eSt 7), some (eI 0)] [] ([eO 2 [eR 1, eI ln, eSt 19], eA 0 600 bY], c)) rfl ?_
  have h0 := hw 49 0 (by omega) 0 ln rfl (by omega)
  rw [cpR_0] at h0
  exact h0
theorem c_tx8 {n : Nat} {ln : Int} {bY : Nat → Int} {c : Nat × Nat} (hl : ln = (n : Int)) (hn : n + 60 ≤ 600) : ∃ le : Int, le = ((n + 60 : Nat) : Int) ∧ ev m_I_putText 0 [some (eR 0), some (eSt 8)] [] ([eO 2 [eR 1, eI ln, eSt 19], eA 0 600 bY], c) = some (.inl none, ([eO 2 [eR 1, eI le, eSt 19], eA 0 600 (cpR (stI 8) bY 0 n 60)], c)) := by
  obtain ⟨le, hle⟩ : ∃ le : Int, le = ((n + 60 : Nat) : Int) := ⟨_, rfl⟩
  refine ⟨le, hle, ?_⟩
  have hw : ∀ q p : Nat, p + q = 60 → ∀ y z : Int, y = (p : Int) → z = ((n + p : Nat) : Int) → ev m_I_putText 2 [some (eR 0), some (eSt 8), some (eI y)] [] ([eO 2 [eR 1, eI z, eSt 19], eA 0 600 (cpR (stI 8) bY 0 n p)], c) = some (.inl none, ([eO 2 [eR 1, eI le, eSt 19], eA 0 600 (cpR (stI 8) bY 0 n 60)], c)) := by
    intro q
    induction q with
    | zero =>
      intro p hp y z hy hz
      have hpm : p = 60 := by omega
      have hze : z = le := by omega
      subst hpm
      rw [hze]
      refine xLtF (N := 4) (x := y) (y := 60) (A := ev m_I_putText 10 [some (eR 0), some (eSt 8), some (eI y)] [] ([eO 2 [eR 1, eI le, eSt 19], eA 0 600 (cpR (stI 8) bY 0 n 60)], c)) (B := ev m_I_putText 25 [some (eR 0), some (eSt 8), some (eI y)] [] ([eO 2 [eR 1, eI le, eSt 19], eA 0 600 (cpR (stI 8) bY 0 n 60)], c)) rfl (wr_id (by omega) (by omega)) (show wr 60 = 60 by decide) (by omega) ?_
      refine xSeg (N := 1) (r := some (.inl none, ([eO 2 [eR 1, eI le, eSt 19], eA 0 600 (cpR (stI 8) bY 0 n 60)], c))) rfl ?_
      rfl
    | succ q ih =>
      intro p hp y z hy hz
      have hlen : eLen (eStr 8) = 60 := rfl
      refine xLtT (N := 4) (x := y) (y := 60) (A := ev m_I_putText 10 [some (eR 0), some (eSt 8), some (eI y)] [] ([eO 2 [eR 1, eI z, eSt 19], eA 0 600 (cpR (stI 8) bY 0 n p)], c)) (B := ev m_I_putText 25 [some (eR 0), some (eSt 8), some (eI y)] [] ([eO 2 [eR 1, eI z, eSt 19], eA 0 600 (cpR (stI 8) bY 0 n p)], c)) rfl (wr_id (by omega) (by omega)) (show wr 60 = 60 by decide) (by omega) ?_
      refine xLd (N := 4) (n := eLen (eStr 8)) (i := y) (F := fun zq => ev m_I_putText 16 [some (eR 0), some (eSt 8), some (eI y)] [eI ((eNth (eStr 8) zq).getD 0), eR 0] ([eO 2 [eR 1, eI z, eSt 19], eA 0 600 (cpR (stI 8) bY 0 n p)], c)) (k := p) rfl (wr_nat (by omega) (by omega)) (by omega) ?_
      refine xCallWV (N := 1) (M2 := m_I_putText) (pc2 := 16) (ls2 := [some (eR 0), some (eSt 8), some (eI y)]) (st2 := []) (y := m_I_put) (as := [some (eR 0), some (eI ((eNth (eStr 8) p).getD 0))]) (w2 := ([eO 2 [eR 1, eI z, eSt 19], eA 0 600 (cpR (stI 8) bY 0 n p)], c)) rfl (c_put (n := n + p) (v := stI 8 p) hz (by omega)) ?_
      refine xSeg (N := 2) (r := ev m_I_putText 2 [some (eR 0), some (eSt 8), some (eI (y + 1))] [] ([eO 2 [eR 1, eI (z + 1), eSt 19], eA 0 600 (eUp (cpR (stI 8) bY 0 n p) (n + p) (stI 8 p))], c)) rfl ?_
      have hcp := cpR_step (f := stI 8) (h := bY) (I := 0) (J := n) (k := p)
      rw [Nat.zero_add] at hcp
      rw [hcp]
      exact ih (p + 1) (by omega) _ _ (by omega) (by omega)
  refine xSeg (N := 2) (r := ev m_I_putText 2 [some (eR 0), some (eSt 8), some (eI 0)] [] ([eO 2 [eR 1, eI ln, eSt 19], eA 0 600 bY], c)) rfl ?_
  have h0 := hw 60 0 (by omega) 0 ln rfl (by omega)
  rw [cpR_0] at h0
  exact h0
theorem c_tx9 {n : Nat} {ln : Int} {bY : Nat → Int} {c : Nat × Nat} (hl : ln = (n : Int)) (hn : n + 57 ≤ 600) : ∃ le : Int, le = ((n + 57 : Nat) : Int) ∧ ev m_I_putText 0 [some (eR 0), some (eSt 9)] [] ([eO 2 [eR 1, eI ln, eSt 19], eA 0 600 bY], c) = some (.inl none, ([eO 2 [eR 1, eI le, eSt 19], eA 0 600 (cpR (stI 9) bY 0 n 57)], c)) := by
  obtain ⟨le, hle⟩ : ∃ le : Int, le = ((n + 57 : Nat) : Int) := ⟨_, rfl⟩
  refine ⟨le, hle, ?_⟩
  have hw : ∀ q p : Nat, p + q = 57 → ∀ y z : Int, y = (p : Int) → z = ((n + p : Nat) : Int) → ev m_I_putText 2 [some (eR 0), some (eSt 9), some (eI y)] [] ([eO 2 [eR 1, eI z, eSt 19], eA 0 600 (cpR (stI 9) bY 0 n p)], c) = some (.inl none, ([eO 2 [eR 1, eI le, eSt 19], eA 0 600 (cpR (stI 9) bY 0 n 57)], c)) := by
    intro q
    induction q with
    | zero =>
      intro p hp y z hy hz
      have hpm : p = 57 := by omega
      have hze : z = le := by omega
      subst hpm
      rw [hze]
      refine xLtF (N := 4) (x := y) (y := 57) (A := ev m_I_putText 10 [some (eR 0), some (eSt 9), some (eI y)] [] ([eO 2 [eR 1, eI le, eSt 19], eA 0 600 (cpR (stI 9) bY 0 n 57)], c)) (B := ev m_I_putText 25 [some (eR 0), some (eSt 9), some (eI y)] [] ([eO 2 [eR 1, eI le, eSt 19], eA 0 600 (cpR (stI 9) bY 0 n 57)], c)) rfl (wr_id (by omega) (by omega)) (show wr 57 = 57 by decide) (by omega) ?_
      refine xSeg (N := 1) (r := some (.inl none, ([eO 2 [eR 1, eI le, eSt 19], eA 0 600 (cpR (stI 9) bY 0 n 57)], c))) rfl ?_
      rfl
    | succ q ih =>
      intro p hp y z hy hz
      have hlen : eLen (eStr 9) = 57 := rfl
      refine xLtT (N := 4) (x := y) (y := 57) (A := ev m_I_putText 10 [some (eR 0), some (eSt 9), some (eI y)] [] ([eO 2 [eR 1, eI z, eSt 19], eA 0 600 (cpR (stI 9) bY 0 n p)], c)) (B := ev m_I_putText 25 [some (eR 0), some (eSt 9), some (eI y)] [] ([eO 2 [eR 1, eI z, eSt 19], eA 0 600 (cpR (stI 9) bY 0 n p)], c)) rfl (wr_id (by omega) (by omega)) (show wr 57 = 57 by decide) (by omega) ?_
      refine xLd (N := 4) (n := eLen (eStr 9)) (i := y) (F := fun zq => ev m_I_putText 16 [some (eR 0), some (eSt 9), some (eI y)] [eI ((eNth (eStr 9) zq).getD 0), eR 0] ([eO 2 [eR 1, eI z, eSt 19], eA 0 600 (cpR (stI 9) bY 0 n p)], c)) (k := p) rfl (wr_nat (by omega) (by omega)) (by omega) ?_
      refine xCallWV (N := 1) (M2 := m_I_putText) (pc2 := 16) (ls2 := [some (eR 0), some (eSt 9), some (eI y)]) (st2 := []) (y := m_I_put) (as := [some (eR 0), some (eI ((eNth (eStr 9) p).getD 0))]) (w2 := ([eO 2 [eR 1, eI z, eSt 19], eA 0 600 (cpR (stI 9) bY 0 n p)], c)) rfl (c_put (n := n + p) (v := stI 9 p) hz (by omega)) ?_
      refine xSeg (N := 2) (r := ev m_I_putText 2 [some (eR 0), some (eSt 9), some (eI (y + 1))] [] ([eO 2 [eR 1, eI (z + 1), eSt 19], eA 0 600 (eUp (cpR (stI 9) bY 0 n p) (n + p) (stI 9 p))], c)) rfl ?_
      have hcp := cpR_step (f := stI 9) (h := bY) (I := 0) (J := n) (k := p)
      rw [Nat.zero_add] at hcp
      rw [hcp]
      exact ih (p + 1) (by omega) _ _ (by omega) (by omega)
  refine xSeg (N := 2) (r := ev m_I_putText 2 [some (eR 0), some (eSt 9), some (eI 0)] [] ([eO 2 [eR 1, eI ln, eSt 19], eA 0 600 bY], c)) rfl ?_
  have h0 := hw 57 0 (by omega) 0 ln rfl (by omega)
  rw [cpR_0] at h0
  exact h0
theorem c_tx10 {n : Nat} {ln : Int} {bY : Nat → Int} {c : Nat × Nat} (hl : ln = (n : Int)) (hn : n + 26 ≤ 600) : ∃ le : Int, le = ((n + 26 : Nat) : Int) ∧ ev m_I_putText 0 [some (eR 0), some (eSt 10)] [] ([eO 2 [eR 1, eI ln, eSt 19], eA 0 600 bY], c) = some (.inl none, ([eO 2 [eR 1, eI le, eSt 19], eA 0 600 (cpR (stI 10) bY 0 n 26)], c)) := by
  obtain ⟨le, hle⟩ : ∃ le : Int, le = ((n + 26 : Nat) : Int) := ⟨_, rfl⟩
  refine ⟨le, hle, ?_⟩
  have hw : ∀ q p : Nat, p + q = 26 → ∀ y z : Int, y = (p : Int) → z = ((n + p : Nat) : Int) → ev m_I_putText 2 [some (eR 0), some (eSt 10), some (eI y)] [] ([eO 2 [eR 1, eI z, eSt 19], eA 0 600 (cpR (stI 10) bY 0 n p)], c) = some (.inl none, ([eO 2 [eR 1, eI le, eSt 19], eA 0 600 (cpR (stI 10) bY 0 n 26)], c)) := by
    intro q
    induction q with
    | zero =>
      intro p hp y z hy hz
      have hpm : p = 26 := by omega
      have hze : z = le := by omega
      subst hpm
      rw [hze]
      refine xLtF (N := 4) (x := y) (y := 26) (A := ev m_I_putText 10 [some (eR 0), some (eSt 10), some (eI y)] [] ([eO 2 [eR 1, eI le, eSt 19], eA 0 600 (cpR (stI 10) bY 0 n 26)], c)) (B := ev m_I_putText 25 [some (eR 0), some (eSt 10), some (eI y)] [] ([eO 2 [eR 1, eI le, eSt 19], eA 0 600 (cpR (stI 10) bY 0 n 26)], c)) rfl (wr_id (by omega) (by omega)) (show wr 26 = 26 by decide) (by omega) ?_
      refine xSeg (N := 1) (r := some (.inl none, ([eO 2 [eR 1, eI le, eSt 19], eA 0 600 (cpR (stI 10) bY 0 n 26)], c))) rfl ?_
      rfl
    | succ q ih =>
      intro p hp y z hy hz
      have hlen : eLen (eStr 10) = 26 := rfl
      refine xLtT (N := 4) (x := y) (y := 26) (A := ev m_I_putText 10 [some (eR 0), some (eSt 10), some (eI y)] [] ([eO 2 [eR 1, eI z, eSt 19], eA 0 600 (cpR (stI 10) bY 0 n p)], c)) (B := ev m_I_putText 25 [some (eR 0), some (eSt 10), some (eI y)] [] ([eO 2 [eR 1, eI z, eSt 19], eA 0 600 (cpR (stI 10) bY 0 n p)], c)) rfl (wr_id (by omega) (by omega)) (show wr 26 = 26 by decide) (by omega) ?_
      refine xLd (N := 4) (n := eLen (eStr 10)) (i := y) (F := fun zq => ev m_I_putText 16 [some (eR 0), some (eSt 10), some (eI y)] [eI ((eNth (eStr 10) zq).getD 0), eR 0] ([eO 2 [eR 1, eI z, eSt 19], eA 0 600 (cpR (stI 10) bY 0 n p)], c)) (k := p) rfl (wr_nat (by omega) (by omega)) (by omega) ?_
      refine xCallWV (N := 1) (M2 := m_I_putText) (pc2 := 16) (ls2 := [some (eR 0), some (eSt 10), some (eI y)]) (st2 := []) (y := m_I_put) (as := [some (eR 0), some (eI ((eNth (eStr 10) p).getD 0))]) (w2 := ([eO 2 [eR 1, eI z, eSt 19], eA 0 600 (cpR (stI 10) bY 0 n p)], c)) rfl (c_put (n := n + p) (v := stI 10 p) hz (by omega)) ?_
      refine xSeg (N := 2) (r := ev m_I_putText 2 [some (eR 0), some (eSt 10), some (eI (y + 1))] [] ([eO 2 [eR 1, eI (z + 1), eSt 19], eA 0 600 (eUp (cpR (stI 10) bY 0 n p) (n + p) (stI 10 p))], c)) rfl ?_
      have hcp := cpR_step (f := stI 10) (h := bY) (I := 0) (J := n) (k := p)
      rw [Nat.zero_add] at hcp
      rw [hcp]
      exact ih (p + 1) (by omega) _ _ (by omega) (by omega)
  refine xSeg (N := 2) (r := ev m_I_putText 2 [some (eR 0), some (eSt 10), some (eI 0)] [] ([eO 2 [eR 1, eI ln, eSt 19], eA 0 600 bY], c)) rfl ?_
  have h0 := hw 26 0 (by omega) 0 ln rfl (by omega)
  rw [cpR_0] at h0
  exact h0
def σT (k : Nat) : eV := bif Nat.beq k 19 then eR 5 else eSt k
theorem i_tx7 {V : List eC} {d : Nat × Nat} {n : Nat} {ln : Int} {bY : Nat → Int} (b3 : eNth V 3 = some (eO 2 [eR 4, eI ln, eR 5])) (b4 : eNth V 4 = some (eA 0 600 bY)) (hl : ln = (n : Int)) (hn : n + 49 ≤ 600) : ∃ (V' : List eC) (le : Int), ev m_I_putText 0 [some (eR 3), some (eSt 7)] [] (V, d) = some (.inl none, (V', d)) ∧ sb V V' [3, 4] ∧ eNth V' 3 = some (eO 2 [eR 4, eI le, eR 5]) ∧ eNth V' 4 = some (eA 0 600 (cpR (stI 7) bY 0 n 49)) ∧ le = ((n + 49 : Nat) : Int) := by
  obtain ⟨le, hle, q⟩ := c_tx7 (bY := bY) (c := (0, 0)) hl hn
  obtain ⟨V', e1, ⟨e2, e3, -⟩, e4⟩ := xAtR (σ := σT) (α := [3, 4]) (V := V) (d := d) (as' := [some (eR 3), some (eSt 7)]) (o' := .inl none) q ⟨b3, b4, trivial⟩ rfl rfl rfl rfl rfl rfl rfl rfl
  exact ⟨V', le, e1, e4, e2, e3, hle⟩
theorem i_tx8 {V : List eC} {d : Nat × Nat} {n : Nat} {ln : Int} {bY : Nat → Int} (b3 : eNth V 3 = some (eO 2 [eR 4, eI ln, eR 5])) (b4 : eNth V 4 = some (eA 0 600 bY)) (hl : ln = (n : Int)) (hn : n + 60 ≤ 600) : ∃ (V' : List eC) (le : Int), ev m_I_putText 0 [some (eR 3), some (eSt 8)] [] (V, d) = some (.inl none, (V', d)) ∧ sb V V' [3, 4] ∧ eNth V' 3 = some (eO 2 [eR 4, eI le, eR 5]) ∧ eNth V' 4 = some (eA 0 600 (cpR (stI 8) bY 0 n 60)) ∧ le = ((n + 60 : Nat) : Int) := by
  obtain ⟨le, hle, q⟩ := c_tx8 (bY := bY) (c := (0, 0)) hl hn
  obtain ⟨V', e1, ⟨e2, e3, -⟩, e4⟩ := xAtR (σ := σT) (α := [3, 4]) (V := V) (d := d) (as' := [some (eR 3), some (eSt 8)]) (o' := .inl none) q ⟨b3, b4, trivial⟩ rfl rfl rfl rfl rfl rfl rfl rfl
  exact ⟨V', le, e1, e4, e2, e3, hle⟩
theorem i_tx9 {V : List eC} {d : Nat × Nat} {n : Nat} {ln : Int} {bY : Nat → Int} (b3 : eNth V 3 = some (eO 2 [eR 4, eI ln, eR 5])) (b4 : eNth V 4 = some (eA 0 600 bY)) (hl : ln = (n : Int)) (hn : n + 57 ≤ 600) : ∃ (V' : List eC) (le : Int), ev m_I_putText 0 [some (eR 3), some (eSt 9)] [] (V, d) = some (.inl none, (V', d)) ∧ sb V V' [3, 4] ∧ eNth V' 3 = some (eO 2 [eR 4, eI le, eR 5]) ∧ eNth V' 4 = some (eA 0 600 (cpR (stI 9) bY 0 n 57)) ∧ le = ((n + 57 : Nat) : Int) := by
  obtain ⟨le, hle, q⟩ := c_tx9 (bY := bY) (c := (0, 0)) hl hn
  obtain ⟨V', e1, ⟨e2, e3, -⟩, e4⟩ := xAtR (σ := σT) (α := [3, 4]) (V := V) (d := d) (as' := [some (eR 3), some (eSt 9)]) (o' := .inl none) q ⟨b3, b4, trivial⟩ rfl rfl rfl rfl rfl rfl rfl rfl
  exact ⟨V', le, e1, e4, e2, e3, hle⟩
theorem i_tx10 {V : List eC} {d : Nat × Nat} {n : Nat} {ln : Int} {bY : Nat → Int} (b3 : eNth V 3 = some (eO 2 [eR 4, eI ln, eR 5])) (b4 : eNth V 4 = some (eA 0 600 bY)) (hl : ln = (n : Int)) (hn : n + 26 ≤ 600) : ∃ (V' : List eC) (le : Int), ev m_I_putText 0 [some (eR 3), some (eSt 10)] [] (V, d) = some (.inl none, (V', d)) ∧ sb V V' [3, 4] ∧ eNth V' 3 = some (eO 2 [eR 4, eI le, eR 5]) ∧ eNth V' 4 = some (eA 0 600 (cpR (stI 10) bY 0 n 26)) ∧ le = ((n + 26 : Nat) : Int) := by
  obtain ⟨le, hle, q⟩ := c_tx10 (bY := bY) (c := (0, 0)) hl hn
  obtain ⟨V', e1, ⟨e2, e3, -⟩, e4⟩ := xAtR (σ := σT) (α := [3, 4]) (V := V) (d := d) (as' := [some (eR 3), some (eSt 10)]) (o' := .inl none) q ⟨b3, b4, trivial⟩ rfl rfl rfl rfl rfl rfl rfl rfl
  exact ⟨V', le, e1, e4, e2, e3, hle⟩
/-- the first text: its bytes -/
def tx0 (i : Nat) : Nat := (stI 11 i).toNat
theorem tx0_c : ∀ i, i < 600 → cpR (stI 10) (cpR (stI 9) (cpR (stI 8) (cpR (stI 7) (fun _ => 0) 0 0 49) 0 (0 + 49) 60) 0 (0 + 49 + 60) 57) 0 (0 + 49 + 60 + 57) 26 i = ((tx0 i : Nat) : Int) ∧ tx0 i < 256 := by
  unfold cpR
  decide +kernel
theorem tx0_m : ∀ i, i < 192 → cpR (stI 11) (fun _ => 0) 0 0 192 i = ((tx0 i : Nat) : Int) ∧ tx0 i < 256 := by
  unfold cpR
  decide +kernel
theorem tx0_g : (match griS tx0 192 with
  | .inl _ => false
  | .inr _ => true) = true := by decide +kernel
theorem tx0_t : ∃ q, txS tx0 192 = .inr q := by
  have h := tx0_g
  unfold txS
  cases hg : griS tx0 192 with
  | inl z => rw [hg] at h; cases h
  | inr q =>
    obtain ⟨⟨w, h⟩, e⟩ := q
    exact ⟨_, rfl⟩
