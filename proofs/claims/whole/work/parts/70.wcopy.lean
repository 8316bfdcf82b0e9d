/-! The class's windows are copied. -/
/-- rows of booleans, copied so far as k -/
def cpZ (f h : Nat → Int) (k : Nat) : Nat → Int := fun i => if i < k then bNz (f i) else h i
theorem cpZ_0 {f h : Nat → Int} : cpZ f h 0 = h := by funext i; unfold cpZ; rw [if_neg (by omega)]
theorem cpZ_step {f h : Nat → Int} {k : Nat} : eUp (cpZ f h k) k (bNz (f k)) = cpZ f h (k + 1) := by
  funext i
  unfold eUp cpZ
  by_cases hi : i = k
  · rw [if_pos hi, if_pos (by omega), hi]
  · rw [if_neg hi]
    by_cases h2 : i < k
    · rw [if_pos h2, if_pos (by omega)]
    · rw [if_neg h2, if_neg (by omega)]
theorem cpZ_in {f h : Nat → Int} {k i : Nat} (hi : i < k) : cpZ f h k i = bNz (f i) := by
  unfold cpZ
  rw [if_pos hi]
theorem bNz_01 {v : Int} {n : Nat} (h : v = (n : Int)) (hn : n ≤ 1) : bNz v = v := by
  have hw : wr v = v := wr_id (by omega) (by omega)
  unfold bNz
  rw [if_pos (by rw [hw]; omega)]
theorem uI_2 {S : wS} {f : Nat → Int} {k : Nat} {v : Int} : uI (uS S 2 f) 2 k v = uS S 2 (eUp f k v) := uS_uS
theorem uI_6 {S : wS} {f : Nat → Int} {k : Nat} {v : Int} : uI (uS S 6 f) 6 k v = uS S 6 (eUp f k v) := uS_uS
def cpG (S T : wS) : wS := uS (uS (uS (uS (uS (uS (uS (uI (uS (uS (uI (uI S 1 0 (T 1 0)) 1 1 (T 1 1)) 2 (cpZ (T 2) (S 2) 36)) 3 (eCpy (T 3) (S 3) 0 0 36)) 1 4 (T 1 4)) 4 (eCpy (T 4) (S 4) 0 0 24)) 5 (eCpy (T 5) (S 5) 0 0 24)) 6 (cpZ (T 6) (S 6) 24)) 7 (eCpy (T 7) (S 7) 0 0 36)) 8 (eCpy (T 8) (S 8) 0 0 36)) 9 (eCpy (T 9) (S 9) 0 0 144)) 10 (eCpy (T 10) (S 10) 0 0 144)
def cpV (S T : wS) : wS := uS (uS (uS (uI S 11 0 (T 11 0)) 12 (eCpy (T 12) (S 12) 0 0 30)) 13 (eCpy (T 13) (S 13) 0 0 180)) 14 (eCpy (T 14) (S 14) 0 0 26)
def cpP (S T : wS) : wS := uI (uI (uI (uS (uS (uS (uI (uI (uS S 15 (eCpy (T 15) (S 15) 0 0 24)) 0 3 (T 0 3)) 0 4 (T 0 4)) 16 (eCpy (T 16) (S 16) 0 0 24)) 17 (eCpy (T 17) (S 17) 0 0 24)) 18 (eCpy (T 18) (S 18) 0 0 576)) 0 8 (T 0 8)) 0 9 (T 0 9)) 0 10 (T 0 10)
def cpW (S T : wS) : wS := cpP (cpV (cpG S T) T) T
set_option maxRecDepth 100000
theorem c_gc1 {S T : wS} {c : Nat × Nat} {R : eRes} (hR : ∀ v : Int, ev m_G_copyFrom 42 [some (eR 1), some (eR 21), some (eI v)] [] (wC (uS S 2 (cpZ (T 2) (S 2) 36)) ++ wCb 20 T, c) = R) : ev m_G_copyFrom 18 [some (eR 1), some (eR 21), some (eI 0)] [] (wC S ++ wCb 20 T, c) = R := by
  have hl : ∀ k : Nat, k ≤ 36 → ∀ v : Int, v = (k : Int) → ev m_G_copyFrom 18 [some (eR 1), some (eR 21), some (eI v)] [] (wC (uS S 2 (cpZ (T 2) (S 2) k)) ++ wCb 20 T, c) = R := by
    refine loop_up ?_ ?_
    · intro v hv
      refine xLtF (N := 3) (x := v) (y := 36) (A := ev m_G_copyFrom 24 [some (eR 1), some (eR 21), some (eI v)] [] (wC (uS S 2 (cpZ (T 2) (S 2) 36)) ++ wCb 20 T, c)) (B := ev m_G_copyFrom 42 [some (eR 1), some (eR 21), some (eI v)] [] (wC (uS S 2 (cpZ (T 2) (S 2) 36)) ++ wCb 20 T, c)) rfl (wr_id (by omega) (by omega)) (show wr 36 = 36 by decide) (by omega) ?_
      exact hR v
    · intro k hk ih v hv
      have hq := ih (v + 1) (by omega)
      refine xLtT (N := 3) (x := v) (y := 36) (A := ev m_G_copyFrom 24 [some (eR 1), some (eR 21), some (eI v)] [] (wC (uS S 2 (cpZ (T 2) (S 2) k)) ++ wCb 20 T, c)) (B := ev m_G_copyFrom 42 [some (eR 1), some (eR 21), some (eI v)] [] (wC (uS S 2 (cpZ (T 2) (S 2) k)) ++ wCb 20 T, c)) rfl (wr_id (by omega) (by omega)) (show wr 36 = 36 by decide) (by omega) ?_
      refine xLd (N := 7) (n := 36) (i := v) (F := fun zq => ev m_G_copyFrom 35 [some (eR 1), some (eR 21), some (eI v)] [eI (T 2 zq), eI v, eR 2] (wC (uS S 2 (cpZ (T 2) (S 2) k)) ++ wCb 20 T, c)) (k := k) rfl (wr_nat (by omega) (by omega)) (by omega) ?_
      refine xBStZ (N := 1) (v := T 2 k) (n := 36) (i := v) (F := fun zq zv => ev m_G_copyFrom 36 [some (eR 1), some (eR 21), some (eI v)] [] (wC (uI (uS S 2 (cpZ (T 2) (S 2) k)) 2 zq zv) ++ wCb 20 T, c)) (k := k) rfl (wr_nat (by omega) (by omega)) (by omega) ?_
      refine xSeg (N := 2) (r := ev m_G_copyFrom 18 [some (eR 1), some (eR 21), some (eI (v + 1))] [] (wC (uI (uS S 2 (cpZ (T 2) (S 2) k)) 2 k (bNz (T 2 k))) ++ wCb 20 T, c)) rfl ?_
      rw [uI_2, cpZ_step]
      exact hq
  have h0 := hl 0 (Nat.zero_le _) 0 rfl
  rw [cpZ_0, uS_self] at h0
  exact h0
theorem c_gc2 {S T : wS} {c : Nat × Nat} {R : eRes} (hR : ∀ v : Int, ev m_G_copyFrom 121 [some (eR 1), some (eR 21), some (eI v)] [] (wC (uS S 6 (cpZ (T 6) (S 6) 24)) ++ wCb 20 T, c) = R) : ev m_G_copyFrom 97 [some (eR 1), some (eR 21), some (eI 0)] [] (wC S ++ wCb 20 T, c) = R := by
  have hl : ∀ k : Nat, k ≤ 24 → ∀ v : Int, v = (k : Int) → ev m_G_copyFrom 97 [some (eR 1), some (eR 21), some (eI v)] [] (wC (uS S 6 (cpZ (T 6) (S 6) k)) ++ wCb 20 T, c) = R := by
    refine loop_up ?_ ?_
    · intro v hv
      refine xLtF (N := 3) (x := v) (y := 24) (A := ev m_G_copyFrom 103 [some (eR 1), some (eR 21), some (eI v)] [] (wC (uS S 6 (cpZ (T 6) (S 6) 24)) ++ wCb 20 T, c)) (B := ev m_G_copyFrom 121 [some (eR 1), some (eR 21), some (eI v)] [] (wC (uS S 6 (cpZ (T 6) (S 6) 24)) ++ wCb 20 T, c)) rfl (wr_id (by omega) (by omega)) (show wr 24 = 24 by decide) (by omega) ?_
      exact hR v
    · intro k hk ih v hv
      have hq := ih (v + 1) (by omega)
      refine xLtT (N := 3) (x := v) (y := 24) (A := ev m_G_copyFrom 103 [some (eR 1), some (eR 21), some (eI v)] [] (wC (uS S 6 (cpZ (T 6) (S 6) k)) ++ wCb 20 T, c)) (B := ev m_G_copyFrom 121 [some (eR 1), some (eR 21), some (eI v)] [] (wC (uS S 6 (cpZ (T 6) (S 6) k)) ++ wCb 20 T, c)) rfl (wr_id (by omega) (by omega)) (show wr 24 = 24 by decide) (by omega) ?_
      refine xLd (N := 7) (n := 24) (i := v) (F := fun zq => ev m_G_copyFrom 114 [some (eR 1), some (eR 21), some (eI v)] [eI (T 6 zq), eI v, eR 6] (wC (uS S 6 (cpZ (T 6) (S 6) k)) ++ wCb 20 T, c)) (k := k) rfl (wr_nat (by omega) (by omega)) (by omega) ?_
      refine xBStZ (N := 1) (v := T 6 k) (n := 24) (i := v) (F := fun zq zv => ev m_G_copyFrom 115 [some (eR 1), some (eR 21), some (eI v)] [] (wC (uI (uS S 6 (cpZ (T 6) (S 6) k)) 6 zq zv) ++ wCb 20 T, c)) (k := k) rfl (wr_nat (by omega) (by omega)) (by omega) ?_
      refine xSeg (N := 2) (r := ev m_G_copyFrom 97 [some (eR 1), some (eR 21), some (eI (v + 1))] [] (wC (uI (uS S 6 (cpZ (T 6) (S 6) k)) 6 k (bNz (T 6 k))) ++ wCb 20 T, c)) rfl ?_
      rw [uI_6, cpZ_step]
      exact hq
  have h0 := hl 0 (Nat.zero_le _) 0 rfl
  rw [cpZ_0, uS_self] at h0
  exact h0
theorem c_gc3 {S T : wS} {c : Nat × Nat} {v : Int} : ev m_G_copyFrom 121 [some (eR 1), some (eR 21), some (eI v)] [] (wC S ++ wCb 20 T, c) = some (.inl none, (wC (uS (uS (uS (uS S 7 (eCpy (T 7) (S 7) 0 0 36)) 8 (eCpy (T 8) (S 8) 0 0 36)) 9 (eCpy (T 9) (S 9) 0 0 144)) 10 (eCpy (T 10) (S 10) 0 0 144)) ++ wCb 20 T, c)) := by
  refine xCp (N := 8) (sp := 0) (dp := 0) (n := 36) (n0 := 36) (n1 := 36) (F := fun zq1 zq2 zq3 => ev m_G_copyFrom 136 [some (eR 1), some (eR 21), some (eI v)] [] (wC (uS S 7 (eCpy (T 7) (S 7) zq1 zq2 zq3)) ++ wCb 20 T, c)) (ks := 0) (kd := 0) (k := 36) rfl (show wr 0 = ((0 : Nat) : Int) by decide) (show wr 0 = ((0 : Nat) : Int) by decide) (show wr 36 = ((36 : Nat) : Int) by decide) (by omega) (by omega) ?_
  refine xCp (N := 8) (sp := 0) (dp := 0) (n := 36) (n0 := 36) (n1 := 36) (F := fun zq1 zq2 zq3 => ev m_G_copyFrom 151 [some (eR 1), some (eR 21), some (eI v)] [] (wC (uS (uS S 7 (eCpy (T 7) (S 7) 0 0 36)) 8 (eCpy (T 8) (S 8) zq1 zq2 zq3)) ++ wCb 20 T, c)) (ks := 0) (kd := 0) (k := 36) rfl (show wr 0 = ((0 : Nat) : Int) by decide) (show wr 0 = ((0 : Nat) : Int) by decide) (show wr 36 = ((36 : Nat) : Int) by decide) (by omega) (by omega) ?_
  refine xCp (N := 8) (sp := 0) (dp := 0) (n := 144) (n0 := 144) (n1 := 144) (F := fun zq1 zq2 zq3 => ev m_G_copyFrom 167 [some (eR 1), some (eR 21), some (eI v)] [] (wC (uS (uS (uS S 7 (eCpy (T 7) (S 7) 0 0 36)) 8 (eCpy (T 8) (S 8) 0 0 36)) 9 (eCpy (T 9) (S 9) zq1 zq2 zq3)) ++ wCb 20 T, c)) (ks := 0) (kd := 0) (k := 144) rfl (show wr 0 = ((0 : Nat) : Int) by decide) (show wr 0 = ((0 : Nat) : Int) by decide) (show wr 144 = ((144 : Nat) : Int) by decide) (by omega) (by omega) ?_
  refine xCp (N := 8) (sp := 0) (dp := 0) (n := 144) (n0 := 144) (n1 := 144) (F := fun zq1 zq2 zq3 => ev m_G_copyFrom 183 [some (eR 1), some (eR 21), some (eI v)] [] (wC (uS (uS (uS (uS S 7 (eCpy (T 7) (S 7) 0 0 36)) 8 (eCpy (T 8) (S 8) 0 0 36)) 9 (eCpy (T 9) (S 9) 0 0 144)) 10 (eCpy (T 10) (S 10) zq1 zq2 zq3)) ++ wCb 20 T, c)) (ks := 0) (kd := 0) (k := 144) rfl (show wr 0 = ((0 : Nat) : Int) by decide) (show wr 0 = ((0 : Nat) : Int) by decide) (show wr 144 = ((144 : Nat) : Int) by decide) (by omega) (by omega) ?_
  refine xSeg (N := 1) (r := some (.inl none, (wC (uS (uS (uS (uS S 7 (eCpy (T 7) (S 7) 0 0 36)) 8 (eCpy (T 8) (S 8) 0 0 36)) 9 (eCpy (T 9) (S 9) 0 0 144)) 10 (eCpy (T 10) (S 10) 0 0 144)) ++ wCb 20 T, c))) rfl ?_
  rfl
theorem c_gc42 {S T : wS} {c : Nat × Nat} {v : Int} : ev m_G_copyFrom 42 [some (eR 1), some (eR 21), some (eI v)] [] (wC S ++ wCb 20 T, c) = some (.inl none, (wC (uS (uS (uS (uS (uS (uS (uS (uI (uS S 3 (eCpy (T 3) (S 3) 0 0 36)) 1 4 (T 1 4)) 4 (eCpy (T 4) (S 4) 0 0 24)) 5 (eCpy (T 5) (S 5) 0 0 24)) 6 (cpZ (T 6) (S 6) 24)) 7 (eCpy (T 7) (S 7) 0 0 36)) 8 (eCpy (T 8) (S 8) 0 0 36)) 9 (eCpy (T 9) (S 9) 0 0 144)) 10 (eCpy (T 10) (S 10) 0 0 144)) ++ wCb 20 T, c)) := by
  refine xCp (N := 8) (sp := 0) (dp := 0) (n := 36) (n0 := 36) (n1 := 36) (F := fun zq1 zq2 zq3 => ev m_G_copyFrom 57 [some (eR 1), some (eR 21), some (eI v)] [] (wC (uS S 3 (eCpy (T 3) (S 3) zq1 zq2 zq3)) ++ wCb 20 T, c)) (ks := 0) (kd := 0) (k := 36) rfl (show wr 0 = ((0 : Nat) : Int) by decide) (show wr 0 = ((0 : Nat) : Int) by decide) (show wr 36 = ((36 : Nat) : Int) by decide) (by omega) (by omega) ?_
  refine xCp (N := 12) (sp := 0) (dp := 0) (n := 24) (n0 := 24) (n1 := 24) (F := fun zq1 zq2 zq3 => ev m_G_copyFrom 80 [some (eR 1), some (eR 21), some (eI v)] [] (wC (uS (uI (uS S 3 (eCpy (T 3) (S 3) 0 0 36)) 1 4 (T 1 4)) 4 (eCpy (T 4) (S 4) zq1 zq2 zq3)) ++ wCb 20 T, c)) (ks := 0) (kd := 0) (k := 24) rfl (show wr 0 = ((0 : Nat) : Int) by decide) (show wr 0 = ((0 : Nat) : Int) by decide) (show wr 24 = ((24 : Nat) : Int) by decide) (by omega) (by omega) ?_
  refine xCp (N := 8) (sp := 0) (dp := 0) (n := 24) (n0 := 24) (n1 := 24) (F := fun zq1 zq2 zq3 => ev m_G_copyFrom 95 [some (eR 1), some (eR 21), some (eI v)] [] (wC (uS (uS (uI (uS S 3 (eCpy (T 3) (S 3) 0 0 36)) 1 4 (T 1 4)) 4 (eCpy (T 4) (S 4) 0 0 24)) 5 (eCpy (T 5) (S 5) zq1 zq2 zq3)) ++ wCb 20 T, c)) (ks := 0) (kd := 0) (k := 24) rfl (show wr 0 = ((0 : Nat) : Int) by decide) (show wr 0 = ((0 : Nat) : Int) by decide) (show wr 24 = ((24 : Nat) : Int) by decide) (by omega) (by omega) ?_
  refine xSeg (N := 2) (r := ev m_G_copyFrom 97 [some (eR 1), some (eR 21), some (eI 0)] [] (wC (uS (uS (uI (uS S 3 (eCpy (T 3) (S 3) 0 0 36)) 1 4 (T 1 4)) 4 (eCpy (T 4) (S 4) 0 0 24)) 5 (eCpy (T 5) (S 5) 0 0 24)) ++ wCb 20 T, c)) rfl ?_
  exact c_gc2 (fun _ => c_gc3)
theorem c_gcopy {S T : wS} {c : Nat × Nat} : ev m_G_copyFrom 0 [some (eR 1), some (eR 21)] [] (wC S ++ wCb 20 T, c) = some (.inl none, (wC (cpG S T) ++ wCb 20 T, c)) := by
  refine xSeg (N := 10) (r := ev m_G_copyFrom 18 [some (eR 1), some (eR 21), some (eI 0)] [] (wC (uI (uI S 1 0 (T 1 0)) 1 1 (T 1 1)) ++ wCb 20 T, c)) rfl ?_
  exact c_gc1 (fun _ => c_gc42)
theorem c_vcopy {S T : wS} {c : Nat × Nat} : ev m_V_copyFrom 0 [some (eR 11), some (eR 31)] [] (wC S ++ wCb 20 T, c) = some (.inl none, (wC (cpV S T) ++ wCb 20 T, c)) := by
  refine xCp (N := 12) (sp := 0) (dp := 0) (n := 30) (n0 := 30) (n1 := 30) (F := fun zq1 zq2 zq3 => ev m_V_copyFrom 23 [some (eR 11), some (eR 31)] [] (wC (uS (uI S 11 0 (T 11 0)) 12 (eCpy (T 12) (S 12) zq1 zq2 zq3)) ++ wCb 20 T, c)) (ks := 0) (kd := 0) (k := 30) rfl (show wr 0 = ((0 : Nat) : Int) by decide) (show wr 0 = ((0 : Nat) : Int) by decide) (show wr 30 = ((30 : Nat) : Int) by decide) (by omega) (by omega) ?_
  refine xCp (N := 8) (sp := 0) (dp := 0) (n := 180) (n0 := 180) (n1 := 180) (F := fun zq1 zq2 zq3 => ev m_V_copyFrom 39 [some (eR 11), some (eR 31)] [] (wC (uS (uS (uI S 11 0 (T 11 0)) 12 (eCpy (T 12) (S 12) 0 0 30)) 13 (eCpy (T 13) (S 13) zq1 zq2 zq3)) ++ wCb 20 T, c)) (ks := 0) (kd := 0) (k := 180) rfl (show wr 0 = ((0 : Nat) : Int) by decide) (show wr 0 = ((0 : Nat) : Int) by decide) (show wr 180 = ((180 : Nat) : Int) by decide) (by omega) (by omega) ?_
  refine xCp (N := 8) (sp := 0) (dp := 0) (n := 26) (n0 := 26) (n1 := 26) (F := fun zq1 zq2 zq3 => ev m_V_copyFrom 54 [some (eR 11), some (eR 31)] [] (wC (uS (uS (uS (uI S 11 0 (T 11 0)) 12 (eCpy (T 12) (S 12) 0 0 30)) 13 (eCpy (T 13) (S 13) 0 0 180)) 14 (eCpy (T 14) (S 14) zq1 zq2 zq3)) ++ wCb 20 T, c)) (ks := 0) (kd := 0) (k := 26) rfl (show wr 0 = ((0 : Nat) : Int) by decide) (show wr 0 = ((0 : Nat) : Int) by decide) (show wr 26 = ((26 : Nat) : Int) by decide) (by omega) (by omega) ?_
  refine xSeg (N := 1) (r := some (.inl none, (wC (uS (uS (uS (uI S 11 0 (T 11 0)) 12 (eCpy (T 12) (S 12) 0 0 30)) 13 (eCpy (T 13) (S 13) 0 0 180)) 14 (eCpy (T 14) (S 14) 0 0 26)) ++ wCb 20 T, c))) rfl ?_
  rfl
theorem c_copyFrom {S T : wS} {c : Nat × Nat} : ev m_W_copyFrom 0 [some (eR 0), some (eR 20)] [] (wC S ++ wCb 20 T, c) = some (.inl none, (wC (cpW S T) ++ wCb 20 T, c)) := by
  have hq : ev m_W_copyFrom 22 [some (eR 0), some (eR 20)] [] (wC (cpV (cpG S T) T) ++ wCb 20 T, c) = some (.inl none, (wC (cpP (cpV (cpG S T) T) T) ++ wCb 20 T, c)) := by
    generalize cpV (cpG S T) T = S
    refine xCp (N := 8) (sp := 0) (dp := 0) (n := 24) (n0 := 24) (n1 := 24) (F := fun zq1 zq2 zq3 => ev m_W_copyFrom 37 [some (eR 0), some (eR 20)] [] (wC (uS S 15 (eCpy (T 15) (S 15) zq1 zq2 zq3)) ++ wCb 20 T, c)) (ks := 0) (kd := 0) (k := 24) rfl (show wr 0 = ((0 : Nat) : Int) by decide) (show wr 0 = ((0 : Nat) : Int) by decide) (show wr 24 = ((24 : Nat) : Int) by decide) (by omega) (by omega) ?_
    refine xCp (N := 16) (sp := 0) (dp := 0) (n := 24) (n0 := 24) (n1 := 24) (F := fun zq1 zq2 zq3 => ev m_W_copyFrom 68 [some (eR 0), some (eR 20)] [] (wC (uS (uI (uI (uS S 15 (eCpy (T 15) (S 15) 0 0 24)) 0 3 (T 0 3)) 0 4 (T 0 4)) 16 (eCpy (T 16) (S 16) zq1 zq2 zq3)) ++ wCb 20 T, c)) (ks := 0) (kd := 0) (k := 24) rfl (show wr 0 = ((0 : Nat) : Int) by decide) (show wr 0 = ((0 : Nat) : Int) by decide) (show wr 24 = ((24 : Nat) : Int) by decide) (by omega) (by omega) ?_
    refine xCp (N := 8) (sp := 0) (dp := 0) (n := 24) (n0 := 24) (n1 := 24) (F := fun zq1 zq2 zq3 => ev m_W_copyFrom 83 [some (eR 0), some (eR 20)] [] (wC (uS (uS (uI (uI (uS S 15 (eCpy (T 15) (S 15) 0 0 24)) 0 3 (T 0 3)) 0 4 (T 0 4)) 16 (eCpy (T 16) (S 16) 0 0 24)) 17 (eCpy (T 17) (S 17) zq1 zq2 zq3)) ++ wCb 20 T, c)) (ks := 0) (kd := 0) (k := 24) rfl (show wr 0 = ((0 : Nat) : Int) by decide) (show wr 0 = ((0 : Nat) : Int) by decide) (show wr 24 = ((24 : Nat) : Int) by decide) (by omega) (by omega) ?_
    refine xCp (N := 8) (sp := 0) (dp := 0) (n := 576) (n0 := 576) (n1 := 576) (F := fun zq1 zq2 zq3 => ev m_W_copyFrom 99 [some (eR 0), some (eR 20)] [] (wC (uS (uS (uS (uI (uI (uS S 15 (eCpy (T 15) (S 15) 0 0 24)) 0 3 (T 0 3)) 0 4 (T 0 4)) 16 (eCpy (T 16) (S 16) 0 0 24)) 17 (eCpy (T 17) (S 17) 0 0 24)) 18 (eCpy (T 18) (S 18) zq1 zq2 zq3)) ++ wCb 20 T, c)) (ks := 0) (kd := 0) (k := 576) rfl (show wr 0 = ((0 : Nat) : Int) by decide) (show wr 0 = ((0 : Nat) : Int) by decide) (show wr 576 = ((576 : Nat) : Int) by decide) (by omega) (by omega) ?_
    refine xSeg (N := 13) (r := some (.inl none, (wC (uI (uI (uI (uS (uS (uS (uI (uI (uS S 15 (eCpy (T 15) (S 15) 0 0 24)) 0 3 (T 0 3)) 0 4 (T 0 4)) 16 (eCpy (T 16) (S 16) 0 0 24)) 17 (eCpy (T 17) (S 17) 0 0 24)) 18 (eCpy (T 18) (S 18) 0 0 576)) 0 8 (T 0 8)) 0 9 (T 0 9)) 0 10 (T 0 10)) ++ wCb 20 T, c))) rfl ?_
    rfl
  refine xCallWV (N := 5) (M2 := m_W_copyFrom) (pc2 := 8) (ls2 := [some (eR 0), some (eR 20)]) (st2 := []) (y := m_G_copyFrom) (as := [some (eR 1), some (eR 21)]) (w2 := (wC S ++ wCb 20 T, c)) rfl c_gcopy ?_
  refine xCallWV (N := 5) (M2 := m_W_copyFrom) (pc2 := 19) (ls2 := [some (eR 0), some (eR 20)]) (st2 := []) (y := m_V_copyFrom) (as := [some (eR 11), some (eR 31)]) (w2 := (wC (cpG S T) ++ wCb 20 T, c)) rfl c_vcopy ?_
  exact hq
