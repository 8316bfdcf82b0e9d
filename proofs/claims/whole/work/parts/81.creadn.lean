theorem tk_le {B : Nat → Nat} {n e : Nat} (h : e ≤ n) : e ≤ tkS B n e ∧ tkS B n e ≤ tkE B n e ∧ tkE B n e ≤ n ∧ tkK B n e ≤ 3 ∧ (tkK B n e ≠ 0 → tkS B n e < tkE B n e ∧ tkS B n e < n ∧ tkK B n e = kd (B (tkS B n e))) := by
  have hs := wsN_le (B := B) (d := n - e) (i := e)
  have hS : tkS B n e = wsN B (n - e) e := rfl
  rw [← hS] at hs
  unfold tkE tkK
  generalize tkS B n e = s at hs
  have hk := kd_le (b := B s)
  have hr := rnN_le (B := B) (k := kd (B s)) (d := n - (s + 1)) (i := s + 1)
  by_cases h1 : s < n
  · rw [if_pos h1, if_pos h1]
    by_cases h3 : kd (B s) = 3
    · rw [if_pos h3]
      exact ⟨by omega, by omega, by omega, by omega, fun _ => ⟨by omega, h1, rfl⟩⟩
    · rw [if_neg h3]
      exact ⟨by omega, by omega, by omega, by omega, fun _ => ⟨by omega, h1, rfl⟩⟩
  · rw [if_neg h1, if_neg h1]
    exact ⟨by omega, by omega, by omega, by omega, fun h => absurd rfl h⟩
theorem tk_dig {B : Nat → Nat} {n e : Nat} (h : e ≤ n) (hK : tkK B n e = 2) : ∀ i, tkS B n e ≤ i → i < tkE B n e → 48 ≤ B i ∧ B i ≤ 57 := by
  intro i h1 h2
  obtain ⟨t1, t2, t3, t4, t5⟩ := tk_le (B := B) h
  obtain ⟨t6, t7, t8⟩ := t5 (by omega)
  rw [hK] at t8
  by_cases hi : i = tkS B n e
  · rw [hi]; exact kd_2.mp t8.symm
  · refine kd_2.mp (rn_all (d := n - (tkS B n e + 1)) (i := tkS B n e + 1) (by omega) ?_)
    have hE : tkE B n e = rnN B 2 (n - (tkS B n e + 1)) (tkS B n e + 1) := by
      unfold tkE
      rw [if_pos t7, ← t8, if_neg (by omega)]
    rw [← hE]
    exact h2
/-- the number of the token, up to 1000 -/
def tkC (B : Nat → Nat) (n e : Nat) : Nat := caN B (tkE B n e - tkS B n e) (tkS B n e) 0
theorem caN_le {B : Nat → Nat} : ∀ {d i v : Nat}, v ≤ 1000 → caN B d i v ≤ 1000
  | 0, _, _, h => h
  | d + 1, i, v, h => caN_le (d := d) (i := i + 1) (v := min (10 * v + B i - 48) 1000) (by omega)
theorem tkV_C {B : Nat → Nat} {n e : Nat} (h : e ≤ n) (hK : tkK B n e = 2) : min (tkV B n e) 1000 = tkC B n e := by
  obtain ⟨t1, t2, t3, t4, t5⟩ := tk_le (B := B) h
  obtain ⟨t6, t7, t8⟩ := t5 (by omega)
  rw [hK] at t8
  have hE : tkE B n e = rnN B 2 (n - tkS B n e) (tkS B n e) := by
    unfold tkE
    rw [if_pos t7, ← t8, if_neg (by omega), show n - tkS B n e = (n - (tkS B n e + 1)) + 1 by omega]
    exact (if_pos t8.symm).symm
  unfold tkV tkC
  rw [if_pos hK, hE]
  exact va_ca rfl
set_option maxRecDepth 100000
theorem c_readNumber {P bY : Nat → Int} {B : Nat → Nat} {n e lo hi er : Nat} {ln x1 x2 x3 : Int} {c : Nat × Nat} (hln : ln = (n : Int)) (hn : n ≤ 600) (hby : ∀ i, i < n → bY i = (B i : Int) ∧ B i < 256) (he : P 5 = (e : Int)) (hen : e ≤ n) (h1 : x1 = (lo : Int)) (h2 : x2 = (hi : Int)) (h3 : x3 = (er : Int)) (hlo : lo ≤ 1000) (hhi : hi ≤ 1000) : ∃ P' : Nat → Int, (P' 4 = ((tkS B n e : Nat) : Int) ∧ P' 5 = ((tkE B n e : Nat) : Int) ∧ P' 6 = ((tkK B n e : Nat) : Int) ∧ P' 3 = (if tkK B n e = 2 then (if lo ≤ tkC B n e ∧ tkC B n e ≤ hi then P 3 else x3) else 1) ∧ ∀ j, 6 < j → P' j = P j) ∧ ev m_P_readNumber 0 [some (eR 0), some (eI x1), some (eI x2), some (eI x3)] [] ([pO P, eO 2 [eR 2, eI ln, eSt 20], eA 0 600 bY], c) = some (.inl (some (eI (if tkK B n e = 2 ∧ lo ≤ tkC B n e ∧ tkC B n e ≤ hi then ((tkC B n e : Nat) : Int) else -1))), ([pO P', eO 2 [eR 2, eI ln, eSt 20], eA 0 600 bY], c)) := by
  obtain ⟨Q, ⟨q4, q5, q6, q7⟩, q8⟩ := c_nextToken (c := c) hln hn hby he hen
  obtain ⟨t1, t2, t3, t4, t5⟩ := tk_le (B := B) hen
  have hdig := tk_dig (B := B) hen
  have hCe : tkC B n e = caN B (tkE B n e - tkS B n e) (tkS B n e) 0 := rfl
  have hCl : tkC B n e ≤ 1000 := caN_le (by omega)
  generalize tkK B n e = K at q6 t4 t5 hdig ⊢
  generalize tkS B n e = S at q4 t1 t2 t5 hdig hCe ⊢
  generalize tkE B n e = E at q5 t2 t3 t5 hdig hCe ⊢
  generalize tkC B n e = C at hCe hCl ⊢
  have q3 : Q 3 = P 3 := q7 3 (by omega) (by omega) (by omega)
  by_cases hK : K = 2
  · have htail := fun r y0 => c_numL (P := Q) (x1 := x1) (x2 := x2) (x3 := x3) (c := c) (ln := ln) (r := r) q5 hn t3 hby (hdig hK) (E - S) S (by omega) (Nat.le_refl _) 0 0 y0 rfl (by omega)
    by_cases hg : lo ≤ C ∧ C ≤ hi
    · refine ⟨Q, ⟨q4, q5, q6, by rw [if_pos hK, if_pos hg]; exact q3, fun j hj => q7 j (by omega) (by omega) (by omega)⟩, ?_⟩
      rw [if_pos ⟨hK, hg⟩]
      have hend := htail (some (.inl (some (eI (C : Int))), ([pO Q, eO 2 [eR 2, eI ln, eSt 20], eA 0 600 bY], c))) (Q 4) (by omega) (fun v' y' hv' => by
        rw [← hCe] at hv'
        refine xLtF (N := 3) (x := v') (y := x1) (A := ev m_P_readNumber 80 [some (eR 0), some (eI x1), some (eI x2), some (eI x3), some (eI v'), some (eI y')] [] ([pO Q, eO 2 [eR 2, eI ln, eSt 20], eA 0 600 bY], c)) (B := ev m_P_readNumber 74 [some (eR 0), some (eI x1), some (eI x2), some (eI x3), some (eI v'), some (eI y')] [] ([pO Q, eO 2 [eR 2, eI ln, eSt 20], eA 0 600 bY], c)) rfl (wr_id (by omega) (by omega)) (wr_id (by omega) (by omega)) (by omega) ?_
        refine xLtF (N := 3) (x := x2) (y := v') (A := ev m_P_readNumber 80 [some (eR 0), some (eI x1), some (eI x2), some (eI x3), some (eI v'), some (eI y')] [] ([pO Q, eO 2 [eR 2, eI ln, eSt 20], eA 0 600 bY], c)) (B := ev m_P_readNumber 88 [some (eR 0), some (eI x1), some (eI x2), some (eI x3), some (eI v'), some (eI y')] [] ([pO Q, eO 2 [eR 2, eI ln, eSt 20], eA 0 600 bY], c)) rfl (wr_id (by omega) (by omega)) (wr_id (by omega) (by omega)) (by omega) ?_
        refine xSeg (N := 2) (r := some (.inl (some (eI v')), ([pO Q, eO 2 [eR 2, eI ln, eSt 20], eA 0 600 bY], c))) rfl ?_
        exact lf hv'
        )
      refine xCallWV (N := 2) (M2 := m_P_readNumber) (pc2 := 1) (ls2 := [some (eR 0), some (eI x1), some (eI x2), some (eI x3)]) (st2 := []) (y := m_P_nextToken) (as := [some (eR 0)]) (w2 := ([pO P, eO 2 [eR 2, eI ln, eSt 20], eA 0 600 bY], c)) rfl q8 ?_
      refine xEqT (N := 4) (x := Q 6) (y := 2) (A := ev m_P_readNumber 20 [some (eR 0), some (eI x1), some (eI x2), some (eI x3)] [] ([pO Q, eO 2 [eR 2, eI ln, eSt 20], eA 0 600 bY], c)) (B := ev m_P_readNumber 12 [some (eR 0), some (eI x1), some (eI x2), some (eI x3)] [] ([pO Q, eO 2 [eR 2, eI ln, eSt 20], eA 0 600 bY], c)) rfl (wr_id (by omega) (by omega)) (show wr 2 = 2 by decide) (by omega) ?_
      refine xSeg (N := 5) (r := ev m_P_readNumber 29 [some (eR 0), some (eI x1), some (eI x2), some (eI x3), some (eI 0), some (eI (Q 4))] [] ([pO Q, eO 2 [eR 2, eI ln, eSt 20], eA 0 600 bY], c)) rfl ?_
      exact hend
    · refine ⟨eUp Q 3 x3, ⟨by rw [eUp_ne (by omega)]; exact q4, by rw [eUp_ne (by omega)]; exact q5, by rw [eUp_ne (by omega)]; exact q6, by rw [if_pos hK, if_neg hg, eUp_at], fun j hj => by rw [eUp_ne (by omega)]; exact q7 j (by omega) (by omega) (by omega)⟩, ?_⟩
      rw [if_neg (fun h => hg h.2)]
      have hend := htail (some (.inl (some (eI (-1))), ([pO (eUp Q 3 x3), eO 2 [eR 2, eI ln, eSt 20], eA 0 600 bY], c))) (Q 4) (by omega) (fun v' y' hv' => by
        rw [← hCe] at hv'
        refine xLt (N := 3) (x := v') (y := x1) (A := ev m_P_readNumber 80 [some (eR 0), some (eI x1), some (eI x2), some (eI x3), some (eI v'), some (eI y')] [] ([pO Q, eO 2 [eR 2, eI ln, eSt 20], eA 0 600 bY], c)) (B := ev m_P_readNumber 74 [some (eR 0), some (eI x1), some (eI x2), some (eI x3), some (eI v'), some (eI y')] [] ([pO Q, eO 2 [eR 2, eI ln, eSt 20], eA 0 600 bY], c)) rfl (wr_id (by omega) (by omega)) (wr_id (by omega) (by omega)) (fun h71 => ?_) (fun h71 => ?_)
        · refine xCallW (N := 3) (M2 := m_P_readNumber) (pc2 := 82) (ls2 := [some (eR 0), some (eI x1), some (eI x2), some (eI x3), some (eI v'), some (eI y')]) (st2 := []) (y := m_P_fail) (as := [some (eR 0), some (eI x3)]) (w2 := ([pO Q, eO 2 [eR 2, eI ln, eSt 20], eA 0 600 bY], c)) rfl c_fail ?_
          refine xSeg (N := 3) (r := some (.inl (some (eI (-1))), ([pO (eUp Q 3 x3), eO 2 [eR 2, eI ln, eSt 20], eA 0 600 bY], c))) rfl ?_
          first | rfl | omega
        · refine xLt (N := 3) (x := x2) (y := v') (A := ev m_P_readNumber 80 [some (eR 0), some (eI x1), some (eI x2), some (eI x3), some (eI v'), some (eI y')] [] ([pO Q, eO 2 [eR 2, eI ln, eSt 20], eA 0 600 bY], c)) (B := ev m_P_readNumber 88 [some (eR 0), some (eI x1), some (eI x2), some (eI x3), some (eI v'), some (eI y')] [] ([pO Q, eO 2 [eR 2, eI ln, eSt 20], eA 0 600 bY], c)) rfl (wr_id (by omega) (by omega)) (wr_id (by omega) (by omega)) (fun h77 => ?_) (fun h77 => ?_)
          · refine xCallW (N := 3) (M2 := m_P_readNumber) (pc2 := 82) (ls2 := [some (eR 0), some (eI x1), some (eI x2), some (eI x3), some (eI v'), some (eI y')]) (st2 := []) (y := m_P_fail) (as := [some (eR 0), some (eI x3)]) (w2 := ([pO Q, eO 2 [eR 2, eI ln, eSt 20], eA 0 600 bY], c)) rfl c_fail ?_
            refine xSeg (N := 3) (r := some (.inl (some (eI (-1))), ([pO (eUp Q 3 x3), eO 2 [eR 2, eI ln, eSt 20], eA 0 600 bY], c))) rfl ?_
            first | rfl | omega
          · refine xSeg (N := 2) (r := some (.inl (some (eI v')), ([pO Q, eO 2 [eR 2, eI ln, eSt 20], eA 0 600 bY], c))) rfl ?_
            first | rfl | omega
        )
      refine xCallWV (N := 2) (M2 := m_P_readNumber) (pc2 := 1) (ls2 := [some (eR 0), some (eI x1), some (eI x2), some (eI x3)]) (st2 := []) (y := m_P_nextToken) (as := [some (eR 0)]) (w2 := ([pO P, eO 2 [eR 2, eI ln, eSt 20], eA 0 600 bY], c)) rfl q8 ?_
      refine xEqT (N := 4) (x := Q 6) (y := 2) (A := ev m_P_readNumber 20 [some (eR 0), some (eI x1), some (eI x2), some (eI x3)] [] ([pO Q, eO 2 [eR 2, eI ln, eSt 20], eA 0 600 bY], c)) (B := ev m_P_readNumber 12 [some (eR 0), some (eI x1), some (eI x2), some (eI x3)] [] ([pO Q, eO 2 [eR 2, eI ln, eSt 20], eA 0 600 bY], c)) rfl (wr_id (by omega) (by omega)) (show wr 2 = 2 by decide) (by omega) ?_
      refine xSeg (N := 5) (r := ev m_P_readNumber 29 [some (eR 0), some (eI x1), some (eI x2), some (eI x3), some (eI 0), some (eI (Q 4))] [] ([pO Q, eO 2 [eR 2, eI ln, eSt 20], eA 0 600 bY], c)) rfl ?_
      exact hend
  · refine ⟨eUp Q 3 1, ⟨by rw [eUp_ne (by omega)]; exact q4, by rw [eUp_ne (by omega)]; exact q5, by rw [eUp_ne (by omega)]; exact q6, by rw [if_neg hK, eUp_at], fun j hj => by rw [eUp_ne (by omega)]; exact q7 j (by omega) (by omega) (by omega)⟩, ?_⟩
    rw [if_neg (fun h => hK h.1)]
    refine xCallWV (N := 2) (M2 := m_P_readNumber) (pc2 := 1) (ls2 := [some (eR 0), some (eI x1), some (eI x2), some (eI x3)]) (st2 := []) (y := m_P_nextToken) (as := [some (eR 0)]) (w2 := ([pO P, eO 2 [eR 2, eI ln, eSt 20], eA 0 600 bY], c)) rfl q8 ?_
    refine xEqF (N := 4) (x := Q 6) (y := 2) (A := ev m_P_readNumber 20 [some (eR 0), some (eI x1), some (eI x2), some (eI x3)] [] ([pO Q, eO 2 [eR 2, eI ln, eSt 20], eA 0 600 bY], c)) (B := ev m_P_readNumber 12 [some (eR 0), some (eI x1), some (eI x2), some (eI x3)] [] ([pO Q, eO 2 [eR 2, eI ln, eSt 20], eA 0 600 bY], c)) rfl (wr_id (by omega) (by omega)) (show wr 2 = 2 by decide) (by omega) ?_
    refine xCallW (N := 3) (M2 := m_P_readNumber) (pc2 := 14) (ls2 := [some (eR 0), some (eI x1), some (eI x2), some (eI x3)]) (st2 := []) (y := m_P_fail) (as := [some (eR 0), some (eI 1)]) (w2 := ([pO Q, eO 2 [eR 2, eI ln, eSt 20], eA 0 600 bY], c)) rfl c_fail ?_
    refine xSeg (N := 3) (r := some (.inl (some (eI (-1))), ([pO (eUp Q 3 1), eO 2 [eR 2, eI ln, eSt 20], eA 0 600 bY], c))) rfl ?_
    rfl
