def tkT (k : Nat) : Nat := if k = 1 then 3 else if k = 2 then 2 else if k = 3 then 1 else 0
def tkV (B : Nat → Nat) (n e : Nat) : Nat := if tkK B n e = 2 then vaN B (n - tkS B n e) (tkS B n e) 0 else 0
def tkL (B : Nat → Nat) (n e : Nat) : Nat := if tkK B n e = 1 then tkE B n e - tkS B n e else 0
/-- all but the token stays -/
def kM (P P' : Nat → Int) : Prop := ∀ j, (j < 13 ∨ 17 < j) → P' j = P j
set_option maxRecDepth 100000
theorem n_advance {P bY : Nat → Int} {B : Nat → Nat} {n e : Nat} {c : Nat × Nat} (h12 : P 12 = (n : Int)) (hn : n ≤ 600) (hby : ∀ i, i < n → bY i = (B i : Int) ∧ B i < 256) (he : P 13 = (e : Int)) (hen : e ≤ n) : ∃ P' : Nat → Int, (P' 14 = ((tkS B n e : Nat) : Int) ∧ P' 13 = ((tkE B n e : Nat) : Int) ∧ P' 15 = ((tkT (tkK B n e) : Nat) : Int) ∧ P' 16 = ((tkV B n e : Nat) : Int) ∧ P' 17 = ((tkL B n e : Nat) : Int) ∧ kM P P') ∧ ev m_M_advance 0 [some (eR 0)] [] ([mN P, eA 0 600 bY], c) = some (.inl none, ([mN P', eA 0 600 bY], c)) := by
  have hs := wsN_le (B := B) (d := n - e) (i := e)
  have hS : tkS B n e = wsN B (n - e) e := rfl
  rw [← hS] at hs
  have hV : tkV B n e = if tkK B n e = 2 then vaN B (n - tkS B n e) (tkS B n e) 0 else 0 := rfl
  have hL : tkL B n e = if tkK B n e = 1 then tkE B n e - tkS B n e else 0 := rfl
  generalize hsd : tkS B n e = s at hs hS hV hL
  have hws : ∀ r : eRes, (∀ v' : Int, v' = (s : Int) → ev m_M_advance 39 [some (eR 0)] [] ([mN (eUp P 13 v'), eA 0 600 bY], c) = r) → ev m_M_advance 0 [some (eR 0)] [] ([mN P, eA 0 600 bY], c) = r := fun r hr => mN_ev (Q := eUp P 13 (P 13)) (fun j _ _ => by unfold eUp; (repeat (first | omega | split)) <;> simp_all) (n_ws h12 hn hby (n - e) e (by omega) (P 13) he (fun v' hv' => hr v' (by rw [hv', ← hS])))
  have e12 : ∀ v, eUp P 13 v 12 = (n : Int) := fun v => by rw [eUp_ne (by omega)]; exact h12
  have hfin : ∀ (T V L E : Nat), tkE B n e = E → tkT (tkK B n e) = T → tkV B n e = V → tkL B n e = L → (∀ v' : Int, v' = (s : Int) → ev m_M_advance 39 [some (eR 0)] [] ([mN (eUp P 13 v'), eA 0 600 bY], c) = some (.inl none, ([mN (eUp (eUp (eUp (eUp (eUp P 14 (s : Int)) 13 (E : Int)) 15 (T : Int)) 16 (V : Int)) 17 (L : Int)), eA 0 600 bY], c))) → ∃ P' : Nat → Int, (P' 14 = (s : Int) ∧ P' 13 = ((tkE B n e : Nat) : Int) ∧ P' 15 = ((tkT (tkK B n e) : Nat) : Int) ∧ P' 16 = ((tkV B n e : Nat) : Int) ∧ P' 17 = ((tkL B n e : Nat) : Int) ∧ kM P P') ∧ ev m_M_advance 0 [some (eR 0)] [] ([mN P, eA 0 600 bY], c) = some (.inl none, ([mN P', eA 0 600 bY], c)) := by
    intro T V L E hE hT hV2 hL2 hr
    refine ⟨eUp (eUp (eUp (eUp (eUp P 14 (s : Int)) 13 (E : Int)) 15 (T : Int)) 16 (V : Int)) 17 (L : Int), ⟨?_, ?_, ?_, ?_, ?_, ?_⟩, hws _ hr⟩
    · rw [eUp_ne (by omega), eUp_ne (by omega), eUp_ne (by omega), eUp_ne (by omega), eUp_at]
    · rw [eUp_ne (by omega), eUp_ne (by omega), eUp_ne (by omega), eUp_at, hE]
    · rw [eUp_ne (by omega), eUp_ne (by omega), eUp_at, hT]
    · rw [eUp_ne (by omega), eUp_at, hV2]
    · rw [eUp_at, hL2]
    · intro j hj
      rw [eUp_ne (by omega), eUp_ne (by omega), eUp_ne (by omega), eUp_ne (by omega), eUp_ne (by omega)]
  by_cases h1 : s < n
  · have hb := hby s h1
    have hbA : bAt B n s = (B s : Int) := if_pos h1
    have hK : tkK B n e = kd (B s) := by unfold tkK; rw [hsd, if_pos h1]
    by_cases hk1 : kd (B s) = 1
    · have hk2 := kd_1.mp hk1
      have hE : tkE B n e = rnN B 1 (n - s) s := by
        unfold tkE
        rw [hsd, if_pos h1, hk1, if_neg (by omega), show n - s = (n - (s + 1)) + 1 by omega]
        exact (if_pos hk1).symm
      have hle := rnN_le (B := B) (k := 1) (d := n - s) (i := s)
      refine hfin 3 0 (rnN B 1 (n - s) s - s) _ hE (by rw [hK, hk1]; rfl) (by rw [hV, hK, hk1]; rfl) (by rw [hL, hK, hk1, if_pos rfl, hE]) (fun v' hv' => ?_)
      have hq := n_rnL (P := eUp (eUp (eUp P 14 (s : Int)) 15 3) 16 0) (y := (B s : Int)) (c := c) (r := some (.inl none, ([mN (eUp (eUp (eUp (eUp (eUp P 14 (s : Int)) 13 ((rnN B 1 (n - s) s : Nat) : Int)) 15 ((3 : Nat) : Int)) 16 ((0 : Nat) : Int)) 17 ((rnN B 1 (n - s) s - s : Nat) : Int)), eA 0 600 bY], c))) (by rw [eUp_ne (by omega), eUp_ne (by omega), eUp_ne (by omega)]; exact h12) hn hby (n - s) s (by omega) 0 v' hv' (by omega) (by omega) (fun l' v2 hv2 hl' => mN_res (fun j _ _ => by unfold eUp; (repeat (first | omega | split)) <;> omega))
      refine xCallWI (N := 14) (v := bAt B n s) (M2 := m_M_advance) (pc2 := 62) (ls2 := [some (eR 0)]) (st2 := []) (y := m_M_byteAt) (as := [some (eR 0), some (eI v')]) (w2 := ([mN (eUp (eUp (eUp (eUp P 13 v') 14 v') 17 0) 16 0), eA 0 600 bY], c)) rfl (n_byteAt (P := eUp (eUp (eUp (eUp P 13 v') 14 v') 17 0) 16 0) (i := s) (by rw [eUp_ne (by omega), eUp_ne (by omega), eUp_ne (by omega)]; exact e12 _) hn hby hv' (by omega)) (fun r62 hr62 => ?_)
      refine xEqF (N := 4) (x := r62) (y := (-1)) (A := ev m_M_advance 71 [some (eR 0), some (eI r62)] [] ([mN (eUp (eUp (eUp (eUp P 13 v') 14 v') 17 0) 16 0), eA 0 600 bY], c)) (B := ev m_M_advance 79 [some (eR 0), some (eI r62)] [] ([mN (eUp (eUp (eUp (eUp P 13 v') 14 v') 17 0) 16 0), eA 0 600 bY], c)) rfl (wr_id (by omega) (by omega)) (show wr (-1) = (-1) by decide) (by omega) ?_
      refine xCallI (N := 2) (v := bI (decide (97 ≤ r62 ∧ r62 ≤ 122))) (M2 := m_M_advance) (pc2 := 80) (ls2 := [some (eR 0), some (eI r62)]) (st2 := []) (y := m_M_isLetter) (as := [some (eI r62)]) (w2 := ([mN (eUp (eUp (eUp (eUp P 13 v') 14 v') 17 0) 16 0), eA 0 600 bY], c)) rfl (n_isLetter (by omega) (by omega)) (fun r80 hr80 => ?_)
      have hz : r80 = 1 := (bI_1 hr80).2.1.mpr (decide_eq_true (by omega))
      refine xEqF (N := 1) (x := r80) (y := 0) (A := ev m_M_advance 128 [some (eR 0), some (eI r62)] [] ([mN (eUp (eUp (eUp (eUp P 13 v') 14 v') 17 0) 16 0), eA 0 600 bY], c)) (B := ev m_M_advance 86 [some (eR 0), some (eI r62)] [] ([mN (eUp (eUp (eUp (eUp P 13 v') 14 v') 17 0) 16 0), eA 0 600 bY], c)) rfl (wr_id (by omega) (by omega)) (show wr 0 = 0 by decide) (by omega) ?_
      refine xSeg (N := 3) (r := ev m_M_advance 91 [some (eR 0), some (eI r62)] [] ([mN (eUp (eUp (eUp (eUp (eUp P 13 v') 14 v') 17 0) 16 0) 15 3), eA 0 600 bY], c)) rfl ?_
      rw [show r62 = (B s : Int) by omega]
      refine mN_ev (fun j _ _ => ?_) hq
      unfold eUp
      (repeat (first | omega | split)) <;> omega
    · have hk1n : ¬(97 ≤ B s ∧ B s ≤ 122) := fun h => hk1 (kd_1.mpr h)
      by_cases hk2 : kd (B s) = 2
      · have hd2 := kd_2.mp hk2
        have hE : tkE B n e = rnN B 2 (n - s) s := by
          unfold tkE
          rw [hsd, if_pos h1, hk2, if_neg (by omega), show n - s = (n - (s + 1)) + 1 by omega]
          exact (if_pos hk2).symm
        refine hfin 2 (vaN B (n - s) s 0) 0 _ hE (by rw [hK, hk2]; rfl) (by rw [hV, hK, hk2, if_pos rfl]) (by rw [hL, hK, hk2]; rfl) (fun v' hv' => ?_)
        have hq := n_rnD (P := eUp (eUp (eUp P 14 (s : Int)) 15 2) 17 0) (y := (B s : Int)) (c := c) (r := some (.inl none, ([mN (eUp (eUp (eUp (eUp (eUp P 14 (s : Int)) 13 ((rnN B 2 (n - s) s : Nat) : Int)) 15 ((2 : Nat) : Int)) 16 ((vaN B (n - s) s 0 : Nat) : Int)) 17 ((0 : Nat) : Int)), eA 0 600 bY], c))) (by rw [eUp_ne (by omega), eUp_ne (by omega), eUp_ne (by omega)]; exact h12) hn hby (n - s) s (by omega) 0 0 v' hv' rfl (by omega) (fun l' v2 hv2 hl' => mN_res (fun j _ _ => by unfold eUp; (repeat (first | omega | split)) <;> omega))
        refine xCallWI (N := 14) (v := bAt B n s) (M2 := m_M_advance) (pc2 := 62) (ls2 := [some (eR 0)]) (st2 := []) (y := m_M_byteAt) (as := [some (eR 0), some (eI v')]) (w2 := ([mN (eUp (eUp (eUp (eUp P 13 v') 14 v') 17 0) 16 0), eA 0 600 bY], c)) rfl (n_byteAt (P := eUp (eUp (eUp (eUp P 13 v') 14 v') 17 0) 16 0) (i := s) (by rw [eUp_ne (by omega), eUp_ne (by omega), eUp_ne (by omega)]; exact e12 _) hn hby hv' (by omega)) (fun r62 hr62 => ?_)
        refine xEqF (N := 4) (x := r62) (y := (-1)) (A := ev m_M_advance 71 [some (eR 0), some (eI r62)] [] ([mN (eUp (eUp (eUp (eUp P 13 v') 14 v') 17 0) 16 0), eA 0 600 bY], c)) (B := ev m_M_advance 79 [some (eR 0), some (eI r62)] [] ([mN (eUp (eUp (eUp (eUp P 13 v') 14 v') 17 0) 16 0), eA 0 600 bY], c)) rfl (wr_id (by omega) (by omega)) (show wr (-1) = (-1) by decide) (by omega) ?_
        refine xCallI (N := 2) (v := bI (decide (97 ≤ r62 ∧ r62 ≤ 122))) (M2 := m_M_advance) (pc2 := 80) (ls2 := [some (eR 0), some (eI r62)]) (st2 := []) (y := m_M_isLetter) (as := [some (eI r62)]) (w2 := ([mN (eUp (eUp (eUp (eUp P 13 v') 14 v') 17 0) 16 0), eA 0 600 bY], c)) rfl (n_isLetter (by omega) (by omega)) (fun r80 hr80 => ?_)
        have hz : r80 = 0 := (bI_1 hr80).2.2.mpr (decide_eq_false (by omega))
        refine xEqT (N := 1) (x := r80) (y := 0) (A := ev m_M_advance 128 [some (eR 0), some (eI r62)] [] ([mN (eUp (eUp (eUp (eUp P 13 v') 14 v') 17 0) 16 0), eA 0 600 bY], c)) (B := ev m_M_advance 86 [some (eR 0), some (eI r62)] [] ([mN (eUp (eUp (eUp (eUp P 13 v') 14 v') 17 0) 16 0), eA 0 600 bY], c)) rfl (wr_id (by omega) (by omega)) (show wr 0 = 0 by decide) (by omega) ?_
        refine xCallI (N := 4) (v := bI (decide (48 ≤ r62 ∧ r62 ≤ 57))) (M2 := m_M_advance) (pc2 := 133) (ls2 := [some (eR 0), some (eI r62)]) (st2 := []) (y := m_M_isBetween) (as := [some (eI r62), some (eI 48), some (eI 57)]) (w2 := ([mN (eUp (eUp (eUp (eUp P 13 v') 14 v') 17 0) 16 0), eA 0 600 bY], c)) rfl (n_between (by omega) (by omega) (by omega)) (fun r133 hr133 => ?_)
        have hz2 : r133 = 1 := (bI_1 hr133).2.1.mpr (decide_eq_true (by omega))
        refine xEqF (N := 1) (x := r133) (y := 0) (A := ev m_M_advance 214 [some (eR 0), some (eI r62)] [] ([mN (eUp (eUp (eUp (eUp P 13 v') 14 v') 17 0) 16 0), eA 0 600 bY], c)) (B := ev m_M_advance 139 [some (eR 0), some (eI r62)] [] ([mN (eUp (eUp (eUp (eUp P 13 v') 14 v') 17 0) 16 0), eA 0 600 bY], c)) rfl (wr_id (by omega) (by omega)) (show wr 0 = 0 by decide) (by omega) ?_
        refine xSeg (N := 3) (r := ev m_M_advance 144 [some (eR 0), some (eI r62)] [] ([mN (eUp (eUp (eUp (eUp (eUp P 13 v') 14 v') 17 0) 16 0) 15 2), eA 0 600 bY], c)) rfl ?_
        rw [show r62 = (B s : Int) by omega]
        refine mN_ev (fun j _ _ => ?_) hq
        unfold eUp
        (repeat (first | omega | split)) <;> omega
      · have hd2 : ¬(48 ≤ B s ∧ B s ≤ 57) := fun h => hk2 (kd_2.mpr h)
        have hkl := kd_le (b := B s)
        have hk3 : kd (B s) = 3 := by omega
        have hE : tkE B n e = s + 1 := by unfold tkE; rw [hsd, if_pos h1, if_pos hk3]
        refine hfin 1 0 0 (s + 1) hE (by rw [hK, hk3]; rfl) (by rw [hV, hK, hk3]; rfl) (by rw [hL, hK, hk3]; rfl) (fun v' hv' => ?_)
        refine xCallWI (N := 14) (v := bAt B n s) (M2 := m_M_advance) (pc2 := 62) (ls2 := [some (eR 0)]) (st2 := []) (y := m_M_byteAt) (as := [some (eR 0), some (eI v')]) (w2 := ([mN (eUp (eUp (eUp (eUp P 13 v') 14 v') 17 0) 16 0), eA 0 600 bY], c)) rfl (n_byteAt (P := eUp (eUp (eUp (eUp P 13 v') 14 v') 17 0) 16 0) (i := s) (by rw [eUp_ne (by omega), eUp_ne (by omega), eUp_ne (by omega)]; exact e12 _) hn hby hv' (by omega)) (fun r62 hr62 => ?_)
        refine xEqF (N := 4) (x := r62) (y := (-1)) (A := ev m_M_advance 71 [some (eR 0), some (eI r62)] [] ([mN (eUp (eUp (eUp (eUp P 13 v') 14 v') 17 0) 16 0), eA 0 600 bY], c)) (B := ev m_M_advance 79 [some (eR 0), some (eI r62)] [] ([mN (eUp (eUp (eUp (eUp P 13 v') 14 v') 17 0) 16 0), eA 0 600 bY], c)) rfl (wr_id (by omega) (by omega)) (show wr (-1) = (-1) by decide) (by omega) ?_
        refine xCallI (N := 2) (v := bI (decide (97 ≤ r62 ∧ r62 ≤ 122))) (M2 := m_M_advance) (pc2 := 80) (ls2 := [some (eR 0), some (eI r62)]) (st2 := []) (y := m_M_isLetter) (as := [some (eI r62)]) (w2 := ([mN (eUp (eUp (eUp (eUp P 13 v') 14 v') 17 0) 16 0), eA 0 600 bY], c)) rfl (n_isLetter (by omega) (by omega)) (fun r80 hr80 => ?_)
        have hz : r80 = 0 := (bI_1 hr80).2.2.mpr (decide_eq_false (by omega))
        refine xEqT (N := 1) (x := r80) (y := 0) (A := ev m_M_advance 128 [some (eR 0), some (eI r62)] [] ([mN (eUp (eUp (eUp (eUp P 13 v') 14 v') 17 0) 16 0), eA 0 600 bY], c)) (B := ev m_M_advance 86 [some (eR 0), some (eI r62)] [] ([mN (eUp (eUp (eUp (eUp P 13 v') 14 v') 17 0) 16 0), eA 0 600 bY], c)) rfl (wr_id (by omega) (by omega)) (show wr 0 = 0 by decide) (by omega) ?_
        refine xCallI (N := 4) (v := bI (decide (48 ≤ r62 ∧ r62 ≤ 57))) (M2 := m_M_advance) (pc2 := 133) (ls2 := [some (eR 0), some (eI r62)]) (st2 := []) (y := m_M_isBetween) (as := [some (eI r62), some (eI 48), some (eI 57)]) (w2 := ([mN (eUp (eUp (eUp (eUp P 13 v') 14 v') 17 0) 16 0), eA 0 600 bY], c)) rfl (n_between (by omega) (by omega) (by omega)) (fun r133 hr133 => ?_)
        have hz2 : r133 = 0 := (bI_1 hr133).2.2.mpr (decide_eq_false (by omega))
        refine xEqT (N := 1) (x := r133) (y := 0) (A := ev m_M_advance 214 [some (eR 0), some (eI r62)] [] ([mN (eUp (eUp (eUp (eUp P 13 v') 14 v') 17 0) 16 0), eA 0 600 bY], c)) (B := ev m_M_advance 139 [some (eR 0), some (eI r62)] [] ([mN (eUp (eUp (eUp (eUp P 13 v') 14 v') 17 0) 16 0), eA 0 600 bY], c)) rfl (wr_id (by omega) (by omega)) (show wr 0 = 0 by decide) (by omega) ?_
        refine xSeg (N := 10) (r := some (.inl none, ([mN (eUp (eUp (eUp (eUp (eUp (eUp P 13 v') 14 v') 17 0) 16 0) 15 1) 13 (v' + 1)), eA 0 600 bY], c))) rfl ?_
        refine mN_res (fun j _ _ => ?_)
        unfold eUp
        (repeat (first | omega | split)) <;> omega
  · have hK : tkK B n e = 0 := by unfold tkK; rw [hsd, if_neg h1]
    have hE : tkE B n e = s := by unfold tkE; rw [hsd, if_neg h1]
    have hbA : bAt B n s = -1 := if_neg h1
    refine hfin 0 0 0 s hE (by rw [hK]; rfl) (by rw [hV, hK]; rfl) (by rw [hL, hK]; rfl) (fun v' hv' => ?_)
    refine xCallWI (N := 14) (v := bAt B n s) (M2 := m_M_advance) (pc2 := 62) (ls2 := [some (eR 0)]) (st2 := []) (y := m_M_byteAt) (as := [some (eR 0), some (eI v')]) (w2 := ([mN (eUp (eUp (eUp (eUp P 13 v') 14 v') 17 0) 16 0), eA 0 600 bY], c)) rfl (n_byteAt (P := eUp (eUp (eUp (eUp P 13 v') 14 v') 17 0) 16 0) (i := s) (by rw [eUp_ne (by omega), eUp_ne (by omega), eUp_ne (by omega)]; exact e12 _) hn hby hv' (by omega)) (fun r62 hr62 => ?_)
    refine xEqT (N := 4) (x := r62) (y := (-1)) (A := ev m_M_advance 71 [some (eR 0), some (eI r62)] [] ([mN (eUp (eUp (eUp (eUp P 13 v') 14 v') 17 0) 16 0), eA 0 600 bY], c)) (B := ev m_M_advance 79 [some (eR 0), some (eI r62)] [] ([mN (eUp (eUp (eUp (eUp P 13 v') 14 v') 17 0) 16 0), eA 0 600 bY], c)) rfl (wr_id (by omega) (by omega)) (show wr (-1) = (-1) by decide) (by omega) ?_
    refine xSeg (N := 5) (r := some (.inl none, ([mN (eUp (eUp (eUp (eUp (eUp P 13 v') 14 v') 17 0) 16 0) 15 0), eA 0 600 bY], c))) rfl ?_
    refine mN_res (fun j _ _ => ?_)
    unfold eUp
    (repeat (first | omega | split)) <;> omega
