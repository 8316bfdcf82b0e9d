/-! The model reads the whole text. -/
theorem gri_cases {B : Nat → Nat} {n : Nat} {ib : Bool} (hib : ib = isB B (tkK B n 0) (tkS B n 0) (tkE B n 0) 0) : (∃ z, nxR B n (fiR B n (nxR B n (lkR B n 2 7 (nxR B n (lkR B n 2 7 (nxR B n (ckR B n ib 1 (.inr 0)))))))) = .inl z ∧ griS B n = .inl z) ∨ (∃ e, nxR B n (fiR B n (nxR B n (lkR B n 2 7 (nxR B n (lkR B n 2 7 (nxR B n (ckR B n ib 1 (.inr 0)))))))) = .inr e ∧ griS B n = .inr ((tkC B n (tkE B n 0), tkC B n (tkE B n (tkE B n 0))), e) ∧ ib = true ∧ lkR B n 2 7 (.inr (tkE B n 0)) = .inr (tkE B n 0) ∧ lkR B n 2 7 (.inr (tkE B n (tkE B n 0))) = .inr (tkE B n (tkE B n 0)) ∧ smS B n (tkE B n (tkE B n (tkE B n 0))) = .inr e) := by
  unfold griS
  rw [← hib]
  cases ib with
  | false => exact Or.inl ⟨_, rfl, rfl⟩
  | true =>
    rw [if_pos rfl]
    have e1 : nxR B n (ckR B n true 1 (.inr 0)) = .inr (tkE B n 0) := rfl
    rw [e1, nuS_lk]
    generalize tkE B n 0 = a0
    cases h1 : lkR B n 2 7 (.inr a0) with
    | inl z => exact Or.inl ⟨z, rfl, rfl⟩
    | inr b0 =>
      obtain ⟨rfl, -⟩ := lkR_r h1
      have e2 : nxR B n (.inr b0) = .inr (tkE B n b0) := rfl
      rw [e2]
      dsimp only
      rw [nuS_lk]
      generalize tkE B n b0 = a1
      cases h2 : lkR B n 2 7 (.inr a1) with
      | inl z => exact Or.inl ⟨z, rfl, rfl⟩
      | inr b1 =>
        obtain ⟨rfl, -⟩ := lkR_r h2
        have e3 : nxR B n (.inr b1) = .inr (tkE B n b1) := rfl
        rw [e3]
        dsimp only
        generalize tkE B n b1 = a2
        unfold fiR smS
        dsimp only
        by_cases h3 : tkK B n a2 = 3 ∧ B (tkS B n a2) = 59
        · rw [if_pos h3, if_pos h3]
          exact Or.inr ⟨_, rfl, rfl, rfl, rfl, rfl, rfl⟩
        · rw [if_neg h3, if_neg h3]
          exact Or.inl ⟨_, rfl, rfl⟩
def gzR (g : Nat → Int) (k : Nat) : Nat → Int := fun i => if i < k then 0 else g i
theorem gzR_step {g : Nat → Int} {k : Nat} : eUp (gzR g k) k 0 = gzR g (k + 1) := by
  funext i
  unfold eUp gzR
  by_cases h : i = k
  · rw [if_pos h, if_pos (by omega)]
  · rw [if_neg h]
    by_cases h2 : i < k
    · rw [if_pos h2, if_pos (by omega)]
    · rw [if_neg h2, if_neg (by omega)]
theorem gzR_0 {g : Nat → Int} : gzR g 0 = g := by funext i; unfold gzR; rw [if_neg (by omega)]
section
variable {P g mk fr bY : Nat → Int} {B : Nat → Nat} {n : Nat} {c : Nat × Nat} {a : eRow}
set_option maxRecDepth 100000
theorem m_read (h12 : P 12 = (n : Int)) (hn : n ≤ 600) (hby : ∀ i, i < n → bY i = (B i : Int) ∧ B i < 256) : ∃ P' g' mk' fr' : Nat → Int, (match txS B n with
    | .inl z => mS B n P' (.inl z)
    | .inr q => mT B n P' g' q) ∧ mU P P' ∧ ev m_M_read 0 [some (eR 0)] [] ([mQ P, eA 0 964 g, eA 0 144 mk, eA 0 24 fr, eA 0 600 bY], c) = some (.inl none, ([mQ P', eA 0 964 g', eA 0 144 mk', eA 0 24 fr', eA 0 600 bY], c)) := by
  obtain ⟨P1, ⟨a1, a2, a3, a4, a5, a6⟩, q1⟩ := n_advance (P := eUp (eUp (eUp P 18 0) 19 (-1)) 13 0) (e := 0) (c := (0, 0)) (by rw [eUp_ne (by omega), eUp_ne (by omega), eUp_ne (by omega)]; exact h12) hn hby (by rw [eUp_at]; rfl) (Nat.zero_le n)
  have hU : ∀ j, (j < 13 ∨ 19 < j) → P1 j = P j := fun j hj => by rw [a6 j (by omega), eUp_ne (by omega), eUp_ne (by omega), eUp_ne (by omega)]
  have s1 : mS B n P1 (.inr 0) := ⟨⟨⟨(hU 12 (by omega)).trans h12, Nat.zero_le n⟩, a1, a2, a3, a4, a5⟩, by rw [a6 18 (by omega), eUp_ne (by omega), eUp_ne (by omega), eUp_at], by rw [a6 19 (by omega), eUp_ne (by omega), eUp_at]⟩
  have t := tk_le (B := B) (n := n) (e := 0) (Nat.zero_le n)
  have ni := n_is0 (bY := bY) (c := (0, 0)) a1 a3 a5 (by omega) (by omega) hn (by omega) hby
  rw [isB_m0] at ni
  obtain ⟨ib, hib⟩ : ∃ ib : Bool, ib = isB B (tkK B n 0) (tkS B n 0) (tkE B n 0) 0 := ⟨_, rfl⟩
  rw [← hib] at ni
  obtain ⟨zi, hzi⟩ : ∃ zi : Int, zi = bI ib := ⟨_, rfl⟩
  rw [← hzi] at ni
  obtain ⟨P2, v2, s2, u2, q2⟩ := m_chk (g := gzR g 964) (mk := mk) (fr := fr) (bY := bY) (c := c) (b := ib) (k := 1) (x := zi) (z := 1) s1 hzi rfl (by omega)
  obtain ⟨P3, s3, u3, q3⟩ := m_nx (g := gzR g 964) (mk := mk) (fr := fr) (c := c) s2 hn hby
  obtain ⟨P4, v4, s4, u4, w4, x4, q4⟩ := m_num (g := gzR g 964) (mk := mk) (fr := fr) (c := c) (lo := 2) (hi := 7) (l := 2) (h9 := 6) s3 hn hby rfl rfl (by omega) (by omega)
  obtain ⟨P5, v5, s5, u5, w5, x5, q5⟩ := m_num (g := eUp (gzR g 964) 0 v4) (mk := mk) (fr := fr) (c := c) (lo := 2) (hi := 7) (l := 2) (h9 := 6) s4 hn hby rfl rfl (by omega) (by omega)
  obtain ⟨P6, s6, u6, q6⟩ := m_fin (g := eUp (eUp (gzR g 964) 0 v4) 1 v5) (mk := mk) (fr := fr) (c := c) s5 hn hby
  have uF := mU_tr hU (mU_tr u2 (mU_tr u3 (mU_tr u4 (mU_tr u5 u6))))
  obtain ⟨y9, hy9⟩ : ∃ y9 : Int, y9 = ((964 : Nat) : Int) := ⟨_, rfl⟩
  have hmid : ∀ R : eRes, (ev m_M_read 88 [some (eR 0), some (eI y9)] [] ([mQ P6, eA 0 964 (eUp (eUp (gzR g 964) 0 v4) 1 v5), eA 0 144 mk, eA 0 24 fr, eA 0 600 bY], c) = R) → ev m_M_read 0 [some (eR 0)] [] ([mQ P, eA 0 964 g, eA 0 144 mk, eA 0 24 fr, eA 0 600 bY], c) = R := fun R hR => by
    have hz : ∀ q : Nat, q ≤ 964 → ∀ y : Int, y = ((q : Nat) : Int) → ev m_M_read 17 [some (eR 0), some (eI y)] [] ([mQ (eUp (eUp (eUp P 18 0) 19 (-1)) 13 0), eA 0 964 (gzR g q), eA 0 144 mk, eA 0 24 fr, eA 0 600 bY], c) = R := by
      refine loop_up ?_ ?_
      · intro y hy
        refine xLtF (N := 3) (x := y) (y := 964) (A := ev m_M_read 24 [some (eR 0), some (eI y)] [] ([mQ (eUp (eUp (eUp P 18 0) 19 (-1)) 13 0), eA 0 964 (gzR g 964), eA 0 144 mk, eA 0 24 fr, eA 0 600 bY], c)) (B := ev m_M_read 37 [some (eR 0), some (eI y)] [] ([mQ (eUp (eUp (eUp P 18 0) 19 (-1)) 13 0), eA 0 964 (gzR g 964), eA 0 144 mk, eA 0 24 fr, eA 0 600 bY], c)) rfl (wr_id (by omega) (by omega)) (show wr 964 = 964 by decide) (by omega) ?_
        refine xCallWV (N := 2) (M2 := m_M_read) (pc2 := 38) (ls2 := [some (eR 0), some (eI y)]) (st2 := []) (y := m_M_advance) (as := [some (eR 0)]) (w2 := ([mQ (eUp (eUp (eUp P 18 0) 19 (-1)) 13 0), eA 0 964 (gzR g 964), eA 0 144 mk, eA 0 24 fr, eA 0 600 bY], c)) rfl (nUp q1 rfl rfl rfl) ?_
        refine xCallW (N := 4) (M2 := m_M_read) (pc2 := 46) (ls2 := [some (eR 0), some (eI y)]) (st2 := [eR 0]) (y := m_M_is) (as := [some (eR 0), some (eSt 18)]) (w2 := ([mQ P1, eA 0 964 (gzR g 964), eA 0 144 mk, eA 0 24 fr, eA 0 600 bY], c)) rfl (nUp ni rfl rfl rfl) ?_
        refine xCallW (N := 2) (M2 := m_M_read) (pc2 := 50) (ls2 := [some (eR 0), some (eI y)]) (st2 := []) (y := m_M_check) (as := [some (eR 0), some (eI zi), some (eI 1)]) (w2 := ([mQ P1, eA 0 964 (gzR g 964), eA 0 144 mk, eA 0 24 fr, eA 0 600 bY], c)) rfl q2 ?_
        refine xCallWV (N := 3) (M2 := m_M_read) (pc2 := 55) (ls2 := [some (eR 0), some (eI y)]) (st2 := []) (y := m_M_next) (as := [some (eR 0)]) (w2 := ([mQ P2, eA 0 964 (gzR g 964), eA 0 144 mk, eA 0 24 fr, eA 0 600 bY], c)) rfl q3 ?_
        refine xCallW (N := 7) (M2 := m_M_read) (pc2 := 67) (ls2 := [some (eR 0), some (eI y)]) (st2 := [eI 0, eR 1]) (y := m_M_number) (as := [some (eR 0), some (eI 2), some (eI 6)]) (w2 := ([mQ P3, eA 0 964 (gzR g 964), eA 0 144 mk, eA 0 24 fr, eA 0 600 bY], c)) rfl q4 ?_
        refine xLd (N := 1) (n := 964) (i := 0) (F := fun zq => ev m_M_read 71 [some (eR 0), some (eI y)] [] ([mQ P4, eA 0 964 (eUp (gzR g 964) zq v4), eA 0 144 mk, eA 0 24 fr, eA 0 600 bY], c)) (k := 0) rfl (show wr 0 = ((0 : Nat) : Int) by decide) (by omega) ?_
        refine xCallW (N := 7) (M2 := m_M_read) (pc2 := 80) (ls2 := [some (eR 0), some (eI y)]) (st2 := [eI 1, eR 1]) (y := m_M_number) (as := [some (eR 0), some (eI 2), some (eI 6)]) (w2 := ([mQ P4, eA 0 964 (eUp (gzR g 964) 0 v4), eA 0 144 mk, eA 0 24 fr, eA 0 600 bY], c)) rfl q5 ?_
        refine xLd (N := 1) (n := 964) (i := 1) (F := fun zq => ev m_M_read 84 [some (eR 0), some (eI y)] [] ([mQ P5, eA 0 964 (eUp (eUp (gzR g 964) 0 v4) zq v5), eA 0 144 mk, eA 0 24 fr, eA 0 600 bY], c)) (k := 1) rfl (show wr 1 = ((1 : Nat) : Int) by decide) (by omega) ?_
        refine xCallWV (N := 2) (M2 := m_M_read) (pc2 := 85) (ls2 := [some (eR 0), some (eI y)]) (st2 := []) (y := m_M_finish) (as := [some (eR 0)]) (w2 := ([mQ P5, eA 0 964 (eUp (eUp (gzR g 964) 0 v4) 1 v5), eA 0 144 mk, eA 0 24 fr, eA 0 600 bY], c)) rfl q6 ?_
        rw [hy, ← hy9]; exact hR
      · intro q hq ih y hy
        refine xLtT (N := 3) (x := y) (y := 964) (A := ev m_M_read 24 [some (eR 0), some (eI y)] [] ([mQ (eUp (eUp (eUp P 18 0) 19 (-1)) 13 0), eA 0 964 (gzR g q), eA 0 144 mk, eA 0 24 fr, eA 0 600 bY], c)) (B := ev m_M_read 37 [some (eR 0), some (eI y)] [] ([mQ (eUp (eUp (eUp P 18 0) 19 (-1)) 13 0), eA 0 964 (gzR g q), eA 0 144 mk, eA 0 24 fr, eA 0 600 bY], c)) rfl (wr_id (by omega) (by omega)) (show wr 964 = 964 by decide) (by omega) ?_
        refine xLd (N := 5) (n := 964) (i := y) (F := fun zq => ev m_M_read 31 [some (eR 0), some (eI y)] [] ([mQ (eUp (eUp (eUp P 18 0) 19 (-1)) 13 0), eA 0 964 (eUp (gzR g q) zq 0), eA 0 144 mk, eA 0 24 fr, eA 0 600 bY], c)) (k := q) rfl (wr_nat (by omega) (by omega)) (by omega) ?_
        refine xSeg (N := 2) (r := ev m_M_read 17 [some (eR 0), some (eI (y + 1))] [] ([mQ (eUp (eUp (eUp P 18 0) 19 (-1)) 13 0), eA 0 964 (eUp (gzR g q) q 0), eA 0 144 mk, eA 0 24 fr, eA 0 600 bY], c)) rfl ?_
        rw [gzR_step]; exact ih _ (by omega)
    have h0 := hz 0 (by omega) 0 rfl
    rw [gzR_0] at h0
    refine xSeg (N := 11) (r := ev m_M_read 17 [some (eR 0), some (eI 0)] [] ([mQ (eUp (eUp (eUp P 18 0) 19 (-1)) 13 0), eA 0 964 g, eA 0 144 mk, eA 0 24 fr, eA 0 600 bY], c)) rfl ?_
    exact h0
  unfold txS
  have s6 : mS B n P6 (nxR B n (fiR B n (nxR B n (lkR B n 2 7 (nxR B n (lkR B n 2 7 (nxR B n (ckR B n ib 1 (.inr 0))))))))) := s6
  rcases gri_cases hib with ⟨z, g1, g2⟩ | ⟨e, g1, g2, g3, g4, g5, g6⟩
  · rw [g1] at s6
    rw [g2]
    have hne := mS_L s6
    obtain ⟨_, d18⟩ := mS_at s6
    refine ⟨P6, eUp (eUp (gzR g 964) 0 v4) 1 v5, mk, fr, s6, uF, hmid _ ?_⟩
    refine xEqF (N := 3) (x := P6 18) (y := 0) (A := ev m_M_read 95 [some (eR 0), some (eI y9)] [] ([mQ P6, eA 0 964 (eUp (eUp (gzR g 964) 0 v4) 1 v5), eA 0 144 mk, eA 0 24 fr, eA 0 600 bY], c)) (B := ev m_M_read 110 [some (eR 0), some (eI y9)] [] ([mQ P6, eA 0 964 (eUp (eUp (gzR g 964) 0 v4) 1 v5), eA 0 144 mk, eA 0 24 fr, eA 0 600 bY], c)) rfl (wr_id (by omega) (by omega)) (show wr 0 = 0 by decide) (by omega) ?_
    refine xEqF (N := 3) (x := P6 18) (y := 0) (A := ev m_M_read 117 [some (eR 0), some (eI y9)] [] ([mQ P6, eA 0 964 (eUp (eUp (gzR g 964) 0 v4) 1 v5), eA 0 144 mk, eA 0 24 fr, eA 0 600 bY], c)) (B := ev m_M_read 131 [some (eR 0), some (eI y9)] [] ([mQ P6, eA 0 964 (eUp (eUp (gzR g 964) 0 v4) 1 v5), eA 0 144 mk, eA 0 24 fr, eA 0 600 bY], c)) rfl (wr_id (by omega) (by omega)) (show wr 0 = 0 by decide) (by omega) ?_
    refine xSeg (N := 1) (r := some (.inl none, ([mQ P6, eA 0 964 (eUp (eUp (gzR g 964) 0 v4) 1 v5), eA 0 144 mk, eA 0 24 fr, eA 0 600 bY], c))) rfl ?_
    rfl
  · rw [g1] at s6
    rw [g2]
    dsimp only
    obtain ⟨-, d1, d2, d3⟩ := lkR_r g4
    obtain ⟨-, f1, f2, f3⟩ := lkR_r g5
    have w4' := (w4 (tkE B n 0) (by rw [g3]; exact g4)).2
    have w5' := (w5 (tkE B n (tkE B n 0)) (by rw [g3]; show lkR B n 2 7 (nxR B n (lkR B n 2 7 (.inr (tkE B n 0)))) = _; rw [g4]; exact g5)).2
    have he : e ≤ n := s6.1.1.2
    have he0 : 0 < e := by
      have m1 := tk_le (B := B) (n := n) (e := 0) (Nat.zero_le n)
      have m2 := tk_le (B := B) (n := n) (e := tkE B n 0) m1.2.2.1
      have m3 := tk_le (B := B) (n := n) (e := tkE B n (tkE B n 0)) m2.2.2.1
      have := smS_e m3.2.2.1 g6
      omega
    generalize tkC B n (tkE B n 0) = w at *
    generalize tkC B n (tkE B n (tkE B n 0)) = h at *
    have hz : rg (eUp (eUp (gzR g 964) 0 v4) 1 v5) (zG w h) := fun i hi => by
      unfold zG eUp gzR
      by_cases h1 : i = 1
      · rw [if_pos h1, if_neg (by omega), if_pos h1]; exact w5'
      · rw [if_neg h1]
        by_cases h0 : i = 0
        · rw [if_pos h0, if_pos h0]; exact w4'
        · rw [if_neg h0, if_neg h0, if_neg h1, if_pos hi]; rfl
    have z0 : zG w h 0 = w := rfl
    have z1 : zG w h 1 = h := rfl
    obtain ⟨k1, k2⟩ := st_all (w := w) (h := h) ⟨d2, by omega⟩ ⟨f2, by omega⟩
    obtain ⟨g1', n1, n2⟩ := n_makeSlots (c := (0, 0)) hz (by rw [z0]; omega) (by rw [z1]; omega) (fun i hi => by
      have hzi : zG w h (16 + i) = 0 := by unfold zG; rw [if_neg (by omega), if_neg (by omega)]
      rw [hzi]; exact Nat.zero_le _)
    obtain ⟨g2', mk2, fr2, n3, n4⟩ := n_beginAnew (mk := mk) (fr := fr) (P := P6) (c := (0, 0)) n1 k1 k2
    obtain ⟨P', g', mk', fr', j1, j2, j3⟩ := m_rdL (c := c) hn hby 600 e (stA w h) P6 g2' mk2 fr2 y9 s6 (by omega) n3 (iA_st ⟨d2, by omega⟩ ⟨f2, by omega⟩)
    have h618 := s6.2.1
    refine ⟨P', g', mk', fr', j1, mU_tr uF j2, hmid _ ?_⟩
    refine xEqT (N := 3) (x := P6 18) (y := 0) (A := ev m_M_read 95 [some (eR 0), some (eI y9)] [] ([mQ P6, eA 0 964 (eUp (eUp (gzR g 964) 0 v4) 1 v5), eA 0 144 mk, eA 0 24 fr, eA 0 600 bY], c)) (B := ev m_M_read 110 [some (eR 0), some (eI y9)] [] ([mQ P6, eA 0 964 (eUp (eUp (gzR g 964) 0 v4) 1 v5), eA 0 144 mk, eA 0 24 fr, eA 0 600 bY], c)) rfl (wr_id (by omega) (by omega)) (show wr 0 = 0 by decide) (by omega) ?_
    refine xCallV (N := 3) (M2 := m_M_read) (pc2 := 99) (ls2 := [some (eR 0), some (eI y9)]) (st2 := []) (y := m_M_makeSlots) (as := [some (eR 1)]) (w2 := ([mQ P6, eA 0 964 (eUp (eUp (gzR g 964) 0 v4) 1 v5), eA 0 144 mk, eA 0 24 fr, eA 0 600 bY], c)) rfl (nRd n2 rfl rfl rfl) ?_
    refine xCallWV (N := 4) (M2 := m_M_read) (pc2 := 107) (ls2 := [some (eR 0), some (eI y9)]) (st2 := []) (y := m_M_beginAnew) (as := [some (eR 0), some (eR 1)]) (w2 := ([mQ P6, eA 0 964 g1', eA 0 144 mk, eA 0 24 fr, eA 0 600 bY], c)) rfl (nRow n4 rfl rfl rfl) ?_
    exact j3
end
