/-! The model: tries, ends, restores, undoes, adds, loads. -/
theorem bgA_2 (a : eRow) : bgA a 2 = a 2 := by
  rw [show bgA a 2 = (ba1 a) 2 from nwA_sm 2 (by omega)]
  exact ba1_sm 2 (by omega)
theorem sv200_b {a : eRow} {b : Int} (h : b = ((svc 200 a : Nat) : Int)) : 0 ≤ b ∧ b < 2147483648 := by
  have := svc_le (d := 200) (a := a)
  omega
theorem eUp_self {P : Nat → Int} {k : Nat} {v : Int} (h : P k = v) : eUp P k v = P := by
  funext j
  unfold eUp
  by_cases hj : j = k
  · rw [if_pos hj, hj, h]
  · rw [if_neg hj]
theorem z_refF2 {g mk fr P : Nat → Int} {z : Int} (h : P 10 = 0) : ev m_M_refuses 0 [some (eR 1), some (eI 0), some (eI z)] [] ([eA 0 964 g, mZ P, eA 0 144 mk, eA 0 24 fr], (0, 0)) = some (.inl (some (eI 0)), ([eA 0 964 g, mZ P, eA 0 144 mk, eA 0 24 fr], (0, 0))) := by
  have := z_refF (g := g) (mk := mk) (fr := fr) (P := P) (c := (0, 0)) (z := z)
  rw [eUp_self h] at this
  exact this
theorem z_refT2 {g mk fr P : Nat → Int} {z : Int} (h : P 10 = 0) (hz : 1 ≤ z ∧ z ≤ 2) : ev m_M_refuses 0 [some (eR 1), some (eI 1), some (eI z)] [] ([eA 0 964 g, mZ P, eA 0 144 mk, eA 0 24 fr], (0, 0)) = some (.inl (some (eI 1)), ([eA 0 964 g, mZ (eUp P 10 z), eA 0 144 mk, eA 0 24 fr], (0, 0))) := by
  have := z_refT (g := g) (mk := mk) (fr := fr) (P := P) (c := (0, 0)) (z := z) hz
  rw [eUp_self h] at this
  exact this
set_option maxRecDepth 100000
theorem m_triesN {P g gp gt gr gs mk fr kp bM oM : Nat → Int} {us : Nat} {a : eRow} {X : xT} {t0 : Int} (h : MR P g gr gs kp bM oM us a X t0) {x y : Int} {k w : Nat} (hx : x = (k : Int)) (h1 : k < a 3) (hy : y = (w : Int)) (h2 : w < a 2) (h0 : rfs (a 4) ((op a k).testBit w) (decide (pc 30 (op a k) = 1)) ≠ 0)  : ev m_M_tries 0 [some (eR 0), some (eI x), some (eI y)] [] ([mW P, eA 0 964 g, eA 0 964 gp, eA 0 964 gt, eA 0 7712 gr, eA 0 1928 gs, eA 0 144 mk, eA 0 24 fr, eA 1 2 kp, eA 0 600 bM, eA 2 6 oM], (0, 0)) = some (.inl (some (eI 0)), ([mW (eUp P 10 0), eA 0 964 g, eA 0 964 gp, eA 0 964 gt, eA 0 7712 gr, eA 0 1928 gs, eA 0 144 mk, eA 0 24 fr, eA 1 2 kp, eA 0 600 bM, eA 2 6 oM], (0, 0))) := by
  have h8 := h
  obtain ⟨⟨hg, hI, hB⟩, r2, ⟨r3, r3n, r3b⟩, r4, ⟨r5, r5n, r5b⟩, ⟨p1, p2, p3, p4, p5⟩, r7⟩ := h
  have hI8 := hI
  obtain ⟨hG, ⟨v1, v2⟩, hO, hT, hM⟩ := hI8
  obtain ⟨⟨q1, q2, q3, q4, q5⟩, q6⟩ := hG
  have b5 := iT_24 q5 hT
  have e0 := hg 0 (by omega)
  have e1 := hg 1 (by omega)
  have e2 := hg 2 (by omega)
  have e3 := hg 3 (by omega)
  have e4 := hg 4 (by omega)
  have e5 := hg 5 (by omega)
  obtain ⟨z9, hz9, hwy⟩ := n_whyN hg hx hy (by omega) (hO k h1).1 (by omega) hM.1 h0
  refine xCallW (N := 4) (M2 := m_M_tries) (pc2 := 3) (ls2 := [some (eR 0), some (eI x), some (eI y)]) (st2 := []) (y := m_M_noGuess) (as := [some (eR 0), some (eI x), some (eI y)]) (w2 := ([mW P, eA 0 964 g, eA 0 964 gp, eA 0 964 gt, eA 0 7712 gr, eA 0 1928 gs, eA 0 144 mk, eA 0 24 fr, eA 1 2 kp, eA 0 600 bM, eA 2 6 oM], (0, 0))) rfl (w_Z (z_noGuess (c := (0, 0)) hg hI hx h1 hy h2) rfl rfl rfl) ?_
  refine xEqT (N := 1) (x := 0) (y := 0) (A := ev m_M_tries 9 [some (eR 0), some (eI x), some (eI y)] [] ([mW (eUp P 10 0), eA 0 964 g, eA 0 964 gp, eA 0 964 gt, eA 0 7712 gr, eA 0 1928 gs, eA 0 144 mk, eA 0 24 fr, eA 1 2 kp, eA 0 600 bM, eA 2 6 oM], (0, 0))) (B := ev m_M_tries 21 [some (eR 0), some (eI x), some (eI y)] [] ([mW (eUp P 10 0), eA 0 964 g, eA 0 964 gp, eA 0 964 gt, eA 0 7712 gr, eA 0 1928 gs, eA 0 144 mk, eA 0 24 fr, eA 1 2 kp, eA 0 600 bM, eA 2 6 oM], (0, 0))) rfl (show wr 0 = 0 by decide) (show wr 0 = 0 by decide) (by decide) ?_
  refine xCall (N := 5) (M2 := m_M_tries) (pc2 := 15) (ls2 := [some (eR 0), some (eI x), some (eI y)]) (st2 := []) (y := m_M_whyNotGuess) (as := [some (eR 1), some (eI x), some (eI y)]) (w2 := ([mW (eUp P 10 0), eA 0 964 g, eA 0 964 gp, eA 0 964 gt, eA 0 7712 gr, eA 0 1928 gs, eA 0 144 mk, eA 0 24 fr, eA 1 2 kp, eA 0 600 bM, eA 2 6 oM], (0, 0))) rfl (w_g hwy rfl rfl rfl) ?_
  refine xEqF (N := 1) (x := z9) (y := 0) (A := ev m_M_tries 23 [some (eR 0), some (eI x), some (eI y)] [] ([mW (eUp P 10 0), eA 0 964 g, eA 0 964 gp, eA 0 964 gt, eA 0 7712 gr, eA 0 1928 gs, eA 0 144 mk, eA 0 24 fr, eA 1 2 kp, eA 0 600 bM, eA 2 6 oM], (0, 0))) (B := ev m_M_tries 21 [some (eR 0), some (eI x), some (eI y)] [] ([mW (eUp P 10 0), eA 0 964 g, eA 0 964 gp, eA 0 964 gt, eA 0 7712 gr, eA 0 1928 gs, eA 0 144 mk, eA 0 24 fr, eA 1 2 kp, eA 0 600 bM, eA 2 6 oM], (0, 0))) rfl (wr_id (by omega) (by omega)) (show wr 0 = 0 by decide) (by omega) ?_
  refine xRb (N := 2) (v := 0) (w2 := ([mW (eUp P 10 0), eA 0 964 g, eA 0 964 gp, eA 0 964 gt, eA 0 7712 gr, eA 0 1928 gs, eA 0 144 mk, eA 0 24 fr, eA 1 2 kp, eA 0 600 bM, eA 2 6 oM], (0, 0))) rfl (by decide) ?_
  rfl
theorem m_triesX {P g gp gt gr gs mk fr kp bM oM : Nat → Int} {us : Nat} {a : eRow} {X : xT} {t0 : Int} (h : MR P g gr gs kp bM oM us a X t0) {x y : Int} (bx : -2147483648 ≤ x ∧ x < 2147483648) (hh : ¬ (0 ≤ x ∧ x < (a 3 : Int)))  : ev m_M_tries 0 [some (eR 0), some (eI x), some (eI y)] [] ([mW P, eA 0 964 g, eA 0 964 gp, eA 0 964 gt, eA 0 7712 gr, eA 0 1928 gs, eA 0 144 mk, eA 0 24 fr, eA 1 2 kp, eA 0 600 bM, eA 2 6 oM], (0, 0)) = some (.inl (some (eI 0)), ([mW (eUp P 10 1), eA 0 964 g, eA 0 964 gp, eA 0 964 gt, eA 0 7712 gr, eA 0 1928 gs, eA 0 144 mk, eA 0 24 fr, eA 1 2 kp, eA 0 600 bM, eA 2 6 oM], (0, 0))) := by
  have h8 := h
  obtain ⟨⟨hg, hI, hB⟩, r2, ⟨r3, r3n, r3b⟩, r4, ⟨r5, r5n, r5b⟩, ⟨p1, p2, p3, p4, p5⟩, r7⟩ := h
  have hI8 := hI
  obtain ⟨hG, ⟨v1, v2⟩, hO, hT, hM⟩ := hI8
  obtain ⟨⟨q1, q2, q3, q4, q5⟩, q6⟩ := hG
  have b5 := iT_24 q5 hT
  have e0 := hg 0 (by omega)
  have e1 := hg 1 (by omega)
  have e2 := hg 2 (by omega)
  have e3 := hg 3 (by omega)
  have e4 := hg 4 (by omega)
  have e5 := hg 5 (by omega)
  refine xCallW (N := 4) (M2 := m_M_tries) (pc2 := 3) (ls2 := [some (eR 0), some (eI x), some (eI y)]) (st2 := []) (y := m_M_noGuess) (as := [some (eR 0), some (eI x), some (eI y)]) (w2 := ([mW P, eA 0 964 g, eA 0 964 gp, eA 0 964 gt, eA 0 7712 gr, eA 0 1928 gs, eA 0 144 mk, eA 0 24 fr, eA 1 2 kp, eA 0 600 bM, eA 2 6 oM], (0, 0))) rfl (w_Z (z_noGuessX (c := (0, 0)) hg hI bx hh) rfl rfl rfl) ?_
  refine xEqF (N := 1) (x := 1) (y := 0) (A := ev m_M_tries 9 [some (eR 0), some (eI x), some (eI y)] [] ([mW (eUp P 10 1), eA 0 964 g, eA 0 964 gp, eA 0 964 gt, eA 0 7712 gr, eA 0 1928 gs, eA 0 144 mk, eA 0 24 fr, eA 1 2 kp, eA 0 600 bM, eA 2 6 oM], (0, 0))) (B := ev m_M_tries 21 [some (eR 0), some (eI x), some (eI y)] [] ([mW (eUp P 10 1), eA 0 964 g, eA 0 964 gp, eA 0 964 gt, eA 0 7712 gr, eA 0 1928 gs, eA 0 144 mk, eA 0 24 fr, eA 1 2 kp, eA 0 600 bM, eA 2 6 oM], (0, 0))) rfl (show wr 1 = 1 by decide) (show wr 0 = 0 by decide) (by decide) ?_
  refine xRb (N := 2) (v := 0) (w2 := ([mW (eUp P 10 1), eA 0 964 g, eA 0 964 gp, eA 0 964 gt, eA 0 7712 gr, eA 0 1928 gs, eA 0 144 mk, eA 0 24 fr, eA 1 2 kp, eA 0 600 bM, eA 2 6 oM], (0, 0))) rfl (by decide) ?_
  rfl
theorem m_triesY {P g gp gt gr gs mk fr kp bM oM : Nat → Int} {us : Nat} {a : eRow} {X : xT} {t0 : Int} (h : MR P g gr gs kp bM oM us a X t0) {x y : Int} {k : Nat} (hx : x = (k : Int)) (h1 : k < a 3) (by_ : -2147483648 ≤ y ∧ y < 2147483648) (hh : ¬ (0 ≤ y ∧ y < (a 2 : Int)))  : ev m_M_tries 0 [some (eR 0), some (eI x), some (eI y)] [] ([mW P, eA 0 964 g, eA 0 964 gp, eA 0 964 gt, eA 0 7712 gr, eA 0 1928 gs, eA 0 144 mk, eA 0 24 fr, eA 1 2 kp, eA 0 600 bM, eA 2 6 oM], (0, 0)) = some (.inl (some (eI 0)), ([mW (eUp P 10 1), eA 0 964 g, eA 0 964 gp, eA 0 964 gt, eA 0 7712 gr, eA 0 1928 gs, eA 0 144 mk, eA 0 24 fr, eA 1 2 kp, eA 0 600 bM, eA 2 6 oM], (0, 0))) := by
  have h8 := h
  obtain ⟨⟨hg, hI, hB⟩, r2, ⟨r3, r3n, r3b⟩, r4, ⟨r5, r5n, r5b⟩, ⟨p1, p2, p3, p4, p5⟩, r7⟩ := h
  have hI8 := hI
  obtain ⟨hG, ⟨v1, v2⟩, hO, hT, hM⟩ := hI8
  obtain ⟨⟨q1, q2, q3, q4, q5⟩, q6⟩ := hG
  have b5 := iT_24 q5 hT
  have e0 := hg 0 (by omega)
  have e1 := hg 1 (by omega)
  have e2 := hg 2 (by omega)
  have e3 := hg 3 (by omega)
  have e4 := hg 4 (by omega)
  have e5 := hg 5 (by omega)
  refine xCallW (N := 4) (M2 := m_M_tries) (pc2 := 3) (ls2 := [some (eR 0), some (eI x), some (eI y)]) (st2 := []) (y := m_M_noGuess) (as := [some (eR 0), some (eI x), some (eI y)]) (w2 := ([mW P, eA 0 964 g, eA 0 964 gp, eA 0 964 gt, eA 0 7712 gr, eA 0 1928 gs, eA 0 144 mk, eA 0 24 fr, eA 1 2 kp, eA 0 600 bM, eA 2 6 oM], (0, 0))) rfl (w_Z (z_noGuessY (c := (0, 0)) hg hI hx h1 by_ hh) rfl rfl rfl) ?_
  refine xEqF (N := 1) (x := 1) (y := 0) (A := ev m_M_tries 9 [some (eR 0), some (eI x), some (eI y)] [] ([mW (eUp P 10 1), eA 0 964 g, eA 0 964 gp, eA 0 964 gt, eA 0 7712 gr, eA 0 1928 gs, eA 0 144 mk, eA 0 24 fr, eA 1 2 kp, eA 0 600 bM, eA 2 6 oM], (0, 0))) (B := ev m_M_tries 21 [some (eR 0), some (eI x), some (eI y)] [] ([mW (eUp P 10 1), eA 0 964 g, eA 0 964 gp, eA 0 964 gt, eA 0 7712 gr, eA 0 1928 gs, eA 0 144 mk, eA 0 24 fr, eA 1 2 kp, eA 0 600 bM, eA 2 6 oM], (0, 0))) rfl (show wr 1 = 1 by decide) (show wr 0 = 0 by decide) (by decide) ?_
  refine xRb (N := 2) (v := 0) (w2 := ([mW (eUp P 10 1), eA 0 964 g, eA 0 964 gp, eA 0 964 gt, eA 0 7712 gr, eA 0 1928 gs, eA 0 144 mk, eA 0 24 fr, eA 1 2 kp, eA 0 600 bM, eA 2 6 oM], (0, 0))) rfl (by decide) ?_
  rfl
theorem m_tries1 {P g gp gt gr gs mk fr kp bM oM : Nat → Int} {us : Nat} {a : eRow} {X : xT} {t0 : Int} (h : MR P g gr gs kp bM oM us a X t0) {x y : Int} {k w : Nat} (hx : x = (k : Int)) (h1 : k < a 3) (hy : y = (w : Int)) (h2 : w < a 2) (h0 : rfs (a 4) ((op a k).testBit w) (decide (pc 30 (op a k) = 1)) = 0)  : ∃ gt9 mk9 fr9 : Nat → Int, rg gt9 (gsA a k w) ∧ iA (gsA a k w) ∧ ev m_M_tries 0 [some (eR 0), some (eI x), some (eI y)] [] ([mW P, eA 0 964 g, eA 0 964 gp, eA 0 964 gt, eA 0 7712 gr, eA 0 1928 gs, eA 0 144 mk, eA 0 24 fr, eA 1 2 kp, eA 0 600 bM, eA 2 6 oM], (0, 0)) = some (.inl (some (eI 1)), ([mW (eUp P 10 0), eA 0 964 g, eA 0 964 gp, eA 0 964 gt9, eA 0 7712 gr, eA 0 1928 gs, eA 0 144 mk9, eA 0 24 fr9, eA 1 2 kp, eA 0 600 bM, eA 2 6 oM], (0, 0))) := by
  have h8 := h
  obtain ⟨⟨hg, hI, hB⟩, r2, ⟨r3, r3n, r3b⟩, r4, ⟨r5, r5n, r5b⟩, ⟨p1, p2, p3, p4, p5⟩, r7⟩ := h
  have hI8 := hI
  obtain ⟨hG, ⟨v1, v2⟩, hO, hT, hM⟩ := hI8
  obtain ⟨⟨q1, q2, q3, q4, q5⟩, q6⟩ := hG
  have b5 := iT_24 q5 hT
  have e0 := hg 0 (by omega)
  have e1 := hg 1 (by omega)
  have e2 := hg 2 (by omega)
  have e3 := hg 3 (by omega)
  have e4 := hg 4 (by omega)
  have e5 := hg 5 (by omega)
  obtain ⟨u1, u2, u3⟩ := rfs_0 h0
  have hgt := pc_gt (hO k h1).1 u2 u3
  have hwy := n_why0 hg hx hy (by omega) (hO k h1).1 (by omega) hM.1 h0
  have hcp := n_copyRow (f := g) (h := gt) (c := (0, 0)) (x := 0) (y := 0) (n := 964) (n2 := 964) (I := 0) (J := 0) rfl rfl (by omega) (by omega) (by omega) (by omega)
  have hg8 : rg (cpR g gt 0 0 964) a := fun i hi => by
    have := cpR_in (f := g) (h := gt) (I := 0) (J := 0) (k := 964) hi
    rw [Nat.zero_add] at this
    rw [this]
    exact hg i hi
  generalize cpR g gt 0 0 964 = gt8 at hcp hg8
  obtain ⟨g9, mk9, fr9, hg9, op9⟩ := n_takesGuess (P := eUp P 10 0) (mk := mk) (fr := fr) (c := (0, 0)) hg8 hI hx hy h1 hgt u2
  obtain ⟨b9, hb9⟩ : ∃ b9 : Int, b9 = ((gsA a k w 4 : Nat) : Int) := ⟨_, rfl⟩
  have hM9 := (iA_gs hI h1 hgt u2).2.2.2.2.1
  rw [← hb9] at op9
  refine ⟨g9, mk9, fr9, hg9, iA_gs hI h1 hgt u2, ?_⟩
  refine xCallW (N := 4) (M2 := m_M_tries) (pc2 := 3) (ls2 := [some (eR 0), some (eI x), some (eI y)]) (st2 := []) (y := m_M_noGuess) (as := [some (eR 0), some (eI x), some (eI y)]) (w2 := ([mW P, eA 0 964 g, eA 0 964 gp, eA 0 964 gt, eA 0 7712 gr, eA 0 1928 gs, eA 0 144 mk, eA 0 24 fr, eA 1 2 kp, eA 0 600 bM, eA 2 6 oM], (0, 0))) rfl (w_Z (z_noGuess (c := (0, 0)) hg hI hx h1 hy h2) rfl rfl rfl) ?_
  refine xEqT (N := 1) (x := 0) (y := 0) (A := ev m_M_tries 9 [some (eR 0), some (eI x), some (eI y)] [] ([mW (eUp P 10 0), eA 0 964 g, eA 0 964 gp, eA 0 964 gt, eA 0 7712 gr, eA 0 1928 gs, eA 0 144 mk, eA 0 24 fr, eA 1 2 kp, eA 0 600 bM, eA 2 6 oM], (0, 0))) (B := ev m_M_tries 21 [some (eR 0), some (eI x), some (eI y)] [] ([mW (eUp P 10 0), eA 0 964 g, eA 0 964 gp, eA 0 964 gt, eA 0 7712 gr, eA 0 1928 gs, eA 0 144 mk, eA 0 24 fr, eA 1 2 kp, eA 0 600 bM, eA 2 6 oM], (0, 0))) rfl (show wr 0 = 0 by decide) (show wr 0 = 0 by decide) (by decide) ?_
  refine xCall (N := 5) (M2 := m_M_tries) (pc2 := 15) (ls2 := [some (eR 0), some (eI x), some (eI y)]) (st2 := []) (y := m_M_whyNotGuess) (as := [some (eR 1), some (eI x), some (eI y)]) (w2 := ([mW (eUp P 10 0), eA 0 964 g, eA 0 964 gp, eA 0 964 gt, eA 0 7712 gr, eA 0 1928 gs, eA 0 144 mk, eA 0 24 fr, eA 1 2 kp, eA 0 600 bM, eA 2 6 oM], (0, 0))) rfl (w_g hwy rfl rfl rfl) ?_
  refine xEqT (N := 1) (x := 0) (y := 0) (A := ev m_M_tries 23 [some (eR 0), some (eI x), some (eI y)] [] ([mW (eUp P 10 0), eA 0 964 g, eA 0 964 gp, eA 0 964 gt, eA 0 7712 gr, eA 0 1928 gs, eA 0 144 mk, eA 0 24 fr, eA 1 2 kp, eA 0 600 bM, eA 2 6 oM], (0, 0))) (B := ev m_M_tries 21 [some (eR 0), some (eI x), some (eI y)] [] ([mW (eUp P 10 0), eA 0 964 g, eA 0 964 gp, eA 0 964 gt, eA 0 7712 gr, eA 0 1928 gs, eA 0 144 mk, eA 0 24 fr, eA 1 2 kp, eA 0 600 bM, eA 2 6 oM], (0, 0))) rfl (show wr 0 = 0 by decide) (show wr 0 = 0 by decide) (by decide) ?_
  refine xCallV (N := 7) (M2 := m_M_tries) (pc2 := 33) (ls2 := [some (eR 0), some (eI x), some (eI y)]) (st2 := []) (y := m_M_copyRow) (as := [some (eR 1), some (eI 0), some (eR 3), some (eI 0)]) (w2 := ([mW (eUp P 10 0), eA 0 964 g, eA 0 964 gp, eA 0 964 gt, eA 0 7712 gr, eA 0 1928 gs, eA 0 144 mk, eA 0 24 fr, eA 1 2 kp, eA 0 600 bM, eA 2 6 oM], (0, 0))) rfl (w_cpT hcp rfl rfl rfl) ?_
  refine xCallW (N := 6) (M2 := m_M_tries) (pc2 := 43) (ls2 := [some (eR 0), some (eI x), some (eI y)]) (st2 := []) (y := m_M_takesGuess) (as := [some (eR 0), some (eR 3), some (eI x), some (eI y)]) (w2 := ([mW (eUp P 10 0), eA 0 964 g, eA 0 964 gp, eA 0 964 gt8, eA 0 7712 gr, eA 0 1928 gs, eA 0 144 mk, eA 0 24 fr, eA 1 2 kp, eA 0 600 bM, eA 2 6 oM], (0, 0))) rfl (w_rowT op9 rfl rfl rfl) ?_
  refine xLtF (N := 1) (x := b9) (y := 0) (A := ev m_M_tries 53 [some (eR 0), some (eI x), some (eI y)] [] ([mW (eUp P 10 0), eA 0 964 g, eA 0 964 gp, eA 0 964 g9, eA 0 7712 gr, eA 0 1928 gs, eA 0 144 mk9, eA 0 24 fr9, eA 1 2 kp, eA 0 600 bM, eA 2 6 oM], (0, 0))) (B := ev m_M_tries 49 [some (eR 0), some (eI x), some (eI y)] [] ([mW (eUp P 10 0), eA 0 964 g, eA 0 964 gp, eA 0 964 g9, eA 0 7712 gr, eA 0 1928 gs, eA 0 144 mk9, eA 0 24 fr9, eA 1 2 kp, eA 0 600 bM, eA 2 6 oM], (0, 0))) rfl (wr_id (by omega) (by omega)) (show wr 0 = 0 by decide) (by omega) ?_
  refine xRb (N := 3) (v := 1) (w2 := ([mW (eUp P 10 0), eA 0 964 g, eA 0 964 gp, eA 0 964 g9, eA 0 7712 gr, eA 0 1928 gs, eA 0 144 mk9, eA 0 24 fr9, eA 1 2 kp, eA 0 600 bM, eA 2 6 oM], (0, 0))) rfl (by decide) ?_
  rfl
theorem km_leftAfterN {a : eRow} {X : xT} {x y : Int} {k w : Nat} (hx : x = (k : Int)) (h1 : k < a 3) (hy : y = (w : Int)) (h2 : w < a 2) (h0 : rfs (a 4) ((op a k).testBit w) (decide (pc 30 (op a k) = 1)) ≠ 0) : KM m_M_leftAfter [some (eI x), some (eI y)] a X (a) (X) 0 (-1) := by
  intro P g gp gt gr gs mk fr kp bM oM us t0 h
  have h8 := h
  obtain ⟨⟨hg, hI, hB⟩, r2, ⟨r3, r3n, r3b⟩, r4, ⟨r5, r5n, r5b⟩, ⟨p1, p2, p3, p4, p5⟩, r7⟩ := h
  have hI8 := hI
  obtain ⟨hG, ⟨v1, v2⟩, hO, hT, hM⟩ := hI8
  obtain ⟨⟨q1, q2, q3, q4, q5⟩, q6⟩ := hG
  have b5 := iT_24 q5 hT
  have e0 := hg 0 (by omega)
  have e1 := hg 1 (by omega)
  have e2 := hg 2 (by omega)
  have e3 := hg 3 (by omega)
  have e4 := hg 4 (by omega)
  have e5 := hg 5 (by omega)
  refine ⟨eUp P 10 0, g, gp, gt, gr, gs, mk, fr, kp, bM, oM, us, -1, MR_t h8, fun _ => rfl, ?_⟩
  refine xCallW (N := 4) (M2 := m_M_leftAfter) (pc2 := 3) (ls2 := [some (eR 0), some (eI x), some (eI y)]) (st2 := []) (y := m_M_tries) (as := [some (eR 0), some (eI x), some (eI y)]) (w2 := ([mW P, eA 0 964 g, eA 0 964 gp, eA 0 964 gt, eA 0 7712 gr, eA 0 1928 gs, eA 0 144 mk, eA 0 24 fr, eA 1 2 kp, eA 0 600 bM, eA 2 6 oM], (0, 0))) rfl (m_triesN h8 hx h1 hy h2 h0) ?_
  refine xEqT (N := 4) (x := 0) (y := 0) (A := ev m_M_leftAfter 18 [some (eR 0), some (eI x), some (eI y), some (eI 0)] [] ([mW (eUp P 10 0), eA 0 964 g, eA 0 964 gp, eA 0 964 gt, eA 0 7712 gr, eA 0 1928 gs, eA 0 144 mk, eA 0 24 fr, eA 1 2 kp, eA 0 600 bM, eA 2 6 oM], (0, 0))) (B := ev m_M_leftAfter 14 [some (eR 0), some (eI x), some (eI y), some (eI 0)] [] ([mW (eUp P 10 0), eA 0 964 g, eA 0 964 gp, eA 0 964 gt, eA 0 7712 gr, eA 0 1928 gs, eA 0 144 mk, eA 0 24 fr, eA 1 2 kp, eA 0 600 bM, eA 2 6 oM], (0, 0))) rfl (show wr 0 = 0 by decide) (show wr 0 = 0 by decide) (by decide) ?_
  refine xEqT (N := 2) (x := 0) (y := 0) (A := ev m_M_leftAfter 32 [some (eR 0), some (eI x), some (eI y), some (eI 0)] [] ([mW (eUp P 10 0), eA 0 964 g, eA 0 964 gp, eA 0 964 gt, eA 0 7712 gr, eA 0 1928 gs, eA 0 144 mk, eA 0 24 fr, eA 1 2 kp, eA 0 600 bM, eA 2 6 oM], (0, 0))) (B := ev m_M_leftAfter 22 [some (eR 0), some (eI x), some (eI y), some (eI 0)] [] ([mW (eUp P 10 0), eA 0 964 g, eA 0 964 gp, eA 0 964 gt, eA 0 7712 gr, eA 0 1928 gs, eA 0 144 mk, eA 0 24 fr, eA 1 2 kp, eA 0 600 bM, eA 2 6 oM], (0, 0))) rfl (show wr 0 = 0 by decide) (show wr 0 = 0 by decide) (by decide) ?_
  refine xSeg (N := 2) (r := some (.inl (some (eI (-1))), ([mW (eUp P 10 0), eA 0 964 g, eA 0 964 gp, eA 0 964 gt, eA 0 7712 gr, eA 0 1928 gs, eA 0 144 mk, eA 0 24 fr, eA 1 2 kp, eA 0 600 bM, eA 2 6 oM], (0, 0)))) rfl ?_
  rfl
theorem km_leftAfterX {a : eRow} {X : xT} {x y : Int} (bx : -2147483648 ≤ x ∧ x < 2147483648) (hh : ¬ (0 ≤ x ∧ x < (a 3 : Int))) : KM m_M_leftAfter [some (eI x), some (eI y)] a X (a) (X) 1 (0) := by
  intro P g gp gt gr gs mk fr kp bM oM us t0 h
  have h8 := h
  obtain ⟨⟨hg, hI, hB⟩, r2, ⟨r3, r3n, r3b⟩, r4, ⟨r5, r5n, r5b⟩, ⟨p1, p2, p3, p4, p5⟩, r7⟩ := h
  have hI8 := hI
  obtain ⟨hG, ⟨v1, v2⟩, hO, hT, hM⟩ := hI8
  obtain ⟨⟨q1, q2, q3, q4, q5⟩, q6⟩ := hG
  have b5 := iT_24 q5 hT
  have e0 := hg 0 (by omega)
  have e1 := hg 1 (by omega)
  have e2 := hg 2 (by omega)
  have e3 := hg 3 (by omega)
  have e4 := hg 4 (by omega)
  have e5 := hg 5 (by omega)
  refine ⟨eUp P 10 1, g, gp, gt, gr, gs, mk, fr, kp, bM, oM, us, 0, MR_t h8, fun _ => rfl, ?_⟩
  refine xCallW (N := 4) (M2 := m_M_leftAfter) (pc2 := 3) (ls2 := [some (eR 0), some (eI x), some (eI y)]) (st2 := []) (y := m_M_tries) (as := [some (eR 0), some (eI x), some (eI y)]) (w2 := ([mW P, eA 0 964 g, eA 0 964 gp, eA 0 964 gt, eA 0 7712 gr, eA 0 1928 gs, eA 0 144 mk, eA 0 24 fr, eA 1 2 kp, eA 0 600 bM, eA 2 6 oM], (0, 0))) rfl (m_triesX h8 bx hh) ?_
  refine xEqF (N := 4) (x := 1) (y := 0) (A := ev m_M_leftAfter 18 [some (eR 0), some (eI x), some (eI y), some (eI 0)] [] ([mW (eUp P 10 1), eA 0 964 g, eA 0 964 gp, eA 0 964 gt, eA 0 7712 gr, eA 0 1928 gs, eA 0 144 mk, eA 0 24 fr, eA 1 2 kp, eA 0 600 bM, eA 2 6 oM], (0, 0))) (B := ev m_M_leftAfter 14 [some (eR 0), some (eI x), some (eI y), some (eI 0)] [] ([mW (eUp P 10 1), eA 0 964 g, eA 0 964 gp, eA 0 964 gt, eA 0 7712 gr, eA 0 1928 gs, eA 0 144 mk, eA 0 24 fr, eA 1 2 kp, eA 0 600 bM, eA 2 6 oM], (0, 0))) rfl (show wr 1 = 1 by decide) (show wr 0 = 0 by decide) (by decide) ?_
  refine xSeg (N := 3) (r := some (.inl (some (eI 0)), ([mW (eUp P 10 1), eA 0 964 g, eA 0 964 gp, eA 0 964 gt, eA 0 7712 gr, eA 0 1928 gs, eA 0 144 mk, eA 0 24 fr, eA 1 2 kp, eA 0 600 bM, eA 2 6 oM], (0, 0)))) rfl ?_
  rfl
theorem km_leftAfterY {a : eRow} {X : xT} {x y : Int} {k : Nat} (hx : x = (k : Int)) (h1 : k < a 3) (by_ : -2147483648 ≤ y ∧ y < 2147483648) (hh : ¬ (0 ≤ y ∧ y < (a 2 : Int))) : KM m_M_leftAfter [some (eI x), some (eI y)] a X (a) (X) 1 (0) := by
  intro P g gp gt gr gs mk fr kp bM oM us t0 h
  have h8 := h
  obtain ⟨⟨hg, hI, hB⟩, r2, ⟨r3, r3n, r3b⟩, r4, ⟨r5, r5n, r5b⟩, ⟨p1, p2, p3, p4, p5⟩, r7⟩ := h
  have hI8 := hI
  obtain ⟨hG, ⟨v1, v2⟩, hO, hT, hM⟩ := hI8
  obtain ⟨⟨q1, q2, q3, q4, q5⟩, q6⟩ := hG
  have b5 := iT_24 q5 hT
  have e0 := hg 0 (by omega)
  have e1 := hg 1 (by omega)
  have e2 := hg 2 (by omega)
  have e3 := hg 3 (by omega)
  have e4 := hg 4 (by omega)
  have e5 := hg 5 (by omega)
  refine ⟨eUp P 10 1, g, gp, gt, gr, gs, mk, fr, kp, bM, oM, us, 0, MR_t h8, fun _ => rfl, ?_⟩
  refine xCallW (N := 4) (M2 := m_M_leftAfter) (pc2 := 3) (ls2 := [some (eR 0), some (eI x), some (eI y)]) (st2 := []) (y := m_M_tries) (as := [some (eR 0), some (eI x), some (eI y)]) (w2 := ([mW P, eA 0 964 g, eA 0 964 gp, eA 0 964 gt, eA 0 7712 gr, eA 0 1928 gs, eA 0 144 mk, eA 0 24 fr, eA 1 2 kp, eA 0 600 bM, eA 2 6 oM], (0, 0))) rfl (m_triesY h8 hx h1 by_ hh) ?_
  refine xEqF (N := 4) (x := 1) (y := 0) (A := ev m_M_leftAfter 18 [some (eR 0), some (eI x), some (eI y), some (eI 0)] [] ([mW (eUp P 10 1), eA 0 964 g, eA 0 964 gp, eA 0 964 gt, eA 0 7712 gr, eA 0 1928 gs, eA 0 144 mk, eA 0 24 fr, eA 1 2 kp, eA 0 600 bM, eA 2 6 oM], (0, 0))) (B := ev m_M_leftAfter 14 [some (eR 0), some (eI x), some (eI y), some (eI 0)] [] ([mW (eUp P 10 1), eA 0 964 g, eA 0 964 gp, eA 0 964 gt, eA 0 7712 gr, eA 0 1928 gs, eA 0 144 mk, eA 0 24 fr, eA 1 2 kp, eA 0 600 bM, eA 2 6 oM], (0, 0))) rfl (show wr 1 = 1 by decide) (show wr 0 = 0 by decide) (by decide) ?_
  refine xSeg (N := 3) (r := some (.inl (some (eI 0)), ([mW (eUp P 10 1), eA 0 964 g, eA 0 964 gp, eA 0 964 gt, eA 0 7712 gr, eA 0 1928 gs, eA 0 144 mk, eA 0 24 fr, eA 1 2 kp, eA 0 600 bM, eA 2 6 oM], (0, 0)))) rfl ?_
  rfl
theorem km_leftAfter {a : eRow} {X : xT} {x y : Int} {k w : Nat} (hx : x = (k : Int)) (h1 : k < a 3) (hy : y = (w : Int)) (h2 : w < a 2) (h0 : rfs (a 4) ((op a k).testBit w) (decide (pc 30 (op a k) = 1)) = 0) : KM m_M_leftAfter [some (eI x), some (eI y)] a X (a) (X) 0 (((fb_sm (fun k2 => pc 30 (op (gsA a k w) k2)) (gsA a k w 3) : Nat) : Int)) := by
  intro P g gp gt gr gs mk fr kp bM oM us t0 h
  have h8 := h
  obtain ⟨⟨hg, hI, hB⟩, r2, ⟨r3, r3n, r3b⟩, r4, ⟨r5, r5n, r5b⟩, ⟨p1, p2, p3, p4, p5⟩, r7⟩ := h
  have hI8 := hI
  obtain ⟨hG, ⟨v1, v2⟩, hO, hT, hM⟩ := hI8
  obtain ⟨⟨q1, q2, q3, q4, q5⟩, q6⟩ := hG
  have b5 := iT_24 q5 hT
  have e0 := hg 0 (by omega)
  have e1 := hg 1 (by omega)
  have e2 := hg 2 (by omega)
  have e3 := hg 3 (by omega)
  have e4 := hg 4 (by omega)
  have e5 := hg 5 (by omega)
  obtain ⟨gt9, mk9, fr9, hg9, hI9, t9⟩ := m_tries1 (gp := gp) (gt := gt) (mk := mk) (fr := fr) h8 hx h1 hy h2 h0
  have hI8 := hI9
  obtain ⟨hG9, hV9, hO9, hT9, hM9⟩ := hI8
  have e39 := hg9 3 (by omega)
  have e49 := hg9 4 (by omega)
  have q59 := hG9.1.2.2.2.2
  have m49 := hM9.1
  have lf9 := n_left (c := (0, 0)) hg9 q59 (fun k hk => (hO9 k hk).1)
  generalize ((fb_sm (fun k2 => pc 30 (op (gsA a k w) k2)) (gsA a k w 3) : Nat) : Int) = b9 at lf9 ⊢
  refine ⟨eUp P 10 0, g, gp, gt9, gr, gs, mk9, fr9, kp, bM, oM, us, b9, MR_t h8, fun _ => rfl, ?_⟩
  refine xCallW (N := 4) (M2 := m_M_leftAfter) (pc2 := 3) (ls2 := [some (eR 0), some (eI x), some (eI y)]) (st2 := []) (y := m_M_tries) (as := [some (eR 0), some (eI x), some (eI y)]) (w2 := ([mW P, eA 0 964 g, eA 0 964 gp, eA 0 964 gt, eA 0 7712 gr, eA 0 1928 gs, eA 0 144 mk, eA 0 24 fr, eA 1 2 kp, eA 0 600 bM, eA 2 6 oM], (0, 0))) rfl t9 ?_
  refine xEqT (N := 4) (x := 0) (y := 0) (A := ev m_M_leftAfter 18 [some (eR 0), some (eI x), some (eI y), some (eI 1)] [] ([mW (eUp P 10 0), eA 0 964 g, eA 0 964 gp, eA 0 964 gt9, eA 0 7712 gr, eA 0 1928 gs, eA 0 144 mk9, eA 0 24 fr9, eA 1 2 kp, eA 0 600 bM, eA 2 6 oM], (0, 0))) (B := ev m_M_leftAfter 14 [some (eR 0), some (eI x), some (eI y), some (eI 1)] [] ([mW (eUp P 10 0), eA 0 964 g, eA 0 964 gp, eA 0 964 gt9, eA 0 7712 gr, eA 0 1928 gs, eA 0 144 mk9, eA 0 24 fr9, eA 1 2 kp, eA 0 600 bM, eA 2 6 oM], (0, 0))) rfl (show wr 0 = 0 by decide) (show wr 0 = 0 by decide) (by decide) ?_
  refine xEqF (N := 2) (x := 1) (y := 0) (A := ev m_M_leftAfter 32 [some (eR 0), some (eI x), some (eI y), some (eI 1)] [] ([mW (eUp P 10 0), eA 0 964 g, eA 0 964 gp, eA 0 964 gt9, eA 0 7712 gr, eA 0 1928 gs, eA 0 144 mk9, eA 0 24 fr9, eA 1 2 kp, eA 0 600 bM, eA 2 6 oM], (0, 0))) (B := ev m_M_leftAfter 22 [some (eR 0), some (eI x), some (eI y), some (eI 1)] [] ([mW (eUp P 10 0), eA 0 964 g, eA 0 964 gp, eA 0 964 gt9, eA 0 7712 gr, eA 0 1928 gs, eA 0 144 mk9, eA 0 24 fr9, eA 1 2 kp, eA 0 600 bM, eA 2 6 oM], (0, 0))) rfl (show wr 1 = 1 by decide) (show wr 0 = 0 by decide) (by decide) ?_
  refine xCall (N := 3) (M2 := m_M_leftAfter) (pc2 := 26) (ls2 := [some (eR 0), some (eI x), some (eI y), some (eI 1)]) (st2 := []) (y := m_M_left) (as := [some (eR 3)]) (w2 := ([mW (eUp P 10 0), eA 0 964 g, eA 0 964 gp, eA 0 964 gt9, eA 0 7712 gr, eA 0 1928 gs, eA 0 144 mk9, eA 0 24 fr9, eA 1 2 kp, eA 0 600 bM, eA 2 6 oM], (0, 0))) rfl (w_gt lf9 rfl rfl rfl) ?_
  refine xSeg (N := 2) (r := some (.inl (some (eI b9)), ([mW (eUp P 10 0), eA 0 964 g, eA 0 964 gp, eA 0 964 gt9, eA 0 7712 gr, eA 0 1928 gs, eA 0 144 mk9, eA 0 24 fr9, eA 1 2 kp, eA 0 600 bM, eA 2 6 oM], (0, 0)))) rfl ?_
  rfl
theorem km_wouldStickN {a : eRow} {X : xT} {x y : Int} {k w : Nat} (hx : x = (k : Int)) (h1 : k < a 3) (hy : y = (w : Int)) (h2 : w < a 2) (h0 : rfs (a 4) ((op a k).testBit w) (decide (pc 30 (op a k) = 1)) ≠ 0) : KM m_M_wouldStick [some (eI x), some (eI y)] a X (a) (X) 0 (0) := by
  intro P g gp gt gr gs mk fr kp bM oM us t0 h
  have h8 := h
  obtain ⟨⟨hg, hI, hB⟩, r2, ⟨r3, r3n, r3b⟩, r4, ⟨r5, r5n, r5b⟩, ⟨p1, p2, p3, p4, p5⟩, r7⟩ := h
  have hI8 := hI
  obtain ⟨hG, ⟨v1, v2⟩, hO, hT, hM⟩ := hI8
  obtain ⟨⟨q1, q2, q3, q4, q5⟩, q6⟩ := hG
  have b5 := iT_24 q5 hT
  have e0 := hg 0 (by omega)
  have e1 := hg 1 (by omega)
  have e2 := hg 2 (by omega)
  have e3 := hg 3 (by omega)
  have e4 := hg 4 (by omega)
  have e5 := hg 5 (by omega)
  refine ⟨eUp P 10 0, g, gp, gt, gr, gs, mk, fr, kp, bM, oM, us, 0, MR_t h8, fun _ => rfl, ?_⟩
  refine xCallW (N := 4) (M2 := m_M_wouldStick) (pc2 := 3) (ls2 := [some (eR 0), some (eI x), some (eI y)]) (st2 := []) (y := m_M_tries) (as := [some (eR 0), some (eI x), some (eI y)]) (w2 := ([mW P, eA 0 964 g, eA 0 964 gp, eA 0 964 gt, eA 0 7712 gr, eA 0 1928 gs, eA 0 144 mk, eA 0 24 fr, eA 1 2 kp, eA 0 600 bM, eA 2 6 oM], (0, 0))) rfl (m_triesN h8 hx h1 hy h2 h0) ?_
  refine xEqT (N := 1) (x := 0) (y := 0) (A := ev m_M_wouldStick 23 [some (eR 0), some (eI x), some (eI y)] [] ([mW (eUp P 10 0), eA 0 964 g, eA 0 964 gp, eA 0 964 gt, eA 0 7712 gr, eA 0 1928 gs, eA 0 144 mk, eA 0 24 fr, eA 1 2 kp, eA 0 600 bM, eA 2 6 oM], (0, 0))) (B := ev m_M_wouldStick 9 [some (eR 0), some (eI x), some (eI y)] [] ([mW (eUp P 10 0), eA 0 964 g, eA 0 964 gp, eA 0 964 gt, eA 0 7712 gr, eA 0 1928 gs, eA 0 144 mk, eA 0 24 fr, eA 1 2 kp, eA 0 600 bM, eA 2 6 oM], (0, 0))) rfl (show wr 0 = 0 by decide) (show wr 0 = 0 by decide) (by decide) ?_
  refine xRb (N := 2) (v := 0) (w2 := ([mW (eUp P 10 0), eA 0 964 g, eA 0 964 gp, eA 0 964 gt, eA 0 7712 gr, eA 0 1928 gs, eA 0 144 mk, eA 0 24 fr, eA 1 2 kp, eA 0 600 bM, eA 2 6 oM], (0, 0))) rfl (by decide) ?_
  rfl
theorem km_wouldStickX {a : eRow} {X : xT} {x y : Int} (bx : -2147483648 ≤ x ∧ x < 2147483648) (hh : ¬ (0 ≤ x ∧ x < (a 3 : Int))) : KM m_M_wouldStick [some (eI x), some (eI y)] a X (a) (X) 1 (0) := by
  intro P g gp gt gr gs mk fr kp bM oM us t0 h
  have h8 := h
  obtain ⟨⟨hg, hI, hB⟩, r2, ⟨r3, r3n, r3b⟩, r4, ⟨r5, r5n, r5b⟩, ⟨p1, p2, p3, p4, p5⟩, r7⟩ := h
  have hI8 := hI
  obtain ⟨hG, ⟨v1, v2⟩, hO, hT, hM⟩ := hI8
  obtain ⟨⟨q1, q2, q3, q4, q5⟩, q6⟩ := hG
  have b5 := iT_24 q5 hT
  have e0 := hg 0 (by omega)
  have e1 := hg 1 (by omega)
  have e2 := hg 2 (by omega)
  have e3 := hg 3 (by omega)
  have e4 := hg 4 (by omega)
  have e5 := hg 5 (by omega)
  refine ⟨eUp P 10 1, g, gp, gt, gr, gs, mk, fr, kp, bM, oM, us, 0, MR_t h8, fun _ => rfl, ?_⟩
  refine xCallW (N := 4) (M2 := m_M_wouldStick) (pc2 := 3) (ls2 := [some (eR 0), some (eI x), some (eI y)]) (st2 := []) (y := m_M_tries) (as := [some (eR 0), some (eI x), some (eI y)]) (w2 := ([mW P, eA 0 964 g, eA 0 964 gp, eA 0 964 gt, eA 0 7712 gr, eA 0 1928 gs, eA 0 144 mk, eA 0 24 fr, eA 1 2 kp, eA 0 600 bM, eA 2 6 oM], (0, 0))) rfl (m_triesX h8 bx hh) ?_
  refine xEqT (N := 1) (x := 0) (y := 0) (A := ev m_M_wouldStick 23 [some (eR 0), some (eI x), some (eI y)] [] ([mW (eUp P 10 1), eA 0 964 g, eA 0 964 gp, eA 0 964 gt, eA 0 7712 gr, eA 0 1928 gs, eA 0 144 mk, eA 0 24 fr, eA 1 2 kp, eA 0 600 bM, eA 2 6 oM], (0, 0))) (B := ev m_M_wouldStick 9 [some (eR 0), some (eI x), some (eI y)] [] ([mW (eUp P 10 1), eA 0 964 g, eA 0 964 gp, eA 0 964 gt, eA 0 7712 gr, eA 0 1928 gs, eA 0 144 mk, eA 0 24 fr, eA 1 2 kp, eA 0 600 bM, eA 2 6 oM], (0, 0))) rfl (show wr 0 = 0 by decide) (show wr 0 = 0 by decide) (by decide) ?_
  refine xRb (N := 2) (v := 0) (w2 := ([mW (eUp P 10 1), eA 0 964 g, eA 0 964 gp, eA 0 964 gt, eA 0 7712 gr, eA 0 1928 gs, eA 0 144 mk, eA 0 24 fr, eA 1 2 kp, eA 0 600 bM, eA 2 6 oM], (0, 0))) rfl (by decide) ?_
  rfl
theorem km_wouldStickY {a : eRow} {X : xT} {x y : Int} {k : Nat} (hx : x = (k : Int)) (h1 : k < a 3) (by_ : -2147483648 ≤ y ∧ y < 2147483648) (hh : ¬ (0 ≤ y ∧ y < (a 2 : Int))) : KM m_M_wouldStick [some (eI x), some (eI y)] a X (a) (X) 1 (0) := by
  intro P g gp gt gr gs mk fr kp bM oM us t0 h
  have h8 := h
  obtain ⟨⟨hg, hI, hB⟩, r2, ⟨r3, r3n, r3b⟩, r4, ⟨r5, r5n, r5b⟩, ⟨p1, p2, p3, p4, p5⟩, r7⟩ := h
  have hI8 := hI
  obtain ⟨hG, ⟨v1, v2⟩, hO, hT, hM⟩ := hI8
  obtain ⟨⟨q1, q2, q3, q4, q5⟩, q6⟩ := hG
  have b5 := iT_24 q5 hT
  have e0 := hg 0 (by omega)
  have e1 := hg 1 (by omega)
  have e2 := hg 2 (by omega)
  have e3 := hg 3 (by omega)
  have e4 := hg 4 (by omega)
  have e5 := hg 5 (by omega)
  refine ⟨eUp P 10 1, g, gp, gt, gr, gs, mk, fr, kp, bM, oM, us, 0, MR_t h8, fun _ => rfl, ?_⟩
  refine xCallW (N := 4) (M2 := m_M_wouldStick) (pc2 := 3) (ls2 := [some (eR 0), some (eI x), some (eI y)]) (st2 := []) (y := m_M_tries) (as := [some (eR 0), some (eI x), some (eI y)]) (w2 := ([mW P, eA 0 964 g, eA 0 964 gp, eA 0 964 gt, eA 0 7712 gr, eA 0 1928 gs, eA 0 144 mk, eA 0 24 fr, eA 1 2 kp, eA 0 600 bM, eA 2 6 oM], (0, 0))) rfl (m_triesY h8 hx h1 by_ hh) ?_
  refine xEqT (N := 1) (x := 0) (y := 0) (A := ev m_M_wouldStick 23 [some (eR 0), some (eI x), some (eI y)] [] ([mW (eUp P 10 1), eA 0 964 g, eA 0 964 gp, eA 0 964 gt, eA 0 7712 gr, eA 0 1928 gs, eA 0 144 mk, eA 0 24 fr, eA 1 2 kp, eA 0 600 bM, eA 2 6 oM], (0, 0))) (B := ev m_M_wouldStick 9 [some (eR 0), some (eI x), some (eI y)] [] ([mW (eUp P 10 1), eA 0 964 g, eA 0 964 gp, eA 0 964 gt, eA 0 7712 gr, eA 0 1928 gs, eA 0 144 mk, eA 0 24 fr, eA 1 2 kp, eA 0 600 bM, eA 2 6 oM], (0, 0))) rfl (show wr 0 = 0 by decide) (show wr 0 = 0 by decide) (by decide) ?_
  refine xRb (N := 2) (v := 0) (w2 := ([mW (eUp P 10 1), eA 0 964 g, eA 0 964 gp, eA 0 964 gt, eA 0 7712 gr, eA 0 1928 gs, eA 0 144 mk, eA 0 24 fr, eA 1 2 kp, eA 0 600 bM, eA 2 6 oM], (0, 0))) rfl (by decide) ?_
  rfl
theorem km_wouldStick1 {a : eRow} {X : xT} {x y : Int} {k w : Nat} (hx : x = (k : Int)) (h1 : k < a 3) (hy : y = (w : Int)) (h2 : w < a 2) (h0 : rfs (a 4) ((op a k).testBit w) (decide (pc 30 (op a k) = 1)) = 0) (h4 : gsA a k w 4 = 2) : KM m_M_wouldStick [some (eI x), some (eI y)] a X (a) (X) 0 (1) := by
  intro P g gp gt gr gs mk fr kp bM oM us t0 h
  have h8 := h
  obtain ⟨⟨hg, hI, hB⟩, r2, ⟨r3, r3n, r3b⟩, r4, ⟨r5, r5n, r5b⟩, ⟨p1, p2, p3, p4, p5⟩, r7⟩ := h
  have hI8 := hI
  obtain ⟨hG, ⟨v1, v2⟩, hO, hT, hM⟩ := hI8
  obtain ⟨⟨q1, q2, q3, q4, q5⟩, q6⟩ := hG
  have b5 := iT_24 q5 hT
  have e0 := hg 0 (by omega)
  have e1 := hg 1 (by omega)
  have e2 := hg 2 (by omega)
  have e3 := hg 3 (by omega)
  have e4 := hg 4 (by omega)
  have e5 := hg 5 (by omega)
  obtain ⟨gt9, mk9, fr9, hg9, hI9, t9⟩ := m_tries1 (gp := gp) (gt := gt) (mk := mk) (fr := fr) h8 hx h1 hy h2 h0
  have hI8 := hI9
  obtain ⟨hG9, hV9, hO9, hT9, hM9⟩ := hI8
  have e39 := hg9 3 (by omega)
  have e49 := hg9 4 (by omega)
  have q59 := hG9.1.2.2.2.2
  have m49 := hM9.1
  refine ⟨eUp P 10 0, g, gp, gt9, gr, gs, mk9, fr9, kp, bM, oM, us, 1, MR_t h8, fun _ => rfl, ?_⟩
  refine xCallW (N := 4) (M2 := m_M_wouldStick) (pc2 := 3) (ls2 := [some (eR 0), some (eI x), some (eI y)]) (st2 := []) (y := m_M_tries) (as := [some (eR 0), some (eI x), some (eI y)]) (w2 := ([mW P, eA 0 964 g, eA 0 964 gp, eA 0 964 gt, eA 0 7712 gr, eA 0 1928 gs, eA 0 144 mk, eA 0 24 fr, eA 1 2 kp, eA 0 600 bM, eA 2 6 oM], (0, 0))) rfl t9 ?_
  refine xEqF (N := 1) (x := 1) (y := 0) (A := ev m_M_wouldStick 23 [some (eR 0), some (eI x), some (eI y)] [] ([mW (eUp P 10 0), eA 0 964 g, eA 0 964 gp, eA 0 964 gt9, eA 0 7712 gr, eA 0 1928 gs, eA 0 144 mk9, eA 0 24 fr9, eA 1 2 kp, eA 0 600 bM, eA 2 6 oM], (0, 0))) (B := ev m_M_wouldStick 9 [some (eR 0), some (eI x), some (eI y)] [] ([mW (eUp P 10 0), eA 0 964 g, eA 0 964 gp, eA 0 964 gt9, eA 0 7712 gr, eA 0 1928 gs, eA 0 144 mk9, eA 0 24 fr9, eA 1 2 kp, eA 0 600 bM, eA 2 6 oM], (0, 0))) rfl (show wr 1 = 1 by decide) (show wr 0 = 0 by decide) (by decide) ?_
  refine xLd (N := 4) (n := 964) (i := 4) (F := fun zq => ev m_M_wouldStick 15 [some (eR 0), some (eI x), some (eI y)] [eI (gt9 zq)] ([mW (eUp P 10 0), eA 0 964 g, eA 0 964 gp, eA 0 964 gt9, eA 0 7712 gr, eA 0 1928 gs, eA 0 144 mk9, eA 0 24 fr9, eA 1 2 kp, eA 0 600 bM, eA 2 6 oM], (0, 0))) (k := 4) rfl (show wr 4 = ((4 : Nat) : Int) by decide) (by omega) ?_
  refine xEqT (N := 2) (x := gt9 4) (y := 2) (A := ev m_M_wouldStick 19 [some (eR 0), some (eI x), some (eI y)] [] ([mW (eUp P 10 0), eA 0 964 g, eA 0 964 gp, eA 0 964 gt9, eA 0 7712 gr, eA 0 1928 gs, eA 0 144 mk9, eA 0 24 fr9, eA 1 2 kp, eA 0 600 bM, eA 2 6 oM], (0, 0))) (B := ev m_M_wouldStick 23 [some (eR 0), some (eI x), some (eI y)] [] ([mW (eUp P 10 0), eA 0 964 g, eA 0 964 gp, eA 0 964 gt9, eA 0 7712 gr, eA 0 1928 gs, eA 0 144 mk9, eA 0 24 fr9, eA 1 2 kp, eA 0 600 bM, eA 2 6 oM], (0, 0))) rfl (wr_id (by omega) (by omega)) (show wr 2 = 2 by decide) (by omega) ?_
  refine xRb (N := 3) (v := 1) (w2 := ([mW (eUp P 10 0), eA 0 964 g, eA 0 964 gp, eA 0 964 gt9, eA 0 7712 gr, eA 0 1928 gs, eA 0 144 mk9, eA 0 24 fr9, eA 1 2 kp, eA 0 600 bM, eA 2 6 oM], (0, 0))) rfl (by decide) ?_
  rfl
theorem km_wouldStick0 {a : eRow} {X : xT} {x y : Int} {k w : Nat} (hx : x = (k : Int)) (h1 : k < a 3) (hy : y = (w : Int)) (h2 : w < a 2) (h0 : rfs (a 4) ((op a k).testBit w) (decide (pc 30 (op a k) = 1)) = 0) (h4 : gsA a k w 4 ≠ 2) : KM m_M_wouldStick [some (eI x), some (eI y)] a X (a) (X) 0 (0) := by
  intro P g gp gt gr gs mk fr kp bM oM us t0 h
  have h8 := h
  obtain ⟨⟨hg, hI, hB⟩, r2, ⟨r3, r3n, r3b⟩, r4, ⟨r5, r5n, r5b⟩, ⟨p1, p2, p3, p4, p5⟩, r7⟩ := h
  have hI8 := hI
  obtain ⟨hG, ⟨v1, v2⟩, hO, hT, hM⟩ := hI8
  obtain ⟨⟨q1, q2, q3, q4, q5⟩, q6⟩ := hG
  have b5 := iT_24 q5 hT
  have e0 := hg 0 (by omega)
  have e1 := hg 1 (by omega)
  have e2 := hg 2 (by omega)
  have e3 := hg 3 (by omega)
  have e4 := hg 4 (by omega)
  have e5 := hg 5 (by omega)
  obtain ⟨gt9, mk9, fr9, hg9, hI9, t9⟩ := m_tries1 (gp := gp) (gt := gt) (mk := mk) (fr := fr) h8 hx h1 hy h2 h0
  have hI8 := hI9
  obtain ⟨hG9, hV9, hO9, hT9, hM9⟩ := hI8
  have e39 := hg9 3 (by omega)
  have e49 := hg9 4 (by omega)
  have q59 := hG9.1.2.2.2.2
  have m49 := hM9.1
  refine ⟨eUp P 10 0, g, gp, gt9, gr, gs, mk9, fr9, kp, bM, oM, us, 0, MR_t h8, fun _ => rfl, ?_⟩
  refine xCallW (N := 4) (M2 := m_M_wouldStick) (pc2 := 3) (ls2 := [some (eR 0), some (eI x), some (eI y)]) (st2 := []) (y := m_M_tries) (as := [some (eR 0), some (eI x), some (eI y)]) (w2 := ([mW P, eA 0 964 g, eA 0 964 gp, eA 0 964 gt, eA 0 7712 gr, eA 0 1928 gs, eA 0 144 mk, eA 0 24 fr, eA 1 2 kp, eA 0 600 bM, eA 2 6 oM], (0, 0))) rfl t9 ?_
  refine xEqF (N := 1) (x := 1) (y := 0) (A := ev m_M_wouldStick 23 [some (eR 0), some (eI x), some (eI y)] [] ([mW (eUp P 10 0), eA 0 964 g, eA 0 964 gp, eA 0 964 gt9, eA 0 7712 gr, eA 0 1928 gs, eA 0 144 mk9, eA 0 24 fr9, eA 1 2 kp, eA 0 600 bM, eA 2 6 oM], (0, 0))) (B := ev m_M_wouldStick 9 [some (eR 0), some (eI x), some (eI y)] [] ([mW (eUp P 10 0), eA 0 964 g, eA 0 964 gp, eA 0 964 gt9, eA 0 7712 gr, eA 0 1928 gs, eA 0 144 mk9, eA 0 24 fr9, eA 1 2 kp, eA 0 600 bM, eA 2 6 oM], (0, 0))) rfl (show wr 1 = 1 by decide) (show wr 0 = 0 by decide) (by decide) ?_
  refine xLd (N := 4) (n := 964) (i := 4) (F := fun zq => ev m_M_wouldStick 15 [some (eR 0), some (eI x), some (eI y)] [eI (gt9 zq)] ([mW (eUp P 10 0), eA 0 964 g, eA 0 964 gp, eA 0 964 gt9, eA 0 7712 gr, eA 0 1928 gs, eA 0 144 mk9, eA 0 24 fr9, eA 1 2 kp, eA 0 600 bM, eA 2 6 oM], (0, 0))) (k := 4) rfl (show wr 4 = ((4 : Nat) : Int) by decide) (by omega) ?_
  refine xEqF (N := 2) (x := gt9 4) (y := 2) (A := ev m_M_wouldStick 19 [some (eR 0), some (eI x), some (eI y)] [] ([mW (eUp P 10 0), eA 0 964 g, eA 0 964 gp, eA 0 964 gt9, eA 0 7712 gr, eA 0 1928 gs, eA 0 144 mk9, eA 0 24 fr9, eA 1 2 kp, eA 0 600 bM, eA 2 6 oM], (0, 0))) (B := ev m_M_wouldStick 23 [some (eR 0), some (eI x), some (eI y)] [] ([mW (eUp P 10 0), eA 0 964 g, eA 0 964 gp, eA 0 964 gt9, eA 0 7712 gr, eA 0 1928 gs, eA 0 144 mk9, eA 0 24 fr9, eA 1 2 kp, eA 0 600 bM, eA 2 6 oM], (0, 0))) rfl (wr_id (by omega) (by omega)) (show wr 2 = 2 by decide) (by omega) ?_
  refine xRb (N := 2) (v := 0) (w2 := ([mW (eUp P 10 0), eA 0 964 g, eA 0 964 gp, eA 0 964 gt9, eA 0 7712 gr, eA 0 1928 gs, eA 0 144 mk9, eA 0 24 fr9, eA 1 2 kp, eA 0 600 bM, eA 2 6 oM], (0, 0))) rfl (by decide) ?_
  rfl
theorem km_stepsToEnd {a : eRow} {X : xT} (h5 : cnS (sv 200 a) = false) : KM m_M_stepsToEnd [] a X (a) (X) 0 (((svc 200 a : Nat) : Int)) := by
  intro P g gp gt gr gs mk fr kp bM oM us t0 h
  have h8 := h
  obtain ⟨⟨hg, hI, hB⟩, r2, ⟨r3, r3n, r3b⟩, r4, ⟨r5, r5n, r5b⟩, ⟨p1, p2, p3, p4, p5⟩, r7⟩ := h
  have hI8 := hI
  obtain ⟨hG, ⟨v1, v2⟩, hO, hT, hM⟩ := hI8
  obtain ⟨⟨q1, q2, q3, q4, q5⟩, q6⟩ := hG
  have b5 := iT_24 q5 hT
  have e0 := hg 0 (by omega)
  have e1 := hg 1 (by omega)
  have e2 := hg 2 (by omega)
  have e3 := hg 3 (by omega)
  have e4 := hg 4 (by omega)
  have e5 := hg 5 (by omega)
  have hcp := n_copyRow (f := g) (h := gt) (c := (0, 0)) (x := 0) (y := 0) (n := 964) (n2 := 964) (I := 0) (J := 0) rfl rfl (by omega) (by omega) (by omega) (by omega)
  have hg8 : rg (cpR g gt 0 0 964) a := fun i hi => by
    have := cpR_in (f := g) (h := gt) (I := 0) (J := 0) (k := 964) hi
    rw [Nat.zero_add] at this
    rw [this]
    exact hg i hi
  generalize cpR g gt 0 0 964 = gt8 at hcp hg8
  obtain ⟨g9, mk9, fr9, hg9, op9⟩ := n_solves0 (P := eUp P 10 0) (mk := mk) (fr := fr) (c := (0, 0)) (x := 200) (m := 200) hg8 hI rfl (by omega)
  have hI9 : iA (sv 200 a) := iA_sv hI
  have hI8 := hI9
  obtain ⟨hG9, hV9, hO9, hT9, hM9⟩ := hI8
  have e49 := hg9 4 (by omega)
  have q59 := hG9.1.2.2.2.2
  obtain ⟨b9, hb9⟩ : ∃ b9 : Int, b9 = ((svc 200 a : Nat) : Int) := ⟨_, rfl⟩
  rw [← hb9] at op9
  refine ⟨eUp P 10 0, g, gp, g9, gr, gs, mk9, fr9, kp, bM, oM, us, b9, MR_t h8, fun _ => hb9, ?_⟩
  refine xCallV (N := 10) (M2 := m_M_stepsToEnd) (pc2 := 15) (ls2 := [some (eR 0)]) (st2 := []) (y := m_M_copyRow) (as := [some (eR 1), some (eI 0), some (eR 3), some (eI 0)]) (w2 := ([mW (eUp P 10 0), eA 0 964 g, eA 0 964 gp, eA 0 964 gt, eA 0 7712 gr, eA 0 1928 gs, eA 0 144 mk, eA 0 24 fr, eA 1 2 kp, eA 0 600 bM, eA 2 6 oM], (0, 0))) rfl (w_cpT hcp rfl rfl rfl) ?_
  refine xCallW (N := 5) (M2 := m_M_stepsToEnd) (pc2 := 26) (ls2 := [some (eR 0)]) (st2 := []) (y := m_M_solves) (as := [some (eR 0), some (eR 3), some (eI 200)]) (w2 := ([mW (eUp P 10 0), eA 0 964 g, eA 0 964 gp, eA 0 964 gt8, eA 0 7712 gr, eA 0 1928 gs, eA 0 144 mk, eA 0 24 fr, eA 1 2 kp, eA 0 600 bM, eA 2 6 oM], (0, 0))) rfl (w_rowT op9 rfl rfl rfl) ?_
  refine xCall (N := 4) (M2 := m_M_stepsToEnd) (pc2 := 34) (ls2 := [some (eR 0), some (eI b9)]) (st2 := []) (y := m_M_canStep) (as := [some (eR 3)]) (w2 := ([mW (eUp P 10 0), eA 0 964 g, eA 0 964 gp, eA 0 964 g9, eA 0 7712 gr, eA 0 1928 gs, eA 0 144 mk9, eA 0 24 fr9, eA 1 2 kp, eA 0 600 bM, eA 2 6 oM], (0, 0))) rfl (w_gt (n_cs0 hg9 q59 hM9.1 h5) rfl rfl rfl) ?_
  refine xEqT (N := 1) (x := 0) (y := 0) (A := ev m_M_stepsToEnd 44 [some (eR 0), some (eI b9)] [] ([mW (eUp P 10 0), eA 0 964 g, eA 0 964 gp, eA 0 964 g9, eA 0 7712 gr, eA 0 1928 gs, eA 0 144 mk9, eA 0 24 fr9, eA 1 2 kp, eA 0 600 bM, eA 2 6 oM], (0, 0))) (B := ev m_M_stepsToEnd 40 [some (eR 0), some (eI b9)] [] ([mW (eUp P 10 0), eA 0 964 g, eA 0 964 gp, eA 0 964 g9, eA 0 7712 gr, eA 0 1928 gs, eA 0 144 mk9, eA 0 24 fr9, eA 1 2 kp, eA 0 600 bM, eA 2 6 oM], (0, 0))) rfl (show wr 0 = 0 by decide) (show wr 0 = 0 by decide) (by decide) ?_
  refine xSeg (N := 2) (r := some (.inl (some (eI b9)), ([mW (eUp P 10 0), eA 0 964 g, eA 0 964 gp, eA 0 964 g9, eA 0 7712 gr, eA 0 1928 gs, eA 0 144 mk9, eA 0 24 fr9, eA 1 2 kp, eA 0 600 bM, eA 2 6 oM], (0, 0)))) rfl ?_
  rfl
theorem km_stepsToEndN {a : eRow} {X : xT} (h5 : cnS (sv 200 a) = true) : KM m_M_stepsToEnd [] a X (a) (X) 0 (-1) := by
  intro P g gp gt gr gs mk fr kp bM oM us t0 h
  have h8 := h
  obtain ⟨⟨hg, hI, hB⟩, r2, ⟨r3, r3n, r3b⟩, r4, ⟨r5, r5n, r5b⟩, ⟨p1, p2, p3, p4, p5⟩, r7⟩ := h
  have hI8 := hI
  obtain ⟨hG, ⟨v1, v2⟩, hO, hT, hM⟩ := hI8
  obtain ⟨⟨q1, q2, q3, q4, q5⟩, q6⟩ := hG
  have b5 := iT_24 q5 hT
  have e0 := hg 0 (by omega)
  have e1 := hg 1 (by omega)
  have e2 := hg 2 (by omega)
  have e3 := hg 3 (by omega)
  have e4 := hg 4 (by omega)
  have e5 := hg 5 (by omega)
  have hcp := n_copyRow (f := g) (h := gt) (c := (0, 0)) (x := 0) (y := 0) (n := 964) (n2 := 964) (I := 0) (J := 0) rfl rfl (by omega) (by omega) (by omega) (by omega)
  have hg8 : rg (cpR g gt 0 0 964) a := fun i hi => by
    have := cpR_in (f := g) (h := gt) (I := 0) (J := 0) (k := 964) hi
    rw [Nat.zero_add] at this
    rw [this]
    exact hg i hi
  generalize cpR g gt 0 0 964 = gt8 at hcp hg8
  obtain ⟨g9, mk9, fr9, hg9, op9⟩ := n_solves0 (P := eUp P 10 0) (mk := mk) (fr := fr) (c := (0, 0)) (x := 200) (m := 200) hg8 hI rfl (by omega)
  have hI9 : iA (sv 200 a) := iA_sv hI
  have hI8 := hI9
  obtain ⟨hG9, hV9, hO9, hT9, hM9⟩ := hI8
  have e49 := hg9 4 (by omega)
  have q59 := hG9.1.2.2.2.2
  obtain ⟨b9, hb9⟩ : ∃ b9 : Int, b9 = ((svc 200 a : Nat) : Int) := ⟨_, rfl⟩
  rw [← hb9] at op9
  refine ⟨eUp P 10 0, g, gp, g9, gr, gs, mk9, fr9, kp, bM, oM, us, -1, MR_t h8, fun _ => rfl, ?_⟩
  refine xCallV (N := 10) (M2 := m_M_stepsToEnd) (pc2 := 15) (ls2 := [some (eR 0)]) (st2 := []) (y := m_M_copyRow) (as := [some (eR 1), some (eI 0), some (eR 3), some (eI 0)]) (w2 := ([mW (eUp P 10 0), eA 0 964 g, eA 0 964 gp, eA 0 964 gt, eA 0 7712 gr, eA 0 1928 gs, eA 0 144 mk, eA 0 24 fr, eA 1 2 kp, eA 0 600 bM, eA 2 6 oM], (0, 0))) rfl (w_cpT hcp rfl rfl rfl) ?_
  refine xCallW (N := 5) (M2 := m_M_stepsToEnd) (pc2 := 26) (ls2 := [some (eR 0)]) (st2 := []) (y := m_M_solves) (as := [some (eR 0), some (eR 3), some (eI 200)]) (w2 := ([mW (eUp P 10 0), eA 0 964 g, eA 0 964 gp, eA 0 964 gt8, eA 0 7712 gr, eA 0 1928 gs, eA 0 144 mk, eA 0 24 fr, eA 1 2 kp, eA 0 600 bM, eA 2 6 oM], (0, 0))) rfl (w_rowT op9 rfl rfl rfl) ?_
  refine xCall (N := 4) (M2 := m_M_stepsToEnd) (pc2 := 34) (ls2 := [some (eR 0), some (eI b9)]) (st2 := []) (y := m_M_canStep) (as := [some (eR 3)]) (w2 := ([mW (eUp P 10 0), eA 0 964 g, eA 0 964 gp, eA 0 964 g9, eA 0 7712 gr, eA 0 1928 gs, eA 0 144 mk9, eA 0 24 fr9, eA 1 2 kp, eA 0 600 bM, eA 2 6 oM], (0, 0))) rfl (w_gt (n_cs1 hg9 q59 hM9.1 h5) rfl rfl rfl) ?_
  refine xEqF (N := 1) (x := 1) (y := 0) (A := ev m_M_stepsToEnd 44 [some (eR 0), some (eI b9)] [] ([mW (eUp P 10 0), eA 0 964 g, eA 0 964 gp, eA 0 964 g9, eA 0 7712 gr, eA 0 1928 gs, eA 0 144 mk9, eA 0 24 fr9, eA 1 2 kp, eA 0 600 bM, eA 2 6 oM], (0, 0))) (B := ev m_M_stepsToEnd 40 [some (eR 0), some (eI b9)] [] ([mW (eUp P 10 0), eA 0 964 g, eA 0 964 gp, eA 0 964 g9, eA 0 7712 gr, eA 0 1928 gs, eA 0 144 mk9, eA 0 24 fr9, eA 1 2 kp, eA 0 600 bM, eA 2 6 oM], (0, 0))) rfl (show wr 1 = 1 by decide) (show wr 0 = 0 by decide) (by decide) ?_
  refine xSeg (N := 3) (r := some (.inl (some (eI (-1))), ([mW (eUp P 10 0), eA 0 964 g, eA 0 964 gp, eA 0 964 g9, eA 0 7712 gr, eA 0 1928 gs, eA 0 144 mk9, eA 0 24 fr9, eA 1 2 kp, eA 0 600 bM, eA 2 6 oM], (0, 0)))) rfl ?_
  rfl
theorem km_stateAtEnd {a : eRow} {X : xT} : KM m_M_stateAtEnd [] a X (a) (X) 0 (((sv 200 a 4 : Nat) : Int)) := by
  intro P g gp gt gr gs mk fr kp bM oM us t0 h
  have h8 := h
  obtain ⟨⟨hg, hI, hB⟩, r2, ⟨r3, r3n, r3b⟩, r4, ⟨r5, r5n, r5b⟩, ⟨p1, p2, p3, p4, p5⟩, r7⟩ := h
  have hI8 := hI
  obtain ⟨hG, ⟨v1, v2⟩, hO, hT, hM⟩ := hI8
  obtain ⟨⟨q1, q2, q3, q4, q5⟩, q6⟩ := hG
  have b5 := iT_24 q5 hT
  have e0 := hg 0 (by omega)
  have e1 := hg 1 (by omega)
  have e2 := hg 2 (by omega)
  have e3 := hg 3 (by omega)
  have e4 := hg 4 (by omega)
  have e5 := hg 5 (by omega)
  have hcp := n_copyRow (f := g) (h := gt) (c := (0, 0)) (x := 0) (y := 0) (n := 964) (n2 := 964) (I := 0) (J := 0) rfl rfl (by omega) (by omega) (by omega) (by omega)
  have hg8 : rg (cpR g gt 0 0 964) a := fun i hi => by
    have := cpR_in (f := g) (h := gt) (I := 0) (J := 0) (k := 964) hi
    rw [Nat.zero_add] at this
    rw [this]
    exact hg i hi
  generalize cpR g gt 0 0 964 = gt8 at hcp hg8
  obtain ⟨g9, mk9, fr9, hg9, op9⟩ := n_solves0 (P := eUp P 10 0) (mk := mk) (fr := fr) (c := (0, 0)) (x := 200) (m := 200) hg8 hI rfl (by omega)
  have hI9 : iA (sv 200 a) := iA_sv hI
  have hI8 := hI9
  obtain ⟨hG9, hV9, hO9, hT9, hM9⟩ := hI8
  have e49 := hg9 4 (by omega)
  have q59 := hG9.1.2.2.2.2
  obtain ⟨b9, hb9⟩ : ∃ b9 : Int, b9 = ((svc 200 a : Nat) : Int) := ⟨_, rfl⟩
  rw [← hb9] at op9
  have hsn : 0 ≤ b9 ∧ b9 < 2147483648 := sv200_b hb9
  refine ⟨eUp P 10 0, g, gp, g9, gr, gs, mk9, fr9, kp, bM, oM, us, g9 4, MR_t h8, fun _ => e49, ?_⟩
  refine xCallV (N := 10) (M2 := m_M_stateAtEnd) (pc2 := 15) (ls2 := [some (eR 0)]) (st2 := []) (y := m_M_copyRow) (as := [some (eR 1), some (eI 0), some (eR 3), some (eI 0)]) (w2 := ([mW (eUp P 10 0), eA 0 964 g, eA 0 964 gp, eA 0 964 gt, eA 0 7712 gr, eA 0 1928 gs, eA 0 144 mk, eA 0 24 fr, eA 1 2 kp, eA 0 600 bM, eA 2 6 oM], (0, 0))) rfl (w_cpT hcp rfl rfl rfl) ?_
  refine xCallW (N := 5) (M2 := m_M_stateAtEnd) (pc2 := 26) (ls2 := [some (eR 0)]) (st2 := []) (y := m_M_solves) (as := [some (eR 0), some (eR 3), some (eI 200)]) (w2 := ([mW (eUp P 10 0), eA 0 964 g, eA 0 964 gp, eA 0 964 gt8, eA 0 7712 gr, eA 0 1928 gs, eA 0 144 mk, eA 0 24 fr, eA 1 2 kp, eA 0 600 bM, eA 2 6 oM], (0, 0))) rfl (w_rowT op9 rfl rfl rfl) ?_
  refine xLtF (N := 1) (x := b9) (y := 0) (A := ev m_M_stateAtEnd 32 [some (eR 0)] [] ([mW (eUp P 10 0), eA 0 964 g, eA 0 964 gp, eA 0 964 g9, eA 0 7712 gr, eA 0 1928 gs, eA 0 144 mk9, eA 0 24 fr9, eA 1 2 kp, eA 0 600 bM, eA 2 6 oM], (0, 0))) (B := ev m_M_stateAtEnd 36 [some (eR 0)] [] ([mW (eUp P 10 0), eA 0 964 g, eA 0 964 gp, eA 0 964 g9, eA 0 7712 gr, eA 0 1928 gs, eA 0 144 mk9, eA 0 24 fr9, eA 1 2 kp, eA 0 600 bM, eA 2 6 oM], (0, 0))) rfl (wr_id (by omega) (by omega)) (show wr 0 = 0 by decide) hsn.1 ?_
  refine xLd (N := 4) (n := 964) (i := 4) (F := fun zq => ev m_M_stateAtEnd 42 [some (eR 0)] [eI (g9 zq)] ([mW (eUp P 10 0), eA 0 964 g, eA 0 964 gp, eA 0 964 g9, eA 0 7712 gr, eA 0 1928 gs, eA 0 144 mk9, eA 0 24 fr9, eA 1 2 kp, eA 0 600 bM, eA 2 6 oM], (0, 0))) (k := 4) rfl (show wr 4 = ((4 : Nat) : Int) by decide) (by omega) ?_
  refine xSeg (N := 1) (r := some (.inl (some (eI (g9 4))), ([mW (eUp P 10 0), eA 0 964 g, eA 0 964 gp, eA 0 964 g9, eA 0 7712 gr, eA 0 1928 gs, eA 0 144 mk9, eA 0 24 fr9, eA 1 2 kp, eA 0 600 bM, eA 2 6 oM], (0, 0)))) rfl ?_
  rfl
theorem km_restore {a : eRow} {X : xT} {x : Int} {n : Nat} {r : eRow} (hx : x = (n : Int)) (hn : n < 2) (hr : X.2.1 n = some r) : KM m_M_restore [some (eI x)] a X (r) (pushX X a) 0 (((r 2 : Nat) : Int)) := by
  intro P g gp gt gr gs mk fr kp bM oM us t0 h
  have h8 := h
  obtain ⟨⟨hg, hI, hB⟩, r2, ⟨r3, r3n, r3b⟩, r4, ⟨r5, r5n, r5b⟩, ⟨p1, p2, p3, p4, p5⟩, r7⟩ := h
  have hI8 := hI
  obtain ⟨hG, ⟨v1, v2⟩, hO, hT, hM⟩ := hI8
  obtain ⟨⟨q1, q2, q3, q4, q5⟩, q6⟩ := hG
  have b5 := iT_24 q5 hT
  have e0 := hg 0 (by omega)
  have e1 := hg 1 (by omega)
  have e2 := hg 2 (by omega)
  have e3 := hg 3 (by omega)
  have e4 := hg 4 (by omega)
  have e5 := hg 5 (by omega)
  obtain ⟨P9, gr9, us9, R9, kU9, rem9⟩ := m_remember (gp := gp) (gt := gt) (mk := mk) (fr := fr) (c := (0, 0)) (MR_t (t' := 0) h8)
  have k7 := r7 n hn
  rw [hr] at k7
  obtain ⟨k1, k2, k3⟩ := k7
  have hJ : (964 : Int) * x = ((964 * n : Nat) : Int) := by omega
  have hcp := n_copyRow (f := gs) (h := g) (c := (0, 0)) (x := 964 * x) (y := 0) (n := 1928) (n2 := 964) (I := 964 * n) (J := 0) hJ rfl (by omega) (by omega) (by omega) (by omega)
  have R8 := MR_cpy (f := gs) (I := 964 * n) R9 k2 k3
  generalize cpR gs g (964 * n) 0 964 = g9 at hcp R8
  have e29 := R8.1.1 2 (by omega)
  refine ⟨P9, g9, gp, gt, gr9, gs, mk, fr, kp, bM, oM, us9, g9 2, R8, fun _ => e29, ?_⟩
  refine xCallW (N := 5) (M2 := m_M_restore) (pc2 := 4) (ls2 := [some (eR 0), some (eI x)]) (st2 := []) (y := m_M_noNumber) (as := [some (eR 0), some (eI x), some (eI 0), some (eI 1)]) (w2 := ([mW P, eA 0 964 g, eA 0 964 gp, eA 0 964 gt, eA 0 7712 gr, eA 0 1928 gs, eA 0 144 mk, eA 0 24 fr, eA 1 2 kp, eA 0 600 bM, eA 2 6 oM], (0, 0))) rfl (w_Z (z_noNum (c := (0, 0)) (P := P) (by omega) (by omega) (by omega) (by omega)) rfl rfl rfl) ?_
  refine xEqT (N := 1) (x := 0) (y := 0) (A := ev m_M_restore 10 [some (eR 0), some (eI x)] [] ([mW (eUp P 10 0), eA 0 964 g, eA 0 964 gp, eA 0 964 gt, eA 0 7712 gr, eA 0 1928 gs, eA 0 144 mk, eA 0 24 fr, eA 1 2 kp, eA 0 600 bM, eA 2 6 oM], (0, 0))) (B := ev m_M_restore 32 [some (eR 0), some (eI x)] [] ([mW (eUp P 10 0), eA 0 964 g, eA 0 964 gp, eA 0 964 gt, eA 0 7712 gr, eA 0 1928 gs, eA 0 144 mk, eA 0 24 fr, eA 1 2 kp, eA 0 600 bM, eA 2 6 oM], (0, 0))) rfl (show wr 0 = 0 by decide) (show wr 0 = 0 by decide) (by decide) ?_
  refine xLd (N := 5) (n := 2) (i := x) (F := fun zq => ev m_M_restore 17 [some (eR 0), some (eI x)] [eI (kp zq), eR 0] ([mW (eUp P 10 0), eA 0 964 g, eA 0 964 gp, eA 0 964 gt, eA 0 7712 gr, eA 0 1928 gs, eA 0 144 mk, eA 0 24 fr, eA 1 2 kp, eA 0 600 bM, eA 2 6 oM], (0, 0))) (k := n) rfl (wr_nat (by omega) (by omega)) (by omega) ?_
  refine xEqF (N := 1) (x := kp n) (y := 0) (A := ev m_M_restore 20 [some (eR 0), some (eI x)] [eR 0] ([mW (eUp P 10 0), eA 0 964 g, eA 0 964 gp, eA 0 964 gt, eA 0 7712 gr, eA 0 1928 gs, eA 0 144 mk, eA 0 24 fr, eA 1 2 kp, eA 0 600 bM, eA 2 6 oM], (0, 0))) (B := ev m_M_restore 24 [some (eR 0), some (eI x)] [eR 0] ([mW (eUp P 10 0), eA 0 964 g, eA 0 964 gp, eA 0 964 gt, eA 0 7712 gr, eA 0 1928 gs, eA 0 144 mk, eA 0 24 fr, eA 1 2 kp, eA 0 600 bM, eA 2 6 oM], (0, 0))) rfl (wr_id (by omega) (by omega)) (show wr 0 = 0 by decide) (by omega) ?_
  refine xCallW (N := 3) (M2 := m_M_restore) (pc2 := 26) (ls2 := [some (eR 0), some (eI x)]) (st2 := []) (y := m_M_refuses) (as := [some (eR 0), some (eI 0), some (eI 2)]) (w2 := ([mW (eUp P 10 0), eA 0 964 g, eA 0 964 gp, eA 0 964 gt, eA 0 7712 gr, eA 0 1928 gs, eA 0 144 mk, eA 0 24 fr, eA 1 2 kp, eA 0 600 bM, eA 2 6 oM], (0, 0))) rfl (w_Z (z_refF (c := (0, 0))) rfl rfl rfl) ?_
  refine xEqT (N := 1) (x := 0) (y := 0) (A := ev m_M_restore 34 [some (eR 0), some (eI x)] [] ([mW (eUp P 10 0), eA 0 964 g, eA 0 964 gp, eA 0 964 gt, eA 0 7712 gr, eA 0 1928 gs, eA 0 144 mk, eA 0 24 fr, eA 1 2 kp, eA 0 600 bM, eA 2 6 oM], (0, 0))) (B := ev m_M_restore 32 [some (eR 0), some (eI x)] [] ([mW (eUp P 10 0), eA 0 964 g, eA 0 964 gp, eA 0 964 gt, eA 0 7712 gr, eA 0 1928 gs, eA 0 144 mk, eA 0 24 fr, eA 1 2 kp, eA 0 600 bM, eA 2 6 oM], (0, 0))) rfl (show wr 0 = 0 by decide) (show wr 0 = 0 by decide) (by decide) ?_
  refine xCallWV (N := 2) (M2 := m_M_restore) (pc2 := 35) (ls2 := [some (eR 0), some (eI x)]) (st2 := []) (y := m_M_remember) (as := [some (eR 0)]) (w2 := ([mW (eUp P 10 0), eA 0 964 g, eA 0 964 gp, eA 0 964 gt, eA 0 7712 gr, eA 0 1928 gs, eA 0 144 mk, eA 0 24 fr, eA 1 2 kp, eA 0 600 bM, eA 2 6 oM], (0, 0))) rfl rem9 ?_
  refine xCallV (N := 9) (M2 := m_M_restore) (pc2 := 52) (ls2 := [some (eR 0), some (eI x)]) (st2 := []) (y := m_M_copyRow) (as := [some (eR 5), some (eI (964 * x)), some (eR 1), some (eI 0)]) (w2 := ([mW P9, eA 0 964 g, eA 0 964 gp, eA 0 964 gt, eA 0 7712 gr9, eA 0 1928 gs, eA 0 144 mk, eA 0 24 fr, eA 1 2 kp, eA 0 600 bM, eA 2 6 oM], (0, 0))) rfl (w_cpL hcp rfl rfl rfl) ?_
  refine xLd (N := 4) (n := 964) (i := 2) (F := fun zq => ev m_M_restore 61 [some (eR 0), some (eI x)] [eI (g9 zq)] ([mW P9, eA 0 964 g9, eA 0 964 gp, eA 0 964 gt, eA 0 7712 gr9, eA 0 1928 gs, eA 0 144 mk, eA 0 24 fr, eA 1 2 kp, eA 0 600 bM, eA 2 6 oM], (0, 0))) (k := 2) rfl (show wr 2 = ((2 : Nat) : Int) by decide) (by omega) ?_
  refine xSeg (N := 1) (r := some (.inl (some (eI (g9 2))), ([mW P9, eA 0 964 g9, eA 0 964 gp, eA 0 964 gt, eA 0 7712 gr9, eA 0 1928 gs, eA 0 144 mk, eA 0 24 fr, eA 1 2 kp, eA 0 600 bM, eA 2 6 oM], (0, 0)))) rfl ?_
  rfl
theorem km_restoreN {a : eRow} {X : xT} {x : Int} {n : Nat} (hx : x = (n : Int)) (hn : n < 2) (hr : X.2.1 n = none) : KM m_M_restore [some (eI x)] a X (a) (X) 2 (0) := by
  intro P g gp gt gr gs mk fr kp bM oM us t0 h
  have h8 := h
  obtain ⟨⟨hg, hI, hB⟩, r2, ⟨r3, r3n, r3b⟩, r4, ⟨r5, r5n, r5b⟩, ⟨p1, p2, p3, p4, p5⟩, r7⟩ := h
  have hI8 := hI
  obtain ⟨hG, ⟨v1, v2⟩, hO, hT, hM⟩ := hI8
  obtain ⟨⟨q1, q2, q3, q4, q5⟩, q6⟩ := hG
  have b5 := iT_24 q5 hT
  have e0 := hg 0 (by omega)
  have e1 := hg 1 (by omega)
  have e2 := hg 2 (by omega)
  have e3 := hg 3 (by omega)
  have e4 := hg 4 (by omega)
  have e5 := hg 5 (by omega)
  have k7 := r7 n hn
  rw [hr] at k7
  have k7 : kp n = 0 := k7
  refine ⟨eUp (eUp P 10 0) 10 2, g, gp, gt, gr, gs, mk, fr, kp, bM, oM, us, 0, MR_t (MR_t h8), fun _ => rfl, ?_⟩
  refine xCallW (N := 5) (M2 := m_M_restore) (pc2 := 4) (ls2 := [some (eR 0), some (eI x)]) (st2 := []) (y := m_M_noNumber) (as := [some (eR 0), some (eI x), some (eI 0), some (eI 1)]) (w2 := ([mW P, eA 0 964 g, eA 0 964 gp, eA 0 964 gt, eA 0 7712 gr, eA 0 1928 gs, eA 0 144 mk, eA 0 24 fr, eA 1 2 kp, eA 0 600 bM, eA 2 6 oM], (0, 0))) rfl (w_Z (z_noNum (c := (0, 0)) (P := P) (by omega) (by omega) (by omega) (by omega)) rfl rfl rfl) ?_
  refine xEqT (N := 1) (x := 0) (y := 0) (A := ev m_M_restore 10 [some (eR 0), some (eI x)] [] ([mW (eUp P 10 0), eA 0 964 g, eA 0 964 gp, eA 0 964 gt, eA 0 7712 gr, eA 0 1928 gs, eA 0 144 mk, eA 0 24 fr, eA 1 2 kp, eA 0 600 bM, eA 2 6 oM], (0, 0))) (B := ev m_M_restore 32 [some (eR 0), some (eI x)] [] ([mW (eUp P 10 0), eA 0 964 g, eA 0 964 gp, eA 0 964 gt, eA 0 7712 gr, eA 0 1928 gs, eA 0 144 mk, eA 0 24 fr, eA 1 2 kp, eA 0 600 bM, eA 2 6 oM], (0, 0))) rfl (show wr 0 = 0 by decide) (show wr 0 = 0 by decide) (by decide) ?_
  refine xLd (N := 5) (n := 2) (i := x) (F := fun zq => ev m_M_restore 17 [some (eR 0), some (eI x)] [eI (kp zq), eR 0] ([mW (eUp P 10 0), eA 0 964 g, eA 0 964 gp, eA 0 964 gt, eA 0 7712 gr, eA 0 1928 gs, eA 0 144 mk, eA 0 24 fr, eA 1 2 kp, eA 0 600 bM, eA 2 6 oM], (0, 0))) (k := n) rfl (wr_nat (by omega) (by omega)) (by omega) ?_
  refine xEqT (N := 1) (x := kp n) (y := 0) (A := ev m_M_restore 20 [some (eR 0), some (eI x)] [eR 0] ([mW (eUp P 10 0), eA 0 964 g, eA 0 964 gp, eA 0 964 gt, eA 0 7712 gr, eA 0 1928 gs, eA 0 144 mk, eA 0 24 fr, eA 1 2 kp, eA 0 600 bM, eA 2 6 oM], (0, 0))) (B := ev m_M_restore 24 [some (eR 0), some (eI x)] [eR 0] ([mW (eUp P 10 0), eA 0 964 g, eA 0 964 gp, eA 0 964 gt, eA 0 7712 gr, eA 0 1928 gs, eA 0 144 mk, eA 0 24 fr, eA 1 2 kp, eA 0 600 bM, eA 2 6 oM], (0, 0))) rfl (wr_id (by omega) (by omega)) (show wr 0 = 0 by decide) (by omega) ?_
  refine xCallW (N := 4) (M2 := m_M_restore) (pc2 := 26) (ls2 := [some (eR 0), some (eI x)]) (st2 := []) (y := m_M_refuses) (as := [some (eR 0), some (eI 1), some (eI 2)]) (w2 := ([mW (eUp P 10 0), eA 0 964 g, eA 0 964 gp, eA 0 964 gt, eA 0 7712 gr, eA 0 1928 gs, eA 0 144 mk, eA 0 24 fr, eA 1 2 kp, eA 0 600 bM, eA 2 6 oM], (0, 0))) rfl (w_Z (z_refT (c := (0, 0)) (by omega)) rfl rfl rfl) ?_
  refine xEqF (N := 1) (x := 1) (y := 0) (A := ev m_M_restore 34 [some (eR 0), some (eI x)] [] ([mW (eUp (eUp P 10 0) 10 2), eA 0 964 g, eA 0 964 gp, eA 0 964 gt, eA 0 7712 gr, eA 0 1928 gs, eA 0 144 mk, eA 0 24 fr, eA 1 2 kp, eA 0 600 bM, eA 2 6 oM], (0, 0))) (B := ev m_M_restore 32 [some (eR 0), some (eI x)] [] ([mW (eUp (eUp P 10 0) 10 2), eA 0 964 g, eA 0 964 gp, eA 0 964 gt, eA 0 7712 gr, eA 0 1928 gs, eA 0 144 mk, eA 0 24 fr, eA 1 2 kp, eA 0 600 bM, eA 2 6 oM], (0, 0))) rfl (show wr 1 = 1 by decide) (show wr 0 = 0 by decide) (by decide) ?_
  refine xSeg (N := 2) (r := some (.inl (some (eI 0)), ([mW (eUp (eUp P 10 0) 10 2), eA 0 964 g, eA 0 964 gp, eA 0 964 gt, eA 0 7712 gr, eA 0 1928 gs, eA 0 144 mk, eA 0 24 fr, eA 1 2 kp, eA 0 600 bM, eA 2 6 oM], (0, 0)))) rfl ?_
  rfl
theorem km_restoreX {a : eRow} {X : xT} {x : Int} (bx : -2147483648 ≤ x ∧ x < 2147483648) (hn : ¬ (0 ≤ x ∧ x < 2)) : KM m_M_restore [some (eI x)] a X (a) (X) 1 (0) := by
  intro P g gp gt gr gs mk fr kp bM oM us t0 h
  have h8 := h
  obtain ⟨⟨hg, hI, hB⟩, r2, ⟨r3, r3n, r3b⟩, r4, ⟨r5, r5n, r5b⟩, ⟨p1, p2, p3, p4, p5⟩, r7⟩ := h
  have hI8 := hI
  obtain ⟨hG, ⟨v1, v2⟩, hO, hT, hM⟩ := hI8
  obtain ⟨⟨q1, q2, q3, q4, q5⟩, q6⟩ := hG
  have b5 := iT_24 q5 hT
  have e0 := hg 0 (by omega)
  have e1 := hg 1 (by omega)
  have e2 := hg 2 (by omega)
  have e3 := hg 3 (by omega)
  have e4 := hg 4 (by omega)
  have e5 := hg 5 (by omega)
  refine ⟨eUp P 10 1, g, gp, gt, gr, gs, mk, fr, kp, bM, oM, us, 0, MR_t h8, fun _ => rfl, ?_⟩
  refine xCallW (N := 5) (M2 := m_M_restore) (pc2 := 4) (ls2 := [some (eR 0), some (eI x)]) (st2 := []) (y := m_M_noNumber) (as := [some (eR 0), some (eI x), some (eI 0), some (eI 1)]) (w2 := ([mW P, eA 0 964 g, eA 0 964 gp, eA 0 964 gt, eA 0 7712 gr, eA 0 1928 gs, eA 0 144 mk, eA 0 24 fr, eA 1 2 kp, eA 0 600 bM, eA 2 6 oM], (0, 0))) rfl (w_Z (z_noNumX (c := (0, 0)) (P := P) (by omega) (by omega) (by omega) (by omega)) rfl rfl rfl) ?_
  refine xEqF (N := 1) (x := 1) (y := 0) (A := ev m_M_restore 10 [some (eR 0), some (eI x)] [] ([mW (eUp P 10 1), eA 0 964 g, eA 0 964 gp, eA 0 964 gt, eA 0 7712 gr, eA 0 1928 gs, eA 0 144 mk, eA 0 24 fr, eA 1 2 kp, eA 0 600 bM, eA 2 6 oM], (0, 0))) (B := ev m_M_restore 32 [some (eR 0), some (eI x)] [] ([mW (eUp P 10 1), eA 0 964 g, eA 0 964 gp, eA 0 964 gt, eA 0 7712 gr, eA 0 1928 gs, eA 0 144 mk, eA 0 24 fr, eA 1 2 kp, eA 0 600 bM, eA 2 6 oM], (0, 0))) rfl (show wr 1 = 1 by decide) (show wr 0 = 0 by decide) (by decide) ?_
  refine xSeg (N := 2) (r := some (.inl (some (eI 0)), ([mW (eUp P 10 1), eA 0 964 g, eA 0 964 gp, eA 0 964 gt, eA 0 7712 gr, eA 0 1928 gs, eA 0 144 mk, eA 0 24 fr, eA 1 2 kp, eA 0 600 bM, eA 2 6 oM], (0, 0)))) rfl ?_
  rfl
theorem km_undo {a : eRow} {X : xT} (h0 : X.1.1 ≠ 0) : KM m_M_undo [] a X (X.1.2 0) (popX X) 0 (((X.1.1 - 1 : Nat) : Int)) := by
  intro P g gp gt gr gs mk fr kp bM oM us t0 h
  have h8 := h
  obtain ⟨⟨hg, hI, hB⟩, r2, ⟨r3, r3n, r3b⟩, r4, ⟨r5, r5n, r5b⟩, ⟨p1, p2, p3, p4, p5⟩, r7⟩ := h
  have hI8 := hI
  obtain ⟨hG, ⟨v1, v2⟩, hO, hT, hM⟩ := hI8
  obtain ⟨⟨q1, q2, q3, q4, q5⟩, q6⟩ := hG
  have b5 := iT_24 q5 hT
  have e0 := hg 0 (by omega)
  have e1 := hg 1 (by omega)
  have e2 := hg 2 (by omega)
  have e3 := hg 3 (by omega)
  have e4 := hg 4 (by omega)
  have e5 := hg 5 (by omega)
  have hJ : (964 : Int) * bRem (P 9 + (P 8 - 1)) 8 = ((964 * ((us + (X.1.1 - 1)) % 8) : Nat) : Int) := by
    rw [bRem8 (m := us + (X.1.1 - 1)) (by omega) (by omega)]; omega
  have R8 := MR_pop (MR_t (t' := 0) h8) h0
  have hcp := n_copyRow (f := gr) (h := g) (c := (0, 0)) (x := 964 * bRem (P 9 + (P 8 - 1)) 8) (y := 0) (n := 7712) (n2 := 964) (I := 964 * ((us + (X.1.1 - 1)) % 8)) (J := 0) hJ rfl (by omega) (by omega) (by omega) (by omega)
  rw [eUp_ne (by omega)] at R8
  generalize cpR gr g (964 * ((us + (X.1.1 - 1)) % 8)) 0 964 = g9 at hcp R8
  refine ⟨eUp (eUp P 10 0) 8 (P 8 - 1), g9, gp, gt, gr, gs, mk, fr, kp, bM, oM, us, P 8 - 1, R8, fun _ => by omega, ?_⟩
  refine xEqF (N := 7) (x := P 8) (y := 0) (A := ev m_M_undo 13 [some (eR 0)] [eR 0] ([mW (eUp P 10 0), eA 0 964 g, eA 0 964 gp, eA 0 964 gt, eA 0 7712 gr, eA 0 1928 gs, eA 0 144 mk, eA 0 24 fr, eA 1 2 kp, eA 0 600 bM, eA 2 6 oM], (0, 0))) (B := ev m_M_undo 17 [some (eR 0)] [eR 0] ([mW (eUp P 10 0), eA 0 964 g, eA 0 964 gp, eA 0 964 gt, eA 0 7712 gr, eA 0 1928 gs, eA 0 144 mk, eA 0 24 fr, eA 1 2 kp, eA 0 600 bM, eA 2 6 oM], (0, 0))) rfl (wr_id (by omega) (by omega)) (show wr 0 = 0 by decide) (by omega) ?_
  refine xCallW (N := 3) (M2 := m_M_undo) (pc2 := 19) (ls2 := [some (eR 0)]) (st2 := []) (y := m_M_refuses) (as := [some (eR 0), some (eI 0), some (eI 1)]) (w2 := ([mW (eUp P 10 0), eA 0 964 g, eA 0 964 gp, eA 0 964 gt, eA 0 7712 gr, eA 0 1928 gs, eA 0 144 mk, eA 0 24 fr, eA 1 2 kp, eA 0 600 bM, eA 2 6 oM], (0, 0))) rfl (w_Z (z_refF (c := (0, 0))) rfl rfl rfl) ?_
  refine xEqT (N := 1) (x := 0) (y := 0) (A := ev m_M_undo 27 [some (eR 0)] [] ([mW (eUp P 10 0), eA 0 964 g, eA 0 964 gp, eA 0 964 gt, eA 0 7712 gr, eA 0 1928 gs, eA 0 144 mk, eA 0 24 fr, eA 1 2 kp, eA 0 600 bM, eA 2 6 oM], (0, 0))) (B := ev m_M_undo 25 [some (eR 0)] [] ([mW (eUp P 10 0), eA 0 964 g, eA 0 964 gp, eA 0 964 gt, eA 0 7712 gr, eA 0 1928 gs, eA 0 144 mk, eA 0 24 fr, eA 1 2 kp, eA 0 600 bM, eA 2 6 oM], (0, 0))) rfl (show wr 0 = 0 by decide) (show wr 0 = 0 by decide) (by decide) ?_
  refine xNz (N := 16) (y := 8) (A := ev m_M_undo 56 [some (eR 0)] [eI (bRem ((P 9) + ((P 8) - 1)) 8), eI 964, eR 4] ([mW (eUp (eUp P 10 0) 8 ((P 8) - 1)), eA 0 964 g, eA 0 964 gp, eA 0 964 gt, eA 0 7712 gr, eA 0 1928 gs, eA 0 144 mk, eA 0 24 fr, eA 1 2 kp, eA 0 600 bM, eA 2 6 oM], (0, 0))) rfl (by decide) ?_
  refine xCallV (N := 5) (M2 := m_M_undo) (pc2 := 62) (ls2 := [some (eR 0)]) (st2 := []) (y := m_M_copyRow) (as := [some (eR 4), some (eI (964 * (bRem ((P 9) + ((P 8) - 1)) 8))), some (eR 1), some (eI 0)]) (w2 := ([mW (eUp (eUp P 10 0) 8 ((P 8) - 1)), eA 0 964 g, eA 0 964 gp, eA 0 964 gt, eA 0 7712 gr, eA 0 1928 gs, eA 0 144 mk, eA 0 24 fr, eA 1 2 kp, eA 0 600 bM, eA 2 6 oM], (0, 0))) rfl (w_cpB hcp rfl rfl rfl) ?_
  refine xSeg (N := 3) (r := some (.inl (some (eI (P 8 - 1))), ([mW (eUp (eUp P 10 0) 8 (P 8 - 1)), eA 0 964 g9, eA 0 964 gp, eA 0 964 gt, eA 0 7712 gr, eA 0 1928 gs, eA 0 144 mk, eA 0 24 fr, eA 1 2 kp, eA 0 600 bM, eA 2 6 oM], (0, 0)))) rfl ?_
  rfl
theorem km_undoX {a : eRow} {X : xT} (h0 : X.1.1 = 0) : KM m_M_undo [] a X (a) (X) 1 (0) := by
  intro P g gp gt gr gs mk fr kp bM oM us t0 h
  have h8 := h
  obtain ⟨⟨hg, hI, hB⟩, r2, ⟨r3, r3n, r3b⟩, r4, ⟨r5, r5n, r5b⟩, ⟨p1, p2, p3, p4, p5⟩, r7⟩ := h
  have hI8 := hI
  obtain ⟨hG, ⟨v1, v2⟩, hO, hT, hM⟩ := hI8
  obtain ⟨⟨q1, q2, q3, q4, q5⟩, q6⟩ := hG
  have b5 := iT_24 q5 hT
  have e0 := hg 0 (by omega)
  have e1 := hg 1 (by omega)
  have e2 := hg 2 (by omega)
  have e3 := hg 3 (by omega)
  have e4 := hg 4 (by omega)
  have e5 := hg 5 (by omega)
  refine ⟨eUp (eUp P 10 0) 10 1, g, gp, gt, gr, gs, mk, fr, kp, bM, oM, us, 0, MR_t (MR_t h8), fun _ => rfl, ?_⟩
  refine xEqT (N := 7) (x := P 8) (y := 0) (A := ev m_M_undo 13 [some (eR 0)] [eR 0] ([mW (eUp P 10 0), eA 0 964 g, eA 0 964 gp, eA 0 964 gt, eA 0 7712 gr, eA 0 1928 gs, eA 0 144 mk, eA 0 24 fr, eA 1 2 kp, eA 0 600 bM, eA 2 6 oM], (0, 0))) (B := ev m_M_undo 17 [some (eR 0)] [eR 0] ([mW (eUp P 10 0), eA 0 964 g, eA 0 964 gp, eA 0 964 gt, eA 0 7712 gr, eA 0 1928 gs, eA 0 144 mk, eA 0 24 fr, eA 1 2 kp, eA 0 600 bM, eA 2 6 oM], (0, 0))) rfl (wr_id (by omega) (by omega)) (show wr 0 = 0 by decide) (by omega) ?_
  refine xCallW (N := 4) (M2 := m_M_undo) (pc2 := 19) (ls2 := [some (eR 0)]) (st2 := []) (y := m_M_refuses) (as := [some (eR 0), some (eI 1), some (eI 1)]) (w2 := ([mW (eUp P 10 0), eA 0 964 g, eA 0 964 gp, eA 0 964 gt, eA 0 7712 gr, eA 0 1928 gs, eA 0 144 mk, eA 0 24 fr, eA 1 2 kp, eA 0 600 bM, eA 2 6 oM], (0, 0))) rfl (w_Z (z_refT (c := (0, 0)) (by omega)) rfl rfl rfl) ?_
  refine xEqF (N := 1) (x := 1) (y := 0) (A := ev m_M_undo 27 [some (eR 0)] [] ([mW (eUp (eUp P 10 0) 10 1), eA 0 964 g, eA 0 964 gp, eA 0 964 gt, eA 0 7712 gr, eA 0 1928 gs, eA 0 144 mk, eA 0 24 fr, eA 1 2 kp, eA 0 600 bM, eA 2 6 oM], (0, 0))) (B := ev m_M_undo 25 [some (eR 0)] [] ([mW (eUp (eUp P 10 0) 10 1), eA 0 964 g, eA 0 964 gp, eA 0 964 gt, eA 0 7712 gr, eA 0 1928 gs, eA 0 144 mk, eA 0 24 fr, eA 1 2 kp, eA 0 600 bM, eA 2 6 oM], (0, 0))) rfl (show wr 1 = 1 by decide) (show wr 0 = 0 by decide) (by decide) ?_
  refine xSeg (N := 2) (r := some (.inl (some (eI 0)), ([mW (eUp (eUp P 10 0) 10 1), eA 0 964 g, eA 0 964 gp, eA 0 964 gt, eA 0 7712 gr, eA 0 1928 gs, eA 0 144 mk, eA 0 24 fr, eA 1 2 kp, eA 0 600 bM, eA 2 6 oM], (0, 0)))) rfl ?_
  rfl
theorem km_addWord {a : eRow} {X : xT} {x : Int} {cd : Nat} (hx : x = (cd : Int)) (hc : cd < 2147483648) (hl : loN cd ≠ 0) (h30 : a 2 < 30) (hf : fnd (fun k => decide (a (88 + k) = cd)) (a 2) 0 = -1) : KM m_M_addWord [some (eI x)] a X (adA a cd (loN cd)) (pushX X a) 0 (((a 2 : Nat) : Int)) := by
  intro P g gp gt gr gs mk fr kp bM oM us t0 h
  have h8 := h
  obtain ⟨⟨hg, hI, hB⟩, r2, ⟨r3, r3n, r3b⟩, r4, ⟨r5, r5n, r5b⟩, ⟨p1, p2, p3, p4, p5⟩, r7⟩ := h
  have hI8 := hI
  obtain ⟨hG, ⟨v1, v2⟩, hO, hT, hM⟩ := hI8
  obtain ⟨⟨q1, q2, q3, q4, q5⟩, q6⟩ := hG
  have b5 := iT_24 q5 hT
  have e0 := hg 0 (by omega)
  have e1 := hg 1 (by omega)
  have e2 := hg 2 (by omega)
  have e3 := hg 3 (by omega)
  have e4 := hg 4 (by omega)
  have e5 := hg 5 (by omega)
  obtain ⟨z9, hz9, bz9, hlo⟩ := n_lo1 (w := ([mW (eUp P 10 0), eA 0 964 g, eA 0 964 gp, eA 0 964 gt, eA 0 7712 gr, eA 0 1928 gs, eA 0 144 mk, eA 0 24 fr, eA 1 2 kp, eA 0 600 bM, eA 2 6 oM], (0, 0))) hx hc hl
  have hwo := n_wordOf (c := (0, 0)) hg ⟨v1, v2⟩ hx hc
  have hfb := fnd_b (p := fun k => decide (a (88 + k) = cd)) (d := a 2) (k := 0)
  generalize hr9 : fnd (fun k => decide (a (88 + k) = cd)) (a 2) 0 = r9 at hwo hfb
  obtain ⟨P9, gr9, us9, R9, kU9, rem9⟩ := m_remember (gp := gp) (gt := gt) (mk := mk) (fr := fr) (c := (0, 0)) (MR_t (t' := 0) h8)
  obtain ⟨g9, mk9, fr9, hg9, op9⟩ := n_adds (P := P9) (mk := mk) (fr := fr) (c := (0, 0)) hg hI h30 hx hc hl
  have e29 := hg9 2 (by omega)
  have ead : adA a cd (loN cd) 2 = a 2 + 1 := (bgA_2 (wd1 a cd (loN cd))).trans wd1_2
  generalize hb9 : g9 2 - 1 = b9 at op9
  refine ⟨P9, g9, gp, gt, gr9, gs, mk9, fr9, kp, bM, oM, us9, b9, MR_g R9 hg9 ⟨iA_ad hI h30 (loN_ok hc hl), iB_ad h30 hB⟩, fun _ => by omega, ?_⟩
  refine xCall (N := 6) (M2 := m_M_addWord) (pc2 := 7) (ls2 := [some (eR 0), some (eI x)]) (st2 := [eR 0]) (y := m_M_lettersOf) (as := [some (eI x)]) (w2 := ([mW (eUp P 10 0), eA 0 964 g, eA 0 964 gp, eA 0 964 gt, eA 0 7712 gr, eA 0 1928 gs, eA 0 144 mk, eA 0 24 fr, eA 1 2 kp, eA 0 600 bM, eA 2 6 oM], (0, 0))) rfl hlo ?_
  refine xEqF (N := 1) (x := z9) (y := 0) (A := ev m_M_addWord 13 [some (eR 0), some (eI x)] [eR 0] ([mW (eUp P 10 0), eA 0 964 g, eA 0 964 gp, eA 0 964 gt, eA 0 7712 gr, eA 0 1928 gs, eA 0 144 mk, eA 0 24 fr, eA 1 2 kp, eA 0 600 bM, eA 2 6 oM], (0, 0))) (B := ev m_M_addWord 17 [some (eR 0), some (eI x)] [eR 0] ([mW (eUp P 10 0), eA 0 964 g, eA 0 964 gp, eA 0 964 gt, eA 0 7712 gr, eA 0 1928 gs, eA 0 144 mk, eA 0 24 fr, eA 1 2 kp, eA 0 600 bM, eA 2 6 oM], (0, 0))) rfl (wr_id (by omega) (by omega)) (show wr 0 = 0 by decide) hz9 ?_
  refine xCallW (N := 3) (M2 := m_M_addWord) (pc2 := 19) (ls2 := [some (eR 0), some (eI x)]) (st2 := []) (y := m_M_refuses) (as := [some (eR 0), some (eI 0), some (eI 1)]) (w2 := ([mW (eUp P 10 0), eA 0 964 g, eA 0 964 gp, eA 0 964 gt, eA 0 7712 gr, eA 0 1928 gs, eA 0 144 mk, eA 0 24 fr, eA 1 2 kp, eA 0 600 bM, eA 2 6 oM], (0, 0))) rfl (w_Z (z_refF (c := (0, 0))) rfl rfl rfl) ?_
  refine xEqT (N := 1) (x := 0) (y := 0) (A := ev m_M_addWord 25 [some (eR 0), some (eI x)] [] ([mW (eUp P 10 0), eA 0 964 g, eA 0 964 gp, eA 0 964 gt, eA 0 7712 gr, eA 0 1928 gs, eA 0 144 mk, eA 0 24 fr, eA 1 2 kp, eA 0 600 bM, eA 2 6 oM], (0, 0))) (B := ev m_M_addWord 61 [some (eR 0), some (eI x)] [] ([mW (eUp P 10 0), eA 0 964 g, eA 0 964 gp, eA 0 964 gt, eA 0 7712 gr, eA 0 1928 gs, eA 0 144 mk, eA 0 24 fr, eA 1 2 kp, eA 0 600 bM, eA 2 6 oM], (0, 0))) rfl (show wr 0 = 0 by decide) (show wr 0 = 0 by decide) (by decide) ?_
  refine xLd (N := 5) (n := 964) (i := 2) (F := fun zq => ev m_M_addWord 32 [some (eR 0), some (eI x)] [eI (g zq), eR 0] ([mW (eUp P 10 0), eA 0 964 g, eA 0 964 gp, eA 0 964 gt, eA 0 7712 gr, eA 0 1928 gs, eA 0 144 mk, eA 0 24 fr, eA 1 2 kp, eA 0 600 bM, eA 2 6 oM], (0, 0))) (k := 2) rfl (show wr 2 = ((2 : Nat) : Int) by decide) (by omega) ?_
  refine xEqF (N := 2) (x := g 2) (y := 30) (A := ev m_M_addWord 49 [some (eR 0), some (eI x)] [eR 0] ([mW (eUp P 10 0), eA 0 964 g, eA 0 964 gp, eA 0 964 gt, eA 0 7712 gr, eA 0 1928 gs, eA 0 144 mk, eA 0 24 fr, eA 1 2 kp, eA 0 600 bM, eA 2 6 oM], (0, 0))) (B := ev m_M_addWord 37 [some (eR 0), some (eI x)] [eR 0] ([mW (eUp P 10 0), eA 0 964 g, eA 0 964 gp, eA 0 964 gt, eA 0 7712 gr, eA 0 1928 gs, eA 0 144 mk, eA 0 24 fr, eA 1 2 kp, eA 0 600 bM, eA 2 6 oM], (0, 0))) rfl (wr_id (by omega) (by omega)) (show wr 30 = 30 by decide) (by omega) ?_
  refine xCall (N := 4) (M2 := m_M_addWord) (pc2 := 42) (ls2 := [some (eR 0), some (eI x)]) (st2 := [eR 0]) (y := m_M_wordOf) (as := [some (eR 1), some (eI x)]) (w2 := ([mW (eUp P 10 0), eA 0 964 g, eA 0 964 gp, eA 0 964 gt, eA 0 7712 gr, eA 0 1928 gs, eA 0 144 mk, eA 0 24 fr, eA 1 2 kp, eA 0 600 bM, eA 2 6 oM], (0, 0))) rfl (w_g hwo rfl rfl rfl) ?_
  refine xEqT (N := 2) (x := r9) (y := (-1)) (A := ev m_M_addWord 53 [some (eR 0), some (eI x)] [eR 0] ([mW (eUp P 10 0), eA 0 964 g, eA 0 964 gp, eA 0 964 gt, eA 0 7712 gr, eA 0 1928 gs, eA 0 144 mk, eA 0 24 fr, eA 1 2 kp, eA 0 600 bM, eA 2 6 oM], (0, 0))) (B := ev m_M_addWord 49 [some (eR 0), some (eI x)] [eR 0] ([mW (eUp P 10 0), eA 0 964 g, eA 0 964 gp, eA 0 964 gt, eA 0 7712 gr, eA 0 1928 gs, eA 0 144 mk, eA 0 24 fr, eA 1 2 kp, eA 0 600 bM, eA 2 6 oM], (0, 0))) rfl (wr_id (by omega) (by omega)) (show wr (-1) = (-1) by decide) (by omega) ?_
  refine xCallW (N := 3) (M2 := m_M_addWord) (pc2 := 55) (ls2 := [some (eR 0), some (eI x)]) (st2 := []) (y := m_M_refuses) (as := [some (eR 0), some (eI 0), some (eI 2)]) (w2 := ([mW (eUp P 10 0), eA 0 964 g, eA 0 964 gp, eA 0 964 gt, eA 0 7712 gr, eA 0 1928 gs, eA 0 144 mk, eA 0 24 fr, eA 1 2 kp, eA 0 600 bM, eA 2 6 oM], (0, 0))) rfl (w_Z (z_refF (c := (0, 0))) rfl rfl rfl) ?_
  refine xEqT (N := 1) (x := 0) (y := 0) (A := ev m_M_addWord 63 [some (eR 0), some (eI x)] [] ([mW (eUp P 10 0), eA 0 964 g, eA 0 964 gp, eA 0 964 gt, eA 0 7712 gr, eA 0 1928 gs, eA 0 144 mk, eA 0 24 fr, eA 1 2 kp, eA 0 600 bM, eA 2 6 oM], (0, 0))) (B := ev m_M_addWord 61 [some (eR 0), some (eI x)] [] ([mW (eUp P 10 0), eA 0 964 g, eA 0 964 gp, eA 0 964 gt, eA 0 7712 gr, eA 0 1928 gs, eA 0 144 mk, eA 0 24 fr, eA 1 2 kp, eA 0 600 bM, eA 2 6 oM], (0, 0))) rfl (show wr 0 = 0 by decide) (show wr 0 = 0 by decide) (by decide) ?_
  refine xCallWV (N := 2) (M2 := m_M_addWord) (pc2 := 64) (ls2 := [some (eR 0), some (eI x)]) (st2 := []) (y := m_M_remember) (as := [some (eR 0)]) (w2 := ([mW (eUp P 10 0), eA 0 964 g, eA 0 964 gp, eA 0 964 gt, eA 0 7712 gr, eA 0 1928 gs, eA 0 144 mk, eA 0 24 fr, eA 1 2 kp, eA 0 600 bM, eA 2 6 oM], (0, 0))) rfl rem9 ?_
  refine xCallW (N := 5) (M2 := m_M_addWord) (pc2 := 73) (ls2 := [some (eR 0), some (eI x)]) (st2 := []) (y := m_M_adds) (as := [some (eR 0), some (eR 1), some (eI x)]) (w2 := ([mW P9, eA 0 964 g, eA 0 964 gp, eA 0 964 gt, eA 0 7712 gr9, eA 0 1928 gs, eA 0 144 mk, eA 0 24 fr, eA 1 2 kp, eA 0 600 bM, eA 2 6 oM], (0, 0))) rfl (w_row op9 rfl rfl rfl) ?_
  refine xSeg (N := 1) (r := some (.inl (some (eI b9)), ([mW P9, eA 0 964 g9, eA 0 964 gp, eA 0 964 gt, eA 0 7712 gr9, eA 0 1928 gs, eA 0 144 mk9, eA 0 24 fr9, eA 1 2 kp, eA 0 600 bM, eA 2 6 oM], (0, 0)))) rfl ?_
  rfl
theorem km_addWordF {a : eRow} {X : xT} {x : Int} {cd : Nat} (hx : x = (cd : Int)) (hc : cd < 2147483648) (hl : loN cd ≠ 0) (h30 : a 2 < 30) (hf : fnd (fun k => decide (a (88 + k) = cd)) (a 2) 0 ≠ -1) : KM m_M_addWord [some (eI x)] a X (a) (X) 2 (0) := by
  intro P g gp gt gr gs mk fr kp bM oM us t0 h
  have h8 := h
  obtain ⟨⟨hg, hI, hB⟩, r2, ⟨r3, r3n, r3b⟩, r4, ⟨r5, r5n, r5b⟩, ⟨p1, p2, p3, p4, p5⟩, r7⟩ := h
  have hI8 := hI
  obtain ⟨hG, ⟨v1, v2⟩, hO, hT, hM⟩ := hI8
  obtain ⟨⟨q1, q2, q3, q4, q5⟩, q6⟩ := hG
  have b5 := iT_24 q5 hT
  have e0 := hg 0 (by omega)
  have e1 := hg 1 (by omega)
  have e2 := hg 2 (by omega)
  have e3 := hg 3 (by omega)
  have e4 := hg 4 (by omega)
  have e5 := hg 5 (by omega)
  obtain ⟨z9, hz9, bz9, hlo⟩ := n_lo1 (w := ([mW (eUp P 10 0), eA 0 964 g, eA 0 964 gp, eA 0 964 gt, eA 0 7712 gr, eA 0 1928 gs, eA 0 144 mk, eA 0 24 fr, eA 1 2 kp, eA 0 600 bM, eA 2 6 oM], (0, 0))) hx hc hl
  have hwo := n_wordOf (c := (0, 0)) hg ⟨v1, v2⟩ hx hc
  have hfb := fnd_b (p := fun k => decide (a (88 + k) = cd)) (d := a 2) (k := 0)
  generalize hr9 : fnd (fun k => decide (a (88 + k) = cd)) (a 2) 0 = r9 at hwo hfb
  refine ⟨eUp (eUp P 10 0) 10 2, g, gp, gt, gr, gs, mk, fr, kp, bM, oM, us, 0, MR_t (MR_t h8), fun _ => rfl, ?_⟩
  refine xCall (N := 6) (M2 := m_M_addWord) (pc2 := 7) (ls2 := [some (eR 0), some (eI x)]) (st2 := [eR 0]) (y := m_M_lettersOf) (as := [some (eI x)]) (w2 := ([mW (eUp P 10 0), eA 0 964 g, eA 0 964 gp, eA 0 964 gt, eA 0 7712 gr, eA 0 1928 gs, eA 0 144 mk, eA 0 24 fr, eA 1 2 kp, eA 0 600 bM, eA 2 6 oM], (0, 0))) rfl hlo ?_
  refine xEqF (N := 1) (x := z9) (y := 0) (A := ev m_M_addWord 13 [some (eR 0), some (eI x)] [eR 0] ([mW (eUp P 10 0), eA 0 964 g, eA 0 964 gp, eA 0 964 gt, eA 0 7712 gr, eA 0 1928 gs, eA 0 144 mk, eA 0 24 fr, eA 1 2 kp, eA 0 600 bM, eA 2 6 oM], (0, 0))) (B := ev m_M_addWord 17 [some (eR 0), some (eI x)] [eR 0] ([mW (eUp P 10 0), eA 0 964 g, eA 0 964 gp, eA 0 964 gt, eA 0 7712 gr, eA 0 1928 gs, eA 0 144 mk, eA 0 24 fr, eA 1 2 kp, eA 0 600 bM, eA 2 6 oM], (0, 0))) rfl (wr_id (by omega) (by omega)) (show wr 0 = 0 by decide) hz9 ?_
  refine xCallW (N := 3) (M2 := m_M_addWord) (pc2 := 19) (ls2 := [some (eR 0), some (eI x)]) (st2 := []) (y := m_M_refuses) (as := [some (eR 0), some (eI 0), some (eI 1)]) (w2 := ([mW (eUp P 10 0), eA 0 964 g, eA 0 964 gp, eA 0 964 gt, eA 0 7712 gr, eA 0 1928 gs, eA 0 144 mk, eA 0 24 fr, eA 1 2 kp, eA 0 600 bM, eA 2 6 oM], (0, 0))) rfl (w_Z (z_refF (c := (0, 0))) rfl rfl rfl) ?_
  refine xEqT (N := 1) (x := 0) (y := 0) (A := ev m_M_addWord 25 [some (eR 0), some (eI x)] [] ([mW (eUp P 10 0), eA 0 964 g, eA 0 964 gp, eA 0 964 gt, eA 0 7712 gr, eA 0 1928 gs, eA 0 144 mk, eA 0 24 fr, eA 1 2 kp, eA 0 600 bM, eA 2 6 oM], (0, 0))) (B := ev m_M_addWord 61 [some (eR 0), some (eI x)] [] ([mW (eUp P 10 0), eA 0 964 g, eA 0 964 gp, eA 0 964 gt, eA 0 7712 gr, eA 0 1928 gs, eA 0 144 mk, eA 0 24 fr, eA 1 2 kp, eA 0 600 bM, eA 2 6 oM], (0, 0))) rfl (show wr 0 = 0 by decide) (show wr 0 = 0 by decide) (by decide) ?_
  refine xLd (N := 5) (n := 964) (i := 2) (F := fun zq => ev m_M_addWord 32 [some (eR 0), some (eI x)] [eI (g zq), eR 0] ([mW (eUp P 10 0), eA 0 964 g, eA 0 964 gp, eA 0 964 gt, eA 0 7712 gr, eA 0 1928 gs, eA 0 144 mk, eA 0 24 fr, eA 1 2 kp, eA 0 600 bM, eA 2 6 oM], (0, 0))) (k := 2) rfl (show wr 2 = ((2 : Nat) : Int) by decide) (by omega) ?_
  refine xEqF (N := 2) (x := g 2) (y := 30) (A := ev m_M_addWord 49 [some (eR 0), some (eI x)] [eR 0] ([mW (eUp P 10 0), eA 0 964 g, eA 0 964 gp, eA 0 964 gt, eA 0 7712 gr, eA 0 1928 gs, eA 0 144 mk, eA 0 24 fr, eA 1 2 kp, eA 0 600 bM, eA 2 6 oM], (0, 0))) (B := ev m_M_addWord 37 [some (eR 0), some (eI x)] [eR 0] ([mW (eUp P 10 0), eA 0 964 g, eA 0 964 gp, eA 0 964 gt, eA 0 7712 gr, eA 0 1928 gs, eA 0 144 mk, eA 0 24 fr, eA 1 2 kp, eA 0 600 bM, eA 2 6 oM], (0, 0))) rfl (wr_id (by omega) (by omega)) (show wr 30 = 30 by decide) (by omega) ?_
  refine xCall (N := 4) (M2 := m_M_addWord) (pc2 := 42) (ls2 := [some (eR 0), some (eI x)]) (st2 := [eR 0]) (y := m_M_wordOf) (as := [some (eR 1), some (eI x)]) (w2 := ([mW (eUp P 10 0), eA 0 964 g, eA 0 964 gp, eA 0 964 gt, eA 0 7712 gr, eA 0 1928 gs, eA 0 144 mk, eA 0 24 fr, eA 1 2 kp, eA 0 600 bM, eA 2 6 oM], (0, 0))) rfl (w_g hwo rfl rfl rfl) ?_
  refine xEqF (N := 2) (x := r9) (y := (-1)) (A := ev m_M_addWord 53 [some (eR 0), some (eI x)] [eR 0] ([mW (eUp P 10 0), eA 0 964 g, eA 0 964 gp, eA 0 964 gt, eA 0 7712 gr, eA 0 1928 gs, eA 0 144 mk, eA 0 24 fr, eA 1 2 kp, eA 0 600 bM, eA 2 6 oM], (0, 0))) (B := ev m_M_addWord 49 [some (eR 0), some (eI x)] [eR 0] ([mW (eUp P 10 0), eA 0 964 g, eA 0 964 gp, eA 0 964 gt, eA 0 7712 gr, eA 0 1928 gs, eA 0 144 mk, eA 0 24 fr, eA 1 2 kp, eA 0 600 bM, eA 2 6 oM], (0, 0))) rfl (wr_id (by omega) (by omega)) (show wr (-1) = (-1) by decide) (by omega) ?_
  refine xCallW (N := 4) (M2 := m_M_addWord) (pc2 := 55) (ls2 := [some (eR 0), some (eI x)]) (st2 := []) (y := m_M_refuses) (as := [some (eR 0), some (eI 1), some (eI 2)]) (w2 := ([mW (eUp P 10 0), eA 0 964 g, eA 0 964 gp, eA 0 964 gt, eA 0 7712 gr, eA 0 1928 gs, eA 0 144 mk, eA 0 24 fr, eA 1 2 kp, eA 0 600 bM, eA 2 6 oM], (0, 0))) rfl (w_Z (z_refT (c := (0, 0)) (by omega)) rfl rfl rfl) ?_
  refine xEqF (N := 1) (x := 1) (y := 0) (A := ev m_M_addWord 63 [some (eR 0), some (eI x)] [] ([mW (eUp (eUp P 10 0) 10 2), eA 0 964 g, eA 0 964 gp, eA 0 964 gt, eA 0 7712 gr, eA 0 1928 gs, eA 0 144 mk, eA 0 24 fr, eA 1 2 kp, eA 0 600 bM, eA 2 6 oM], (0, 0))) (B := ev m_M_addWord 61 [some (eR 0), some (eI x)] [] ([mW (eUp (eUp P 10 0) 10 2), eA 0 964 g, eA 0 964 gp, eA 0 964 gt, eA 0 7712 gr, eA 0 1928 gs, eA 0 144 mk, eA 0 24 fr, eA 1 2 kp, eA 0 600 bM, eA 2 6 oM], (0, 0))) rfl (show wr 1 = 1 by decide) (show wr 0 = 0 by decide) (by decide) ?_
  refine xSeg (N := 2) (r := some (.inl (some (eI 0)), ([mW (eUp (eUp P 10 0) 10 2), eA 0 964 g, eA 0 964 gp, eA 0 964 gt, eA 0 7712 gr, eA 0 1928 gs, eA 0 144 mk, eA 0 24 fr, eA 1 2 kp, eA 0 600 bM, eA 2 6 oM], (0, 0)))) rfl ?_
  rfl
theorem km_addWordM {a : eRow} {X : xT} {x : Int} {cd : Nat} (hx : x = (cd : Int)) (hc : cd < 2147483648) (hl : loN cd ≠ 0) (h30 : a 2 = 30) : KM m_M_addWord [some (eI x)] a X (a) (X) 2 (0) := by
  intro P g gp gt gr gs mk fr kp bM oM us t0 h
  have h8 := h
  obtain ⟨⟨hg, hI, hB⟩, r2, ⟨r3, r3n, r3b⟩, r4, ⟨r5, r5n, r5b⟩, ⟨p1, p2, p3, p4, p5⟩, r7⟩ := h
  have hI8 := hI
  obtain ⟨hG, ⟨v1, v2⟩, hO, hT, hM⟩ := hI8
  obtain ⟨⟨q1, q2, q3, q4, q5⟩, q6⟩ := hG
  have b5 := iT_24 q5 hT
  have e0 := hg 0 (by omega)
  have e1 := hg 1 (by omega)
  have e2 := hg 2 (by omega)
  have e3 := hg 3 (by omega)
  have e4 := hg 4 (by omega)
  have e5 := hg 5 (by omega)
  obtain ⟨z9, hz9, bz9, hlo⟩ := n_lo1 (w := ([mW (eUp P 10 0), eA 0 964 g, eA 0 964 gp, eA 0 964 gt, eA 0 7712 gr, eA 0 1928 gs, eA 0 144 mk, eA 0 24 fr, eA 1 2 kp, eA 0 600 bM, eA 2 6 oM], (0, 0))) hx hc hl
  refine ⟨eUp (eUp P 10 0) 10 2, g, gp, gt, gr, gs, mk, fr, kp, bM, oM, us, 0, MR_t (MR_t h8), fun _ => rfl, ?_⟩
  refine xCall (N := 6) (M2 := m_M_addWord) (pc2 := 7) (ls2 := [some (eR 0), some (eI x)]) (st2 := [eR 0]) (y := m_M_lettersOf) (as := [some (eI x)]) (w2 := ([mW (eUp P 10 0), eA 0 964 g, eA 0 964 gp, eA 0 964 gt, eA 0 7712 gr, eA 0 1928 gs, eA 0 144 mk, eA 0 24 fr, eA 1 2 kp, eA 0 600 bM, eA 2 6 oM], (0, 0))) rfl hlo ?_
  refine xEqF (N := 1) (x := z9) (y := 0) (A := ev m_M_addWord 13 [some (eR 0), some (eI x)] [eR 0] ([mW (eUp P 10 0), eA 0 964 g, eA 0 964 gp, eA 0 964 gt, eA 0 7712 gr, eA 0 1928 gs, eA 0 144 mk, eA 0 24 fr, eA 1 2 kp, eA 0 600 bM, eA 2 6 oM], (0, 0))) (B := ev m_M_addWord 17 [some (eR 0), some (eI x)] [eR 0] ([mW (eUp P 10 0), eA 0 964 g, eA 0 964 gp, eA 0 964 gt, eA 0 7712 gr, eA 0 1928 gs, eA 0 144 mk, eA 0 24 fr, eA 1 2 kp, eA 0 600 bM, eA 2 6 oM], (0, 0))) rfl (wr_id (by omega) (by omega)) (show wr 0 = 0 by decide) hz9 ?_
  refine xCallW (N := 3) (M2 := m_M_addWord) (pc2 := 19) (ls2 := [some (eR 0), some (eI x)]) (st2 := []) (y := m_M_refuses) (as := [some (eR 0), some (eI 0), some (eI 1)]) (w2 := ([mW (eUp P 10 0), eA 0 964 g, eA 0 964 gp, eA 0 964 gt, eA 0 7712 gr, eA 0 1928 gs, eA 0 144 mk, eA 0 24 fr, eA 1 2 kp, eA 0 600 bM, eA 2 6 oM], (0, 0))) rfl (w_Z (z_refF (c := (0, 0))) rfl rfl rfl) ?_
  refine xEqT (N := 1) (x := 0) (y := 0) (A := ev m_M_addWord 25 [some (eR 0), some (eI x)] [] ([mW (eUp P 10 0), eA 0 964 g, eA 0 964 gp, eA 0 964 gt, eA 0 7712 gr, eA 0 1928 gs, eA 0 144 mk, eA 0 24 fr, eA 1 2 kp, eA 0 600 bM, eA 2 6 oM], (0, 0))) (B := ev m_M_addWord 61 [some (eR 0), some (eI x)] [] ([mW (eUp P 10 0), eA 0 964 g, eA 0 964 gp, eA 0 964 gt, eA 0 7712 gr, eA 0 1928 gs, eA 0 144 mk, eA 0 24 fr, eA 1 2 kp, eA 0 600 bM, eA 2 6 oM], (0, 0))) rfl (show wr 0 = 0 by decide) (show wr 0 = 0 by decide) (by decide) ?_
  refine xLd (N := 5) (n := 964) (i := 2) (F := fun zq => ev m_M_addWord 32 [some (eR 0), some (eI x)] [eI (g zq), eR 0] ([mW (eUp P 10 0), eA 0 964 g, eA 0 964 gp, eA 0 964 gt, eA 0 7712 gr, eA 0 1928 gs, eA 0 144 mk, eA 0 24 fr, eA 1 2 kp, eA 0 600 bM, eA 2 6 oM], (0, 0))) (k := 2) rfl (show wr 2 = ((2 : Nat) : Int) by decide) (by omega) ?_
  refine xEqT (N := 2) (x := g 2) (y := 30) (A := ev m_M_addWord 49 [some (eR 0), some (eI x)] [eR 0] ([mW (eUp P 10 0), eA 0 964 g, eA 0 964 gp, eA 0 964 gt, eA 0 7712 gr, eA 0 1928 gs, eA 0 144 mk, eA 0 24 fr, eA 1 2 kp, eA 0 600 bM, eA 2 6 oM], (0, 0))) (B := ev m_M_addWord 37 [some (eR 0), some (eI x)] [eR 0] ([mW (eUp P 10 0), eA 0 964 g, eA 0 964 gp, eA 0 964 gt, eA 0 7712 gr, eA 0 1928 gs, eA 0 144 mk, eA 0 24 fr, eA 1 2 kp, eA 0 600 bM, eA 2 6 oM], (0, 0))) rfl (wr_id (by omega) (by omega)) (show wr 30 = 30 by decide) (by omega) ?_
  refine xCallW (N := 4) (M2 := m_M_addWord) (pc2 := 55) (ls2 := [some (eR 0), some (eI x)]) (st2 := []) (y := m_M_refuses) (as := [some (eR 0), some (eI 1), some (eI 2)]) (w2 := ([mW (eUp P 10 0), eA 0 964 g, eA 0 964 gp, eA 0 964 gt, eA 0 7712 gr, eA 0 1928 gs, eA 0 144 mk, eA 0 24 fr, eA 1 2 kp, eA 0 600 bM, eA 2 6 oM], (0, 0))) rfl (w_Z (z_refT (c := (0, 0)) (by omega)) rfl rfl rfl) ?_
  refine xEqF (N := 1) (x := 1) (y := 0) (A := ev m_M_addWord 63 [some (eR 0), some (eI x)] [] ([mW (eUp (eUp P 10 0) 10 2), eA 0 964 g, eA 0 964 gp, eA 0 964 gt, eA 0 7712 gr, eA 0 1928 gs, eA 0 144 mk, eA 0 24 fr, eA 1 2 kp, eA 0 600 bM, eA 2 6 oM], (0, 0))) (B := ev m_M_addWord 61 [some (eR 0), some (eI x)] [] ([mW (eUp (eUp P 10 0) 10 2), eA 0 964 g, eA 0 964 gp, eA 0 964 gt, eA 0 7712 gr, eA 0 1928 gs, eA 0 144 mk, eA 0 24 fr, eA 1 2 kp, eA 0 600 bM, eA 2 6 oM], (0, 0))) rfl (show wr 1 = 1 by decide) (show wr 0 = 0 by decide) (by decide) ?_
  refine xSeg (N := 2) (r := some (.inl (some (eI 0)), ([mW (eUp (eUp P 10 0) 10 2), eA 0 964 g, eA 0 964 gp, eA 0 964 gt, eA 0 7712 gr, eA 0 1928 gs, eA 0 144 mk, eA 0 24 fr, eA 1 2 kp, eA 0 600 bM, eA 2 6 oM], (0, 0)))) rfl ?_
  rfl
theorem km_addWordX {a : eRow} {X : xT} {x : Int} (bx : -2147483648 ≤ x ∧ x < 2147483648) (hl : ∀ cd : Nat, x = (cd : Int) → loN cd = 0) : KM m_M_addWord [some (eI x)] a X (a) (X) 1 (0) := by
  intro P g gp gt gr gs mk fr kp bM oM us t0 h
  have h8 := h
  obtain ⟨⟨hg, hI, hB⟩, r2, ⟨r3, r3n, r3b⟩, r4, ⟨r5, r5n, r5b⟩, ⟨p1, p2, p3, p4, p5⟩, r7⟩ := h
  have hI8 := hI
  obtain ⟨hG, ⟨v1, v2⟩, hO, hT, hM⟩ := hI8
  obtain ⟨⟨q1, q2, q3, q4, q5⟩, q6⟩ := hG
  have b5 := iT_24 q5 hT
  have e0 := hg 0 (by omega)
  have e1 := hg 1 (by omega)
  have e2 := hg 2 (by omega)
  have e3 := hg 3 (by omega)
  have e4 := hg 4 (by omega)
  have e5 := hg 5 (by omega)
  have hlo := n_lo0 (w := ([mW (eUp P 10 0), eA 0 964 g, eA 0 964 gp, eA 0 964 gt, eA 0 7712 gr, eA 0 1928 gs, eA 0 144 mk, eA 0 24 fr, eA 1 2 kp, eA 0 600 bM, eA 2 6 oM], (0, 0))) bx hl
  refine ⟨eUp (eUp P 10 0) 10 1, g, gp, gt, gr, gs, mk, fr, kp, bM, oM, us, 0, MR_t (MR_t h8), fun _ => rfl, ?_⟩
  refine xCall (N := 6) (M2 := m_M_addWord) (pc2 := 7) (ls2 := [some (eR 0), some (eI x)]) (st2 := [eR 0]) (y := m_M_lettersOf) (as := [some (eI x)]) (w2 := ([mW (eUp P 10 0), eA 0 964 g, eA 0 964 gp, eA 0 964 gt, eA 0 7712 gr, eA 0 1928 gs, eA 0 144 mk, eA 0 24 fr, eA 1 2 kp, eA 0 600 bM, eA 2 6 oM], (0, 0))) rfl hlo ?_
  refine xEqT (N := 1) (x := 0) (y := 0) (A := ev m_M_addWord 13 [some (eR 0), some (eI x)] [eR 0] ([mW (eUp P 10 0), eA 0 964 g, eA 0 964 gp, eA 0 964 gt, eA 0 7712 gr, eA 0 1928 gs, eA 0 144 mk, eA 0 24 fr, eA 1 2 kp, eA 0 600 bM, eA 2 6 oM], (0, 0))) (B := ev m_M_addWord 17 [some (eR 0), some (eI x)] [eR 0] ([mW (eUp P 10 0), eA 0 964 g, eA 0 964 gp, eA 0 964 gt, eA 0 7712 gr, eA 0 1928 gs, eA 0 144 mk, eA 0 24 fr, eA 1 2 kp, eA 0 600 bM, eA 2 6 oM], (0, 0))) rfl (show wr 0 = 0 by decide) (show wr 0 = 0 by decide) (by decide) ?_
  refine xCallW (N := 4) (M2 := m_M_addWord) (pc2 := 19) (ls2 := [some (eR 0), some (eI x)]) (st2 := []) (y := m_M_refuses) (as := [some (eR 0), some (eI 1), some (eI 1)]) (w2 := ([mW (eUp P 10 0), eA 0 964 g, eA 0 964 gp, eA 0 964 gt, eA 0 7712 gr, eA 0 1928 gs, eA 0 144 mk, eA 0 24 fr, eA 1 2 kp, eA 0 600 bM, eA 2 6 oM], (0, 0))) rfl (w_Z (z_refT (c := (0, 0)) (by omega)) rfl rfl rfl) ?_
  refine xEqF (N := 1) (x := 1) (y := 0) (A := ev m_M_addWord 25 [some (eR 0), some (eI x)] [] ([mW (eUp (eUp P 10 0) 10 1), eA 0 964 g, eA 0 964 gp, eA 0 964 gt, eA 0 7712 gr, eA 0 1928 gs, eA 0 144 mk, eA 0 24 fr, eA 1 2 kp, eA 0 600 bM, eA 2 6 oM], (0, 0))) (B := ev m_M_addWord 61 [some (eR 0), some (eI x)] [] ([mW (eUp (eUp P 10 0) 10 1), eA 0 964 g, eA 0 964 gp, eA 0 964 gt, eA 0 7712 gr, eA 0 1928 gs, eA 0 144 mk, eA 0 24 fr, eA 1 2 kp, eA 0 600 bM, eA 2 6 oM], (0, 0))) rfl (show wr 1 = 1 by decide) (show wr 0 = 0 by decide) (by decide) ?_
  refine xSeg (N := 2) (r := some (.inl (some (eI 0)), ([mW (eUp (eUp P 10 0) 10 1), eA 0 964 g, eA 0 964 gp, eA 0 964 gt, eA 0 7712 gr, eA 0 1928 gs, eA 0 144 mk, eA 0 24 fr, eA 1 2 kp, eA 0 600 bM, eA 2 6 oM], (0, 0)))) rfl ?_
  rfl
theorem km_load {a : eRow} {X : xT} {r : eRow} (ht : txS X.2.2.1.2 X.2.2.1.1 = .inr (none, r)) : KM m_M_load [] a X (r) (pushX (inX (erX X none) 0 X.2.2.1.2) a) 0 (((r 2 : Nat) : Int)) := by
  intro P g gp gt gr gs mk fr kp bM oM us t0 h
  have h8 := h
  obtain ⟨⟨hg, hI, hB⟩, r2, ⟨r3, r3n, r3b⟩, r4, ⟨r5, r5n, r5b⟩, ⟨p1, p2, p3, p4, p5⟩, r7⟩ := h
  have hI8 := hI
  obtain ⟨hG, ⟨v1, v2⟩, hO, hT, hM⟩ := hI8
  obtain ⟨⟨q1, q2, q3, q4, q5⟩, q6⟩ := hG
  have b5 := iT_24 q5 hT
  have e0 := hg 0 (by omega)
  have e1 := hg 1 (by omega)
  have e2 := hg 2 (by omega)
  have e3 := hg 3 (by omega)
  have e4 := hg 4 (by omega)
  have e5 := hg 5 (by omega)
  obtain ⟨P6, g6, mk6, fr6, u6, er6, rw6, rd6⟩ := m_rd (P := eUp P 10 0) (gp := gp) (mk := mk) (fr := fr) (bM := bM) r3 r3n r3b
  have u68 : P6 10 = 0 := (u6 10 (by omega)).trans eUp_at
  have R6 := MR_in (n := 0) (B := X.2.2.1.2) (bM' := bM) (z := 0) (MR_er (MR_t (t' := 0) h8) u6 er6) rfl (by omega) (fun i hi => by omega)
  have er6 : erM P6 none := by
    rw [ht] at er6
    exact er6
  have er61 : P6 18 = 0 := er6.1
  obtain ⟨hr6, hr7⟩ := rw6 _ ht
  rw [ht] at R6
  obtain ⟨P9, gr9, us9, R9, kU9, rem9⟩ := m_remember (gp := g6) (gt := gt) (mk := mk6) (fr := fr6) (c := (0, 0)) R6
  have hcp := n_copyRow (f := g6) (h := g) (c := (0, 0)) (x := 0) (y := 0) (n := 964) (n2 := 964) (I := 0) (J := 0) rfl rfl (by omega) (by omega) (by omega) (by omega)
  have R8 := MR_cpy (f := g6) (I := 0) R9 (fun i hi => by rw [Nat.zero_add]; exact hr6 i hi) hr7
  generalize cpR g6 g 0 0 964 = g9 at hcp R8
  have e29 := R8.1.1 2 (by omega)
  refine ⟨P9, g9, g6, gt, gr9, gs, mk6, fr6, kp, bM, oM, us9, g9 2, R8, fun _ => e29, ?_⟩
  refine xCallWV (N := 5) (M2 := m_M_load) (pc2 := 6) (ls2 := [some (eR 0)]) (st2 := []) (y := m_M_read) (as := [some (eR 0)]) (w2 := ([mW (eUp P 10 0), eA 0 964 g, eA 0 964 gp, eA 0 964 gt, eA 0 7712 gr, eA 0 1928 gs, eA 0 144 mk, eA 0 24 fr, eA 1 2 kp, eA 0 600 bM, eA 2 6 oM], (0, 0))) rfl (w_rd rd6 rfl rfl rfl) ?_
  refine xEqT (N := 7) (x := P6 18) (y := 0) (A := ev m_M_load 26 [some (eR 0)] [eR 0] ([mW (eUp P6 12 0), eA 0 964 g, eA 0 964 g6, eA 0 964 gt, eA 0 7712 gr, eA 0 1928 gs, eA 0 144 mk6, eA 0 24 fr6, eA 1 2 kp, eA 0 600 bM, eA 2 6 oM], (0, 0))) (B := ev m_M_load 22 [some (eR 0)] [eR 0] ([mW (eUp P6 12 0), eA 0 964 g, eA 0 964 g6, eA 0 964 gt, eA 0 7712 gr, eA 0 1928 gs, eA 0 144 mk6, eA 0 24 fr6, eA 1 2 kp, eA 0 600 bM, eA 2 6 oM], (0, 0))) rfl (wr_id (by omega) (by omega)) (show wr 0 = 0 by decide) er61 ?_
  refine xCallW (N := 3) (M2 := m_M_load) (pc2 := 28) (ls2 := [some (eR 0)]) (st2 := []) (y := m_M_refuses) (as := [some (eR 0), some (eI 0), some (eI 1)]) (w2 := ([mW (eUp P6 12 0), eA 0 964 g, eA 0 964 g6, eA 0 964 gt, eA 0 7712 gr, eA 0 1928 gs, eA 0 144 mk6, eA 0 24 fr6, eA 1 2 kp, eA 0 600 bM, eA 2 6 oM], (0, 0))) rfl (w_Z (z_refF2 (by rw [eUp_ne (by omega)]; exact u68)) rfl rfl rfl) ?_
  refine xEqT (N := 1) (x := 0) (y := 0) (A := ev m_M_load 36 [some (eR 0)] [] ([mW (eUp P6 12 0), eA 0 964 g, eA 0 964 g6, eA 0 964 gt, eA 0 7712 gr, eA 0 1928 gs, eA 0 144 mk6, eA 0 24 fr6, eA 1 2 kp, eA 0 600 bM, eA 2 6 oM], (0, 0))) (B := ev m_M_load 34 [some (eR 0)] [] ([mW (eUp P6 12 0), eA 0 964 g, eA 0 964 g6, eA 0 964 gt, eA 0 7712 gr, eA 0 1928 gs, eA 0 144 mk6, eA 0 24 fr6, eA 1 2 kp, eA 0 600 bM, eA 2 6 oM], (0, 0))) rfl (show wr 0 = 0 by decide) (show wr 0 = 0 by decide) (by decide) ?_
  refine xCallWV (N := 2) (M2 := m_M_load) (pc2 := 37) (ls2 := [some (eR 0)]) (st2 := []) (y := m_M_remember) (as := [some (eR 0)]) (w2 := ([mW (eUp P6 12 0), eA 0 964 g, eA 0 964 g6, eA 0 964 gt, eA 0 7712 gr, eA 0 1928 gs, eA 0 144 mk6, eA 0 24 fr6, eA 1 2 kp, eA 0 600 bM, eA 2 6 oM], (0, 0))) rfl rem9 ?_
  refine xCallV (N := 7) (M2 := m_M_load) (pc2 := 50) (ls2 := [some (eR 0)]) (st2 := []) (y := m_M_copyRow) (as := [some (eR 2), some (eI 0), some (eR 1), some (eI 0)]) (w2 := ([mW P9, eA 0 964 g, eA 0 964 g6, eA 0 964 gt, eA 0 7712 gr9, eA 0 1928 gs, eA 0 144 mk6, eA 0 24 fr6, eA 1 2 kp, eA 0 600 bM, eA 2 6 oM], (0, 0))) rfl (w_cpP hcp rfl rfl rfl) ?_
  refine xLd (N := 4) (n := 964) (i := 2) (F := fun zq => ev m_M_load 59 [some (eR 0)] [eI (g9 zq)] ([mW P9, eA 0 964 g9, eA 0 964 g6, eA 0 964 gt, eA 0 7712 gr9, eA 0 1928 gs, eA 0 144 mk6, eA 0 24 fr6, eA 1 2 kp, eA 0 600 bM, eA 2 6 oM], (0, 0))) (k := 2) rfl (show wr 2 = ((2 : Nat) : Int) by decide) (by omega) ?_
  refine xSeg (N := 1) (r := some (.inl (some (eI (g9 2))), ([mW P9, eA 0 964 g9, eA 0 964 g6, eA 0 964 gt, eA 0 7712 gr9, eA 0 1928 gs, eA 0 144 mk6, eA 0 24 fr6, eA 1 2 kp, eA 0 600 bM, eA 2 6 oM], (0, 0)))) rfl ?_
  rfl
theorem km_loadX {a : eRow} {X : xT} {z : Nat × Nat} (ht : erT (txS X.2.2.1.2 X.2.2.1.1) = some z) : KM m_M_load [] a X (a) (inX (erX X (some z)) 0 X.2.2.1.2) 1 (0) := by
  intro P g gp gt gr gs mk fr kp bM oM us t0 h
  have h8 := h
  obtain ⟨⟨hg, hI, hB⟩, r2, ⟨r3, r3n, r3b⟩, r4, ⟨r5, r5n, r5b⟩, ⟨p1, p2, p3, p4, p5⟩, r7⟩ := h
  have hI8 := hI
  obtain ⟨hG, ⟨v1, v2⟩, hO, hT, hM⟩ := hI8
  obtain ⟨⟨q1, q2, q3, q4, q5⟩, q6⟩ := hG
  have b5 := iT_24 q5 hT
  have e0 := hg 0 (by omega)
  have e1 := hg 1 (by omega)
  have e2 := hg 2 (by omega)
  have e3 := hg 3 (by omega)
  have e4 := hg 4 (by omega)
  have e5 := hg 5 (by omega)
  obtain ⟨P6, g6, mk6, fr6, u6, er6, rw6, rd6⟩ := m_rd (P := eUp P 10 0) (gp := gp) (mk := mk) (fr := fr) (bM := bM) r3 r3n r3b
  have u68 : P6 10 = 0 := (u6 10 (by omega)).trans eUp_at
  have R6 := MR_in (n := 0) (B := X.2.2.1.2) (bM' := bM) (z := 0) (MR_er (MR_t (t' := 0) h8) u6 er6) rfl (by omega) (fun i hi => by omega)
  rw [ht] at R6 er6
  obtain ⟨w1, w2, w3, w4⟩ := er6
  refine ⟨eUp (eUp P6 12 0) 10 1, g, g6, gt, gr, gs, mk6, fr6, kp, bM, oM, us, 0, MR_t R6, fun _ => rfl, ?_⟩
  refine xCallWV (N := 5) (M2 := m_M_load) (pc2 := 6) (ls2 := [some (eR 0)]) (st2 := []) (y := m_M_read) (as := [some (eR 0)]) (w2 := ([mW (eUp P 10 0), eA 0 964 g, eA 0 964 gp, eA 0 964 gt, eA 0 7712 gr, eA 0 1928 gs, eA 0 144 mk, eA 0 24 fr, eA 1 2 kp, eA 0 600 bM, eA 2 6 oM], (0, 0))) rfl (w_rd rd6 rfl rfl rfl) ?_
  refine xEqF (N := 7) (x := P6 18) (y := 0) (A := ev m_M_load 26 [some (eR 0)] [eR 0] ([mW (eUp P6 12 0), eA 0 964 g, eA 0 964 g6, eA 0 964 gt, eA 0 7712 gr, eA 0 1928 gs, eA 0 144 mk6, eA 0 24 fr6, eA 1 2 kp, eA 0 600 bM, eA 2 6 oM], (0, 0))) (B := ev m_M_load 22 [some (eR 0)] [eR 0] ([mW (eUp P6 12 0), eA 0 964 g, eA 0 964 g6, eA 0 964 gt, eA 0 7712 gr, eA 0 1928 gs, eA 0 144 mk6, eA 0 24 fr6, eA 1 2 kp, eA 0 600 bM, eA 2 6 oM], (0, 0))) rfl (wr_id (by omega) (by omega)) (show wr 0 = 0 by decide) (by omega) ?_
  refine xCallW (N := 4) (M2 := m_M_load) (pc2 := 28) (ls2 := [some (eR 0)]) (st2 := []) (y := m_M_refuses) (as := [some (eR 0), some (eI 1), some (eI 1)]) (w2 := ([mW (eUp P6 12 0), eA 0 964 g, eA 0 964 g6, eA 0 964 gt, eA 0 7712 gr, eA 0 1928 gs, eA 0 144 mk6, eA 0 24 fr6, eA 1 2 kp, eA 0 600 bM, eA 2 6 oM], (0, 0))) rfl (w_Z (z_refT2 (by rw [eUp_ne (by omega)]; exact u68) (by omega)) rfl rfl rfl) ?_
  refine xEqF (N := 1) (x := 1) (y := 0) (A := ev m_M_load 36 [some (eR 0)] [] ([mW (eUp (eUp P6 12 0) 10 1), eA 0 964 g, eA 0 964 g6, eA 0 964 gt, eA 0 7712 gr, eA 0 1928 gs, eA 0 144 mk6, eA 0 24 fr6, eA 1 2 kp, eA 0 600 bM, eA 2 6 oM], (0, 0))) (B := ev m_M_load 34 [some (eR 0)] [] ([mW (eUp (eUp P6 12 0) 10 1), eA 0 964 g, eA 0 964 g6, eA 0 964 gt, eA 0 7712 gr, eA 0 1928 gs, eA 0 144 mk6, eA 0 24 fr6, eA 1 2 kp, eA 0 600 bM, eA 2 6 oM], (0, 0))) rfl (show wr 1 = 1 by decide) (show wr 0 = 0 by decide) (by decide) ?_
  refine xSeg (N := 2) (r := some (.inl (some (eI 0)), ([mW (eUp (eUp P6 12 0) 10 1), eA 0 964 g, eA 0 964 g6, eA 0 964 gt, eA 0 7712 gr, eA 0 1928 gs, eA 0 144 mk6, eA 0 24 fr6, eA 1 2 kp, eA 0 600 bM, eA 2 6 oM], (0, 0)))) rfl ?_
  rfl
