/-! The model writes a row. -/
def sgn (a : eRow) (e : Nat) : Nat := if a (16 + e) ≠ 0 then 35 else if suA a e = 0 then 46 else suA a e
theorem sgn_b {a : eRow} (hI : iA a) {e : Nat} (he : e < 36) (h : suA a e ≠ 0 → 97 ≤ suA a e) : 1 < sgn a e ∧ sgn a e < 128 := by
  have := suA_lt hI he
  unfold sgn
  split
  · omega
  · split <;> omega
theorem bI2b_n : ∀ v : Nat, v < 128 → bI2b (v : Int) = (v : Int) := by decide +kernel
theorem MR_out {P g gr gs kp bM oM oM' : Nat → Int} {us : Nat} {a : eRow} {X : xT} {t : Int} {n : Nat} {B : Nat → Nat} {z : Int} (h : MR P g gr gs kp bM oM us a X t) (hz : z = (n : Int)) (hn : n ≤ 6) (hb : ∀ i, i < n → oM' i = (B i : Int)) : MR (eUp P 21 z) g gr gs kp bM oM' us a (ouX X n B) t := by
  obtain ⟨r1, r2, r3, r4, r5, r6, r7⟩ := h
  refine ⟨r1, ?_, ?_, erM_up (by omega) r4, ⟨by rw [eUp_at]; exact hz, hn, hb⟩, ?_, r7⟩
  · rw [eUp_ne (by omega)]; exact r2
  · show eUp P 21 z 12 = _ ∧ _
    rw [eUp_ne (by omega)]; exact r3
  · show eUp P 21 z 8 = _ ∧ _ ∧ eUp P 21 z 9 = _ ∧ _
    rw [eUp_ne (by omega), eUp_ne (by omega)]; exact r6
set_option maxRecDepth 100000
theorem m_wr80 {R : eRes} {P g gp gt gr gs mk fr kp bM oM : Nat → Int} {x y v : Int} {xn vn : Nat} (hx : x = (xn : Int)) (h6 : xn < 6) (hv : v = (vn : Int)) (h1 : 1 < vn) (h2 : vn < 128) (h : ev m_M_writeRow 31 [some (eR 0), some (eI y), some (eI (x + 1))] [] ([mW P, eA 0 964 g, eA 0 964 gp, eA 0 964 gt, eA 0 7712 gr, eA 0 1928 gs, eA 0 144 mk, eA 0 24 fr, eA 1 2 kp, eA 0 600 bM, eA 2 6 (eUp oM xn v)], (0, 0)) = R) : ev m_M_writeRow 80 [some (eR 0), some (eI y), some (eI x), some (eI v)] [] ([mW P, eA 0 964 g, eA 0 964 gp, eA 0 964 gt, eA 0 7712 gr, eA 0 1928 gs, eA 0 144 mk, eA 0 24 fr, eA 1 2 kp, eA 0 600 bM, eA 2 6 oM], (0, 0)) = R := by
  have hb : bI2b v = v := by rw [hv]; exact bI2b_n vn h2
  have hw : 1 < wr (bI2b v) ∧ wr (bI2b v) ≤ 127 := by rw [hb, wr_id (by omega) (by omega)]; omega
  refine xBSt2 (N := 6) (v := bI2b v) (n := 6) (i := x) (F := fun zq => ev m_M_writeRow 88 [some (eR 0), some (eI y), some (eI x), some (eI v)] [] ([mW P, eA 0 964 g, eA 0 964 gp, eA 0 964 gt, eA 0 7712 gr, eA 0 1928 gs, eA 0 144 mk, eA 0 24 fr, eA 1 2 kp, eA 0 600 bM, eA 2 6 (eUp oM zq (bI2b v))], (0, 0))) (k := xn) rfl hw (wr_nat (by omega) (by omega)) (by omega) ?_
  refine xSeg (N := 2) (r := ev m_M_writeRow 31 [some (eR 0), some (eI y), some (eI (x + 1)), some (eI v)] [] ([mW P, eA 0 964 g, eA 0 964 gp, eA 0 964 gt, eA 0 7712 gr, eA 0 1928 gs, eA 0 144 mk, eA 0 24 fr, eA 1 2 kp, eA 0 600 bM, eA 2 6 (eUp oM xn (bI2b v))], (0, 0))) rfl ?_
  refine xTk 3 (by rfl) rfl ?_
  rw [hb]
  exact h
theorem m_wr {P g gp gt gr gs mk fr kp bM : Nat → Int} {a : eRow} (hg : rg g a) (hI : iA a) (h97a : ∀ e, e < 36 → suA a e ≠ 0 → 97 ≤ suA a e) {y : Int} {yn : Nat} (hy : y = (yn : Int)) (h2 : yn < a 1) : ∀ (d xn : Nat) (oM : Nat → Int) (x : Int), x = (xn : Int) → xn + d = a 0 → (∀ i, i < xn → oM i = ((sgn a (6 * yn + i) : Nat) : Int)) → ∃ oM' : Nat → Int, (∀ i, i < a 0 → oM' i = ((sgn a (6 * yn + i) : Nat) : Int)) ∧ ev m_M_writeRow 31 [some (eR 0), some (eI y), some (eI x)] [] ([mW P, eA 0 964 g, eA 0 964 gp, eA 0 964 gt, eA 0 7712 gr, eA 0 1928 gs, eA 0 144 mk, eA 0 24 fr, eA 1 2 kp, eA 0 600 bM, eA 2 6 oM], (0, 0)) = some (.inl (some (eI (P 21))), ([mW P, eA 0 964 g, eA 0 964 gp, eA 0 964 gt, eA 0 7712 gr, eA 0 1928 gs, eA 0 144 mk, eA 0 24 fr, eA 1 2 kp, eA 0 600 bM, eA 2 6 oM'], (0, 0))) := by
  intro d
  induction d with
  | zero =>
    intro xn oM x hx h1 ho
    have hI8 := hI
    obtain ⟨hG, ⟨v1, v2⟩, hO, hT, hM⟩ := hI8
    obtain ⟨⟨q1, q2, q3, q4, q5⟩, q6⟩ := hG
    have e0 := hg 0 (by omega)
    have e1 := hg 1 (by omega)
    refine ⟨oM, fun i hi => ho i (by omega), ?_⟩
    refine xLd (N := 5) (n := 964) (i := 0) (F := fun zq => ev m_M_writeRow 38 [some (eR 0), some (eI y), some (eI x)] [eI (g zq), eI x] ([mW P, eA 0 964 g, eA 0 964 gp, eA 0 964 gt, eA 0 7712 gr, eA 0 1928 gs, eA 0 144 mk, eA 0 24 fr, eA 1 2 kp, eA 0 600 bM, eA 2 6 oM], (0, 0))) (k := 0) rfl (show wr 0 = ((0 : Nat) : Int) by decide) (by omega) ?_
    refine xLtF (N := 1) (x := x) (y := g 0) (A := ev m_M_writeRow 41 [some (eR 0), some (eI y), some (eI x)] [] ([mW P, eA 0 964 g, eA 0 964 gp, eA 0 964 gt, eA 0 7712 gr, eA 0 1928 gs, eA 0 144 mk, eA 0 24 fr, eA 1 2 kp, eA 0 600 bM, eA 2 6 oM], (0, 0))) (B := ev m_M_writeRow 94 [some (eR 0), some (eI y), some (eI x)] [] ([mW P, eA 0 964 g, eA 0 964 gp, eA 0 964 gt, eA 0 7712 gr, eA 0 1928 gs, eA 0 144 mk, eA 0 24 fr, eA 1 2 kp, eA 0 600 bM, eA 2 6 oM], (0, 0))) rfl (wr_id (by omega) (by omega)) (wr_id (by omega) (by omega)) (by omega) ?_
    refine xSeg (N := 3) (r := some (.inl (some (eI (P 21))), ([mW P, eA 0 964 g, eA 0 964 gp, eA 0 964 gt, eA 0 7712 gr, eA 0 1928 gs, eA 0 144 mk, eA 0 24 fr, eA 1 2 kp, eA 0 600 bM, eA 2 6 oM], (0, 0)))) rfl ?_
    rfl
  | succ d ih =>
    intro xn oM x hx h1 ho
    have hI8 := hI
    obtain ⟨hG, ⟨v1, v2⟩, hO, hT, hM⟩ := hI8
    obtain ⟨⟨q1, q2, q3, q4, q5⟩, q6⟩ := hG
    have e0 := hg 0 (by omega)
    have e1 := hg 1 (by omega)
    obtain ⟨ze, hze⟩ : ∃ ze : Int, ze = 6 * y + x := ⟨_, rfl⟩
    have hz2 : ze = ((6 * yn + xn : Nat) : Int) := by omega
    have hs := z_sure (mk := mk) (fr := fr) (P := P) (c := (0, 0)) hg hI hz2 (by omega)
    have hf := n_isFree (c := (0, 0)) (x := x) (y := y) hg (by omega) (by omega) (fun e he => (q6.1 e he).1) (by omega) (by omega)
    have hop : opn (a 0) (a 1) (bl a) x y = decide (a (16 + (6 * yn + xn)) = 0) := by
      unfold opn
      rw [inG_T (by omega), show (y * 6 + x).toNat = 6 * yn + xn by omega]
      rfl
    rw [hop] at hf
    have h97 := h97a (6 * yn + xn) (by omega)
    have hsb := suA_lt hI (e := 6 * yn + xn) (by omega)
    have hgb := sgn_b hI (e := 6 * yn + xn) (by omega) h97
    have hex : ∀ v : Int, v = ((sgn a (6 * yn + xn) : Nat) : Int) → ∃ oM' : Nat → Int, (∀ i, i < a 0 → oM' i = ((sgn a (6 * yn + i) : Nat) : Int)) ∧ ev m_M_writeRow 31 [some (eR 0), some (eI y), some (eI (x + 1))] [] ([mW P, eA 0 964 g, eA 0 964 gp, eA 0 964 gt, eA 0 7712 gr, eA 0 1928 gs, eA 0 144 mk, eA 0 24 fr, eA 1 2 kp, eA 0 600 bM, eA 2 6 (eUp oM xn v)], (0, 0)) = some (.inl (some (eI (P 21))), ([mW P, eA 0 964 g, eA 0 964 gp, eA 0 964 gt, eA 0 7712 gr, eA 0 1928 gs, eA 0 144 mk, eA 0 24 fr, eA 1 2 kp, eA 0 600 bM, eA 2 6 oM'], (0, 0))) := fun v hv => by
      refine ih (xn + 1) (eUp oM xn v) (x + 1) (by omega) (by omega) (fun i hi => ?_)
      by_cases hix : i = xn
      · rw [hix, eUp_at]; exact hv
      · rw [eUp_ne hix]; exact ho i (by omega)
    obtain ⟨s9, hs9⟩ : ∃ s9 : Int, s9 = ((suA a (6 * yn + xn) : Nat) : Int) := ⟨_, rfl⟩
    rw [← hs9] at hs
    by_cases hb : a (16 + (6 * yn + xn)) = 0
    · rw [decide_eq_true hb] at hf
      have hf : _ = some (Sum.inl (some (eI 1)), _) := hf
      by_cases h0 : suA a (6 * yn + xn) = 0
      · have hv : (46 : Int) = ((sgn a (6 * yn + xn) : Nat) : Int) := by unfold sgn; rw [if_neg (by omega), if_pos h0]; rfl
        obtain ⟨oM', h8, h9⟩ := hex _ hv
        refine ⟨oM', h8, ?_⟩
        refine xLd (N := 5) (n := 964) (i := 0) (F := fun zq => ev m_M_writeRow 38 [some (eR 0), some (eI y), some (eI x)] [eI (g zq), eI x] ([mW P, eA 0 964 g, eA 0 964 gp, eA 0 964 gt, eA 0 7712 gr, eA 0 1928 gs, eA 0 144 mk, eA 0 24 fr, eA 1 2 kp, eA 0 600 bM, eA 2 6 oM], (0, 0))) (k := 0) rfl (show wr 0 = ((0 : Nat) : Int) by decide) (by omega) ?_
        refine xLtT (N := 1) (x := x) (y := g 0) (A := ev m_M_writeRow 41 [some (eR 0), some (eI y), some (eI x)] [] ([mW P, eA 0 964 g, eA 0 964 gp, eA 0 964 gt, eA 0 7712 gr, eA 0 1928 gs, eA 0 144 mk, eA 0 24 fr, eA 1 2 kp, eA 0 600 bM, eA 2 6 oM], (0, 0))) (B := ev m_M_writeRow 94 [some (eR 0), some (eI y), some (eI x)] [] ([mW P, eA 0 964 g, eA 0 964 gp, eA 0 964 gt, eA 0 7712 gr, eA 0 1928 gs, eA 0 144 mk, eA 0 24 fr, eA 1 2 kp, eA 0 600 bM, eA 2 6 oM], (0, 0))) rfl (wr_id (by omega) (by omega)) (wr_id (by omega) (by omega)) (by omega) ?_
        refine xCall (N := 6) (M2 := m_M_writeRow) (pc2 := 48) (ls2 := [some (eR 0), some (eI y), some (eI x)]) (st2 := [eR 0]) (y := m_M_cellOf) (as := [some (eR 1), some (eI x), some (eI y)]) (w2 := ([mW P, eA 0 964 g, eA 0 964 gp, eA 0 964 gt, eA 0 7712 gr, eA 0 1928 gs, eA 0 144 mk, eA 0 24 fr, eA 1 2 kp, eA 0 600 bM, eA 2 6 oM], (0, 0))) rfl (n_co hze) ?_
        refine xCallW (N := 1) (M2 := m_M_writeRow) (pc2 := 51) (ls2 := [some (eR 0), some (eI y), some (eI x)]) (st2 := []) (y := m_M_sure) (as := [some (eR 0), some (eI ze)]) (w2 := ([mW P, eA 0 964 g, eA 0 964 gp, eA 0 964 gt, eA 0 7712 gr, eA 0 1928 gs, eA 0 144 mk, eA 0 24 fr, eA 1 2 kp, eA 0 600 bM, eA 2 6 oM], (0, 0))) rfl (w_Z hs rfl rfl rfl) ?_
        refine xCall (N := 6) (M2 := m_M_writeRow) (pc2 := 61) (ls2 := [some (eR 0), some (eI y), some (eI x), some (eI s9)]) (st2 := []) (y := m_M_isFree) (as := [some (eR 1), some (eI x), some (eI y)]) (w2 := ([mW P, eA 0 964 g, eA 0 964 gp, eA 0 964 gt, eA 0 7712 gr, eA 0 1928 gs, eA 0 144 mk, eA 0 24 fr, eA 1 2 kp, eA 0 600 bM, eA 2 6 oM], (0, 0))) rfl (w_g hf rfl rfl rfl) ?_
        refine xEqF (N := 1) (x := 1) (y := 0) (A := ev m_M_writeRow 67 [some (eR 0), some (eI y), some (eI x), some (eI s9)] [] ([mW P, eA 0 964 g, eA 0 964 gp, eA 0 964 gt, eA 0 7712 gr, eA 0 1928 gs, eA 0 144 mk, eA 0 24 fr, eA 1 2 kp, eA 0 600 bM, eA 2 6 oM], (0, 0))) (B := ev m_M_writeRow 73 [some (eR 0), some (eI y), some (eI x), some (eI s9)] [] ([mW P, eA 0 964 g, eA 0 964 gp, eA 0 964 gt, eA 0 7712 gr, eA 0 1928 gs, eA 0 144 mk, eA 0 24 fr, eA 1 2 kp, eA 0 600 bM, eA 2 6 oM], (0, 0))) rfl (show wr 1 = 1 by decide) (show wr 0 = 0 by decide) (by decide) ?_
        refine xEqT (N := 2) (x := s9) (y := 0) (A := ev m_M_writeRow 77 [some (eR 0), some (eI y), some (eI x), some (eI s9)] [] ([mW P, eA 0 964 g, eA 0 964 gp, eA 0 964 gt, eA 0 7712 gr, eA 0 1928 gs, eA 0 144 mk, eA 0 24 fr, eA 1 2 kp, eA 0 600 bM, eA 2 6 oM], (0, 0))) (B := ev m_M_writeRow 80 [some (eR 0), some (eI y), some (eI x), some (eI s9)] [] ([mW P, eA 0 964 g, eA 0 964 gp, eA 0 964 gt, eA 0 7712 gr, eA 0 1928 gs, eA 0 144 mk, eA 0 24 fr, eA 1 2 kp, eA 0 600 bM, eA 2 6 oM], (0, 0))) rfl (wr_id (by omega) (by omega)) (show wr 0 = 0 by decide) (by omega) ?_
        refine xSeg (N := 2) (r := ev m_M_writeRow 80 [some (eR 0), some (eI y), some (eI x), some (eI 46)] [] ([mW P, eA 0 964 g, eA 0 964 gp, eA 0 964 gt, eA 0 7712 gr, eA 0 1928 gs, eA 0 144 mk, eA 0 24 fr, eA 1 2 kp, eA 0 600 bM, eA 2 6 oM], (0, 0))) rfl ?_
        exact m_wr80 hx (by omega) hv hgb.1 hgb.2 h9
      · have hv : (s9 : Int) = ((sgn a (6 * yn + xn) : Nat) : Int) := by unfold sgn; rw [if_neg (by omega), if_neg h0]; omega
        obtain ⟨oM', h8, h9⟩ := hex _ hv
        refine ⟨oM', h8, ?_⟩
        refine xLd (N := 5) (n := 964) (i := 0) (F := fun zq => ev m_M_writeRow 38 [some (eR 0), some (eI y), some (eI x)] [eI (g zq), eI x] ([mW P, eA 0 964 g, eA 0 964 gp, eA 0 964 gt, eA 0 7712 gr, eA 0 1928 gs, eA 0 144 mk, eA 0 24 fr, eA 1 2 kp, eA 0 600 bM, eA 2 6 oM], (0, 0))) (k := 0) rfl (show wr 0 = ((0 : Nat) : Int) by decide) (by omega) ?_
        refine xLtT (N := 1) (x := x) (y := g 0) (A := ev m_M_writeRow 41 [some (eR 0), some (eI y), some (eI x)] [] ([mW P, eA 0 964 g, eA 0 964 gp, eA 0 964 gt, eA 0 7712 gr, eA 0 1928 gs, eA 0 144 mk, eA 0 24 fr, eA 1 2 kp, eA 0 600 bM, eA 2 6 oM], (0, 0))) (B := ev m_M_writeRow 94 [some (eR 0), some (eI y), some (eI x)] [] ([mW P, eA 0 964 g, eA 0 964 gp, eA 0 964 gt, eA 0 7712 gr, eA 0 1928 gs, eA 0 144 mk, eA 0 24 fr, eA 1 2 kp, eA 0 600 bM, eA 2 6 oM], (0, 0))) rfl (wr_id (by omega) (by omega)) (wr_id (by omega) (by omega)) (by omega) ?_
        refine xCall (N := 6) (M2 := m_M_writeRow) (pc2 := 48) (ls2 := [some (eR 0), some (eI y), some (eI x)]) (st2 := [eR 0]) (y := m_M_cellOf) (as := [some (eR 1), some (eI x), some (eI y)]) (w2 := ([mW P, eA 0 964 g, eA 0 964 gp, eA 0 964 gt, eA 0 7712 gr, eA 0 1928 gs, eA 0 144 mk, eA 0 24 fr, eA 1 2 kp, eA 0 600 bM, eA 2 6 oM], (0, 0))) rfl (n_co hze) ?_
        refine xCallW (N := 1) (M2 := m_M_writeRow) (pc2 := 51) (ls2 := [some (eR 0), some (eI y), some (eI x)]) (st2 := []) (y := m_M_sure) (as := [some (eR 0), some (eI ze)]) (w2 := ([mW P, eA 0 964 g, eA 0 964 gp, eA 0 964 gt, eA 0 7712 gr, eA 0 1928 gs, eA 0 144 mk, eA 0 24 fr, eA 1 2 kp, eA 0 600 bM, eA 2 6 oM], (0, 0))) rfl (w_Z hs rfl rfl rfl) ?_
        refine xCall (N := 6) (M2 := m_M_writeRow) (pc2 := 61) (ls2 := [some (eR 0), some (eI y), some (eI x), some (eI s9)]) (st2 := []) (y := m_M_isFree) (as := [some (eR 1), some (eI x), some (eI y)]) (w2 := ([mW P, eA 0 964 g, eA 0 964 gp, eA 0 964 gt, eA 0 7712 gr, eA 0 1928 gs, eA 0 144 mk, eA 0 24 fr, eA 1 2 kp, eA 0 600 bM, eA 2 6 oM], (0, 0))) rfl (w_g hf rfl rfl rfl) ?_
        refine xEqF (N := 1) (x := 1) (y := 0) (A := ev m_M_writeRow 67 [some (eR 0), some (eI y), some (eI x), some (eI s9)] [] ([mW P, eA 0 964 g, eA 0 964 gp, eA 0 964 gt, eA 0 7712 gr, eA 0 1928 gs, eA 0 144 mk, eA 0 24 fr, eA 1 2 kp, eA 0 600 bM, eA 2 6 oM], (0, 0))) (B := ev m_M_writeRow 73 [some (eR 0), some (eI y), some (eI x), some (eI s9)] [] ([mW P, eA 0 964 g, eA 0 964 gp, eA 0 964 gt, eA 0 7712 gr, eA 0 1928 gs, eA 0 144 mk, eA 0 24 fr, eA 1 2 kp, eA 0 600 bM, eA 2 6 oM], (0, 0))) rfl (show wr 1 = 1 by decide) (show wr 0 = 0 by decide) (by decide) ?_
        refine xEqF (N := 2) (x := s9) (y := 0) (A := ev m_M_writeRow 77 [some (eR 0), some (eI y), some (eI x), some (eI s9)] [] ([mW P, eA 0 964 g, eA 0 964 gp, eA 0 964 gt, eA 0 7712 gr, eA 0 1928 gs, eA 0 144 mk, eA 0 24 fr, eA 1 2 kp, eA 0 600 bM, eA 2 6 oM], (0, 0))) (B := ev m_M_writeRow 80 [some (eR 0), some (eI y), some (eI x), some (eI s9)] [] ([mW P, eA 0 964 g, eA 0 964 gp, eA 0 964 gt, eA 0 7712 gr, eA 0 1928 gs, eA 0 144 mk, eA 0 24 fr, eA 1 2 kp, eA 0 600 bM, eA 2 6 oM], (0, 0))) rfl (wr_id (by omega) (by omega)) (show wr 0 = 0 by decide) (by omega) ?_
        exact m_wr80 hx (by omega) hv hgb.1 hgb.2 h9
    · rw [decide_eq_false hb] at hf
      have hf : _ = some (Sum.inl (some (eI 0)), _) := hf
      have hv : (35 : Int) = ((sgn a (6 * yn + xn) : Nat) : Int) := by unfold sgn; rw [if_pos hb]; rfl
      obtain ⟨oM', h8, h9⟩ := hex _ hv
      refine ⟨oM', h8, ?_⟩
      refine xLd (N := 5) (n := 964) (i := 0) (F := fun zq => ev m_M_writeRow 38 [some (eR 0), some (eI y), some (eI x)] [eI (g zq), eI x] ([mW P, eA 0 964 g, eA 0 964 gp, eA 0 964 gt, eA 0 7712 gr, eA 0 1928 gs, eA 0 144 mk, eA 0 24 fr, eA 1 2 kp, eA 0 600 bM, eA 2 6 oM], (0, 0))) (k := 0) rfl (show wr 0 = ((0 : Nat) : Int) by decide) (by omega) ?_
      refine xLtT (N := 1) (x := x) (y := g 0) (A := ev m_M_writeRow 41 [some (eR 0), some (eI y), some (eI x)] [] ([mW P, eA 0 964 g, eA 0 964 gp, eA 0 964 gt, eA 0 7712 gr, eA 0 1928 gs, eA 0 144 mk, eA 0 24 fr, eA 1 2 kp, eA 0 600 bM, eA 2 6 oM], (0, 0))) (B := ev m_M_writeRow 94 [some (eR 0), some (eI y), some (eI x)] [] ([mW P, eA 0 964 g, eA 0 964 gp, eA 0 964 gt, eA 0 7712 gr, eA 0 1928 gs, eA 0 144 mk, eA 0 24 fr, eA 1 2 kp, eA 0 600 bM, eA 2 6 oM], (0, 0))) rfl (wr_id (by omega) (by omega)) (wr_id (by omega) (by omega)) (by omega) ?_
      refine xCall (N := 6) (M2 := m_M_writeRow) (pc2 := 48) (ls2 := [some (eR 0), some (eI y), some (eI x)]) (st2 := [eR 0]) (y := m_M_cellOf) (as := [some (eR 1), some (eI x), some (eI y)]) (w2 := ([mW P, eA 0 964 g, eA 0 964 gp, eA 0 964 gt, eA 0 7712 gr, eA 0 1928 gs, eA 0 144 mk, eA 0 24 fr, eA 1 2 kp, eA 0 600 bM, eA 2 6 oM], (0, 0))) rfl (n_co hze) ?_
      refine xCallW (N := 1) (M2 := m_M_writeRow) (pc2 := 51) (ls2 := [some (eR 0), some (eI y), some (eI x)]) (st2 := []) (y := m_M_sure) (as := [some (eR 0), some (eI ze)]) (w2 := ([mW P, eA 0 964 g, eA 0 964 gp, eA 0 964 gt, eA 0 7712 gr, eA 0 1928 gs, eA 0 144 mk, eA 0 24 fr, eA 1 2 kp, eA 0 600 bM, eA 2 6 oM], (0, 0))) rfl (w_Z hs rfl rfl rfl) ?_
      refine xCall (N := 6) (M2 := m_M_writeRow) (pc2 := 61) (ls2 := [some (eR 0), some (eI y), some (eI x), some (eI s9)]) (st2 := []) (y := m_M_isFree) (as := [some (eR 1), some (eI x), some (eI y)]) (w2 := ([mW P, eA 0 964 g, eA 0 964 gp, eA 0 964 gt, eA 0 7712 gr, eA 0 1928 gs, eA 0 144 mk, eA 0 24 fr, eA 1 2 kp, eA 0 600 bM, eA 2 6 oM], (0, 0))) rfl (w_g hf rfl rfl rfl) ?_
      refine xEqT (N := 1) (x := 0) (y := 0) (A := ev m_M_writeRow 67 [some (eR 0), some (eI y), some (eI x), some (eI s9)] [] ([mW P, eA 0 964 g, eA 0 964 gp, eA 0 964 gt, eA 0 7712 gr, eA 0 1928 gs, eA 0 144 mk, eA 0 24 fr, eA 1 2 kp, eA 0 600 bM, eA 2 6 oM], (0, 0))) (B := ev m_M_writeRow 73 [some (eR 0), some (eI y), some (eI x), some (eI s9)] [] ([mW P, eA 0 964 g, eA 0 964 gp, eA 0 964 gt, eA 0 7712 gr, eA 0 1928 gs, eA 0 144 mk, eA 0 24 fr, eA 1 2 kp, eA 0 600 bM, eA 2 6 oM], (0, 0))) rfl (show wr 0 = 0 by decide) (show wr 0 = 0 by decide) (by decide) ?_
      refine xSeg (N := 3) (r := ev m_M_writeRow 80 [some (eR 0), some (eI y), some (eI x), some (eI 35)] [] ([mW P, eA 0 964 g, eA 0 964 gp, eA 0 964 gt, eA 0 7712 gr, eA 0 1928 gs, eA 0 144 mk, eA 0 24 fr, eA 1 2 kp, eA 0 600 bM, eA 2 6 oM], (0, 0))) rfl ?_
      exact m_wr80 hx (by omega) hv hgb.1 hgb.2 h9
theorem km_writeRow {a : eRow} {X : xT} {y : Int} {yn : Nat} (hy : y = (yn : Int)) (h2 : yn < a 1) (h97 : ∀ e, e < 36 → suA a e ≠ 0 → 97 ≤ suA a e) : KM m_M_writeRow [some (eI y)] a X (a) (ouX X (a 0) (fun i => sgn a (6 * yn + i))) 0 (((a 0 : Nat) : Int)) := by
  intro P g gp gt gr gs mk fr kp bM oM us t0 h
  have h8 := h
  obtain ⟨⟨hg, hI, hB⟩, r2, ⟨r3, r3n, r3b⟩, r4, ⟨r5, r5n, r5b⟩, ⟨p1, p2, p3, p4, p5⟩, r7⟩ := h
  have hI8 := hI
  obtain ⟨hG, ⟨v1, v2⟩, hO, hT, hM⟩ := hI8
  obtain ⟨⟨q1, q2, q3, q4, q5⟩, q6⟩ := hG
  have b5 := iT_24 q5 hT
  have e0 := hg 0 (by omega)
  have e1 := hg 1 (by omega)
  have e2 := hg 2 (by omega)
  have e3 := hg 3 (by omega)
  have e4 := hg 4 (by omega)
  have e5 := hg 5 (by omega)
  obtain ⟨oM', h9, q9⟩ := m_wr (P := eUp (eUp P 10 0) 21 (g 0)) (gp := gp) (gt := gt) (gr := gr) (gs := gs) (mk := mk) (fr := fr) (kp := kp) (bM := bM) hg hI h97 hy h2 (a 0) 0 oM 0 rfl (by omega) (fun i hi => by omega)
  refine ⟨eUp (eUp P 10 0) 21 (g 0), g, gp, gt, gr, gs, mk, fr, kp, bM, oM', us, g 0, MR_out (MR_t h8) e0 (by omega) h9, fun _ => e0, ?_⟩
  refine xLd (N := 7) (n := 964) (i := 1) (F := fun zq => ev m_M_writeRow 9 [some (eR 0), some (eI y)] [eI (g zq), eI 0, eI y, eR 0] ([mW P, eA 0 964 g, eA 0 964 gp, eA 0 964 gt, eA 0 7712 gr, eA 0 1928 gs, eA 0 144 mk, eA 0 24 fr, eA 1 2 kp, eA 0 600 bM, eA 2 6 oM], (0, 0))) (k := 1) rfl (show wr 1 = ((1 : Nat) : Int) by decide) (by omega) ?_
  refine xCallW (N := 3) (M2 := m_M_writeRow) (pc2 := 11) (ls2 := [some (eR 0), some (eI y)]) (st2 := []) (y := m_M_noNumber) (as := [some (eR 0), some (eI y), some (eI 0), some (eI ((g 1) - 1))]) (w2 := ([mW P, eA 0 964 g, eA 0 964 gp, eA 0 964 gt, eA 0 7712 gr, eA 0 1928 gs, eA 0 144 mk, eA 0 24 fr, eA 1 2 kp, eA 0 600 bM, eA 2 6 oM], (0, 0))) rfl (w_Z (z_noNum (c := (0, 0)) (P := P) (by omega) (by omega) (by omega) (by omega)) rfl rfl rfl) ?_
  refine xEqT (N := 1) (x := 0) (y := 0) (A := ev m_M_writeRow 19 [some (eR 0), some (eI y)] [] ([mW (eUp P 10 0), eA 0 964 g, eA 0 964 gp, eA 0 964 gt, eA 0 7712 gr, eA 0 1928 gs, eA 0 144 mk, eA 0 24 fr, eA 1 2 kp, eA 0 600 bM, eA 2 6 oM], (0, 0))) (B := ev m_M_writeRow 17 [some (eR 0), some (eI y)] [] ([mW (eUp P 10 0), eA 0 964 g, eA 0 964 gp, eA 0 964 gt, eA 0 7712 gr, eA 0 1928 gs, eA 0 144 mk, eA 0 24 fr, eA 1 2 kp, eA 0 600 bM, eA 2 6 oM], (0, 0))) rfl (show wr 0 = 0 by decide) (show wr 0 = 0 by decide) (by decide) ?_
  refine xLd (N := 5) (n := 964) (i := 0) (F := fun zq => ev m_M_writeRow 26 [some (eR 0), some (eI y)] [eI (g zq), eR 0] ([mW (eUp P 10 0), eA 0 964 g, eA 0 964 gp, eA 0 964 gt, eA 0 7712 gr, eA 0 1928 gs, eA 0 144 mk, eA 0 24 fr, eA 1 2 kp, eA 0 600 bM, eA 2 6 oM], (0, 0))) (k := 0) rfl (show wr 0 = ((0 : Nat) : Int) by decide) (by omega) ?_
  refine xSeg (N := 3) (r := ev m_M_writeRow 31 [some (eR 0), some (eI y), some (eI 0)] [] ([mW (eUp (eUp P 10 0) 21 (g 0)), eA 0 964 g, eA 0 964 gp, eA 0 964 gt, eA 0 7712 gr, eA 0 1928 gs, eA 0 144 mk, eA 0 24 fr, eA 1 2 kp, eA 0 600 bM, eA 2 6 oM], (0, 0))) rfl ?_
  exact q9
theorem km_writeRowX {a : eRow} {X : xT} {y : Int} (bx : -2147483648 ≤ y ∧ y < 2147483648) (hn : ¬ (0 ≤ y ∧ y < (a 1 : Int))) : KM m_M_writeRow [some (eI y)] a X (a) (X) 1 (0) := by
  intro P g gp gt gr gs mk fr kp bM oM us t0 h
  have h8 := h
  obtain ⟨⟨hg, hI, hB⟩, r2, ⟨r3, r3n, r3b⟩, r4, ⟨r5, r5n, r5b⟩, ⟨p1, p2, p3, p4, p5⟩, r7⟩ := h
  have hI8 := hI
  obtain ⟨hG, ⟨v1, v2⟩, hO, hT, hM⟩ := hI8
  obtain ⟨⟨q1, q2, q3, q4, q5⟩, q6⟩ := hG
  have b5 := iT_24 q5 hT
  have e0 := hg 0 (by omega)
  have e1 := hg 1 (by omega)
  have e2 := hg 2 (by omega)
  have e3 := hg 3 (by omega)
  have e4 := hg 4 (by omega)
  have e5 := hg 5 (by omega)
  refine ⟨eUp P 10 1, g, gp, gt, gr, gs, mk, fr, kp, bM, oM, us, 0, MR_t h8, fun _ => rfl, ?_⟩
  refine xLd (N := 7) (n := 964) (i := 1) (F := fun zq => ev m_M_writeRow 9 [some (eR 0), some (eI y)] [eI (g zq), eI 0, eI y, eR 0] ([mW P, eA 0 964 g, eA 0 964 gp, eA 0 964 gt, eA 0 7712 gr, eA 0 1928 gs, eA 0 144 mk, eA 0 24 fr, eA 1 2 kp, eA 0 600 bM, eA 2 6 oM], (0, 0))) (k := 1) rfl (show wr 1 = ((1 : Nat) : Int) by decide) (by omega) ?_
  refine xCallW (N := 3) (M2 := m_M_writeRow) (pc2 := 11) (ls2 := [some (eR 0), some (eI y)]) (st2 := []) (y := m_M_noNumber) (as := [some (eR 0), some (eI y), some (eI 0), some (eI ((g 1) - 1))]) (w2 := ([mW P, eA 0 964 g, eA 0 964 gp, eA 0 964 gt, eA 0 7712 gr, eA 0 1928 gs, eA 0 144 mk, eA 0 24 fr, eA 1 2 kp, eA 0 600 bM, eA 2 6 oM], (0, 0))) rfl (w_Z (z_noNumX (c := (0, 0)) (P := P) (by omega) (by omega) (by omega) (by omega)) rfl rfl rfl) ?_
  refine xEqF (N := 1) (x := 1) (y := 0) (A := ev m_M_writeRow 19 [some (eR 0), some (eI y)] [] ([mW (eUp P 10 1), eA 0 964 g, eA 0 964 gp, eA 0 964 gt, eA 0 7712 gr, eA 0 1928 gs, eA 0 144 mk, eA 0 24 fr, eA 1 2 kp, eA 0 600 bM, eA 2 6 oM], (0, 0))) (B := ev m_M_writeRow 17 [some (eR 0), some (eI y)] [] ([mW (eUp P 10 1), eA 0 964 g, eA 0 964 gp, eA 0 964 gt, eA 0 7712 gr, eA 0 1928 gs, eA 0 144 mk, eA 0 24 fr, eA 1 2 kp, eA 0 600 bM, eA 2 6 oM], (0, 0))) rfl (show wr 1 = 1 by decide) (show wr 0 = 0 by decide) (by decide) ?_
  refine xSeg (N := 2) (r := some (.inl (some (eI 0)), ([mW (eUp P 10 1), eA 0 964 g, eA 0 964 gp, eA 0 964 gt, eA 0 7712 gr, eA 0 1928 gs, eA 0 144 mk, eA 0 24 fr, eA 1 2 kp, eA 0 600 bM, eA 2 6 oM], (0, 0)))) rfl ?_
  rfl
