/-! The model: support errors; shares. -/
set_option maxRecDepth 100000
theorem z_supportErrors {g mk fr P : Nat → Int} {a : eRow} {c : Nat × Nat} (hg : rg g a) (hI : iA a) : ∃ mk1 : Nat → Int, ev m_M_supportErrors 0 [some (eR 1)] [] ([eA 0 964 g, mZ P, eA 0 144 mk, eA 0 24 fr], c) = some (.inl (some (eI ((SeN a : Nat) : Int))), ([eA 0 964 g, mZ (eUp P 10 0), eA 0 144 mk1, eA 0 24 fr], c)) := by
  have hI9 := hI
  obtain ⟨hG, hV, hO, hT, hM⟩ := hI
  have bG := hG.1
  have bV := hV.1
  have b5 := iT_24 bG.2.2.2.2 hT
  have e0 := hg 0 (by omega)
  have e1 := hg 1 (by omega)
  have e2 := hg 2 (by omega)
  have e3 := hg 3 (by omega)
  have e4 := hg 4 (by omega)
  have e5 := hg 5 (by omega)
  have hse := se_eq hI9
  have hM4 := hM.1
  have hfm := n_findMasks (mk := mk) (fr := fr) (P := eUp P 10 0) (c := (0, 0)) hg hG hV hO
  obtain ⟨mk1, hmk1⟩ : ∃ mk1 : Nat → Int, mk1 = ofF (sl a) (mkf a) mk (a 3) 0 := ⟨_, rfl⟩
  have hmk : mkOk a mk1 := fun k p hk hp => by rw [hmk1, show 6 * k + p = k * 6 + p by omega]; exact ofF_at hk hp (by have := (sl_at hG hk).2.2.1; omega)
  rw [← hmk1] at hfm
  refine ⟨mk1, ?_⟩
  unfold SeN
  by_cases h4 : a 4 ≤ 1
  · rw [if_pos h4, ← hse]
    have hl : ∀ p : Nat, p ≤ a 3 → ∀ s y : Int, s = ((fb_sm (fun k => fb_sm (seG a k) (a 2)) p : Nat) : Int) → y = (p : Int) → ev m_M_supportErrors 17 [some (eR 1), some (eI s), some (eI y)] [] ([eA 0 964 g, mZ (eUp P 10 0), eA 0 144 mk1, eA 0 24 fr], c) = some (.inl (some (eI ((fb_sm (fun k => fb_sm (seG a k) (a 2)) (a 3) : Nat) : Int))), ([eA 0 964 g, mZ (eUp P 10 0), eA 0 144 mk1, eA 0 24 fr], c)) := by
      refine loop_up ?_ ?_
      · intro s y hs hy
        refine xLd (N := 5) (n := 964) (i := 3) (F := fun zq => ev m_M_supportErrors 24 [some (eR 1), some (eI s), some (eI y)] [eI (g zq), eI y] ([eA 0 964 g, mZ (eUp P 10 0), eA 0 144 mk1, eA 0 24 fr], c)) (k := 3) rfl (show wr 3 = ((3 : Nat) : Int) by decide) (by omega) ?_
        refine xLtF (N := 1) (x := y) (y := g 3) (A := ev m_M_supportErrors 27 [some (eR 1), some (eI s), some (eI y)] [] ([eA 0 964 g, mZ (eUp P 10 0), eA 0 144 mk1, eA 0 24 fr], c)) (B := ev m_M_supportErrors 82 [some (eR 1), some (eI s), some (eI y)] [] ([eA 0 964 g, mZ (eUp P 10 0), eA 0 144 mk1, eA 0 24 fr], c)) rfl (wr_id (by omega) (by omega)) (wr_id (by omega) (by omega)) (by omega) ?_
        refine xSeg (N := 2) (r := some (.inl (some (eI s)), ([eA 0 964 g, mZ (eUp P 10 0), eA 0 144 mk1, eA 0 24 fr], c))) rfl ?_
        exact lf hs
      · intro p hp ih s y hs hy
        have hb := (hO p hp).1
        have hs2 := fb_sm_succ (fun k => fb_sm (seG a k) (a 2)) p
        have hj : ∀ q : Nat, q ≤ a 2 → ∀ s2 z : Int, s2 = s + ((fb_sm (seG a p) q : Nat) : Int) → z = ((q : Nat) : Int) → ev m_M_supportErrors 39 [some (eR 1), some (eI s2), some (eI y), some (eI z)] [] ([eA 0 964 g, mZ (eUp P 10 0), eA 0 144 mk1, eA 0 24 fr], c) = some (.inl (some (eI ((fb_sm (fun k => fb_sm (seG a k) (a 2)) (a 3) : Nat) : Int))), ([eA 0 964 g, mZ (eUp P 10 0), eA 0 144 mk1, eA 0 24 fr], c)) := by
          refine loop_up ?_ ?_
          · intro s2 z hs2 hz
            refine xLd (N := 5) (n := 964) (i := 2) (F := fun zq => ev m_M_supportErrors 46 [some (eR 1), some (eI s2), some (eI y), some (eI z)] [eI (g zq), eI z] ([eA 0 964 g, mZ (eUp P 10 0), eA 0 144 mk1, eA 0 24 fr], c)) (k := 2) rfl (show wr 2 = ((2 : Nat) : Int) by decide) (by omega) ?_
            refine xLtF (N := 1) (x := z) (y := g 2) (A := ev m_M_supportErrors 49 [some (eR 1), some (eI s2), some (eI y), some (eI z)] [] ([eA 0 964 g, mZ (eUp P 10 0), eA 0 144 mk1, eA 0 24 fr], c)) (B := ev m_M_supportErrors 76 [some (eR 1), some (eI s2), some (eI y), some (eI z)] [] ([eA 0 964 g, mZ (eUp P 10 0), eA 0 144 mk1, eA 0 24 fr], c)) rfl (wr_id (by omega) (by omega)) (wr_id (by omega) (by omega)) (by omega) ?_
            refine xSeg (N := 2) (r := ev m_M_supportErrors 17 [some (eR 1), some (eI s2), some (eI (y + 1)), some (eI z)] [] ([eA 0 964 g, mZ (eUp P 10 0), eA 0 144 mk1, eA 0 24 fr], c)) rfl ?_
            refine xTk 3 (by rfl) rfl ?_
            exact ih _ _ (by omega) (by omega)
          · intro q hq ihj s2 z hs2 hz
            have hw := n_hasWord (c := (0, 0)) hg hy hz (by omega) hb (by omega)
            have hs9 := fb_sm_succ (seG a p) q
            obtain ⟨b9, hb9⟩ : ∃ b9 : Bool, b9 = (op a p).testBit q := ⟨_, rfl⟩
            rw [← hb9] at hw
            obtain ⟨zi, hzi⟩ : ∃ zi : Int, zi = bI b9 := ⟨_, rfl⟩
            rw [← hzi] at hw
            have hq9 := bI_1 hzi
            have hT : zi = 1 → ∃ zl : Int, zl = ((seG a p q : Nat) : Int) ∧ ev m_M_lacksOf 0 [some (eR 1), some (eI y), some (eI z)] [] ([eA 0 964 g, mZ (eUp P 10 0), eA 0 144 mk1, eA 0 24 fr], c) = some (.inl (some (eI zl)), ([eA 0 964 g, mZ (eUp P 10 0), eA 0 144 mk1, eA 0 24 fr], c)) := fun h => by
              have hbt : (op a p).testBit q = true := hb9.symm.trans (hq9.2.1.mp h)
              refine ⟨_, ?_, z_lacksOf hg ⟨hG, hV, hO, hT, hM⟩ hmk hy hz hp hq ((hO p hp).2 q hbt).2⟩
              unfold seG
              rw [if_pos hbt]
            have hF : zi = 0 → seG a p q = 0 := fun h => if_neg (by rw [← hb9, hq9.2.2.mp h]; decide)
            refine xLd (N := 5) (n := 964) (i := 2) (F := fun zq => ev m_M_supportErrors 46 [some (eR 1), some (eI s2), some (eI y), some (eI z)] [eI (g zq), eI z] ([eA 0 964 g, mZ (eUp P 10 0), eA 0 144 mk1, eA 0 24 fr], c)) (k := 2) rfl (show wr 2 = ((2 : Nat) : Int) by decide) (by omega) ?_
            refine xLtT (N := 1) (x := z) (y := g 2) (A := ev m_M_supportErrors 49 [some (eR 1), some (eI s2), some (eI y), some (eI z)] [] ([eA 0 964 g, mZ (eUp P 10 0), eA 0 144 mk1, eA 0 24 fr], c)) (B := ev m_M_supportErrors 76 [some (eR 1), some (eI s2), some (eI y), some (eI z)] [] ([eA 0 964 g, mZ (eUp P 10 0), eA 0 144 mk1, eA 0 24 fr], c)) rfl (wr_id (by omega) (by omega)) (wr_id (by omega) (by omega)) (by omega) ?_
            refine xCall (N := 5) (M2 := m_M_supportErrors) (pc2 := 55) (ls2 := [some (eR 1), some (eI s2), some (eI y), some (eI z)]) (st2 := []) (y := m_M_hasWord) (as := [some (eR 0), some (eI y), some (eI z)]) (w2 := ([eA 0 964 g, mZ (eUp P 10 0), eA 0 144 mk1, eA 0 24 fr], c)) rfl (rowRd hw rfl rfl) ?_
            refine xEq (N := 1) (x := zi) (y := 0) (A := ev m_M_supportErrors 70 [some (eR 1), some (eI s2), some (eI y), some (eI z)] [] ([eA 0 964 g, mZ (eUp P 10 0), eA 0 144 mk1, eA 0 24 fr], c)) (B := ev m_M_supportErrors 61 [some (eR 1), some (eI s2), some (eI y), some (eI z)] [] ([eA 0 964 g, mZ (eUp P 10 0), eA 0 144 mk1, eA 0 24 fr], c)) rfl (wr_id (by omega) (by omega)) (show wr 0 = 0 by decide) (fun h58 => ?_) (fun h58 => ?_)
            · refine xSeg (N := 2) (r := ev m_M_supportErrors 39 [some (eR 1), some (eI s2), some (eI y), some (eI (z + 1))] [] ([eA 0 964 g, mZ (eUp P 10 0), eA 0 144 mk1, eA 0 24 fr], c)) rfl ?_
              first | exact ihj _ _ (by omega) (by omega) | (have := hF (by omega); exact ihj _ _ (by omega) (by omega))
            · obtain ⟨zl, hzl, hT9⟩ := hT (by omega)
              refine xCallW (N := 5) (M2 := m_M_supportErrors) (pc2 := 65) (ls2 := [some (eR 1), some (eI s2), some (eI y), some (eI z)]) (st2 := [eI s2]) (y := m_M_lacksOf) (as := [some (eR 1), some (eI y), some (eI z)]) (w2 := ([eA 0 964 g, mZ (eUp P 10 0), eA 0 144 mk1, eA 0 24 fr], c)) rfl hT9 ?_
              refine xSeg (N := 4) (r := ev m_M_supportErrors 39 [some (eR 1), some (eI (s2 + zl)), some (eI y), some (eI (z + 1))] [] ([eA 0 964 g, mZ (eUp P 10 0), eA 0 144 mk1, eA 0 24 fr], c)) rfl ?_
              first | exact ihj _ _ (by omega) (by omega) | (have := hF (by omega); exact ihj _ _ (by omega) (by omega))
        refine xLd (N := 5) (n := 964) (i := 3) (F := fun zq => ev m_M_supportErrors 24 [some (eR 1), some (eI s), some (eI y)] [eI (g zq), eI y] ([eA 0 964 g, mZ (eUp P 10 0), eA 0 144 mk1, eA 0 24 fr], c)) (k := 3) rfl (show wr 3 = ((3 : Nat) : Int) by decide) (by omega) ?_
        refine xLtT (N := 1) (x := y) (y := g 3) (A := ev m_M_supportErrors 27 [some (eR 1), some (eI s), some (eI y)] [] ([eA 0 964 g, mZ (eUp P 10 0), eA 0 144 mk1, eA 0 24 fr], c)) (B := ev m_M_supportErrors 82 [some (eR 1), some (eI s), some (eI y)] [] ([eA 0 964 g, mZ (eUp P 10 0), eA 0 144 mk1, eA 0 24 fr], c)) rfl (wr_id (by omega) (by omega)) (wr_id (by omega) (by omega)) (by omega) ?_
        refine xLd (N := 4) (n := 964) (i := 4) (F := fun zq => ev m_M_supportErrors 33 [some (eR 1), some (eI s), some (eI y)] [eI (g zq)] ([eA 0 964 g, mZ (eUp P 10 0), eA 0 144 mk1, eA 0 24 fr], c)) (k := 4) rfl (show wr 4 = ((4 : Nat) : Int) by decide) (by omega) ?_
        refine xLtF (N := 2) (x := 1) (y := g 4) (A := ev m_M_supportErrors 82 [some (eR 1), some (eI s), some (eI y)] [] ([eA 0 964 g, mZ (eUp P 10 0), eA 0 144 mk1, eA 0 24 fr], c)) (B := ev m_M_supportErrors 37 [some (eR 1), some (eI s), some (eI y)] [] ([eA 0 964 g, mZ (eUp P 10 0), eA 0 144 mk1, eA 0 24 fr], c)) rfl (show wr 1 = 1 by decide) (wr_id (by omega) (by omega)) (by omega) ?_
        refine xSeg (N := 2) (r := ev m_M_supportErrors 39 [some (eR 1), some (eI s), some (eI y), some (eI 0)] [] ([eA 0 964 g, mZ (eUp P 10 0), eA 0 144 mk1, eA 0 24 fr], c)) rfl ?_
        exact hj 0 (Nat.zero_le _) _ _ (by show s = s + ((0 : Nat) : Int); omega) rfl
    refine xCallWV (N := 9) (M2 := m_M_supportErrors) (pc2 := 12) (ls2 := [some (eR 1), some (eI 0)]) (st2 := []) (y := m_M_findMasks) (as := [some (eR 1), some (eR 0)]) (w2 := ([eA 0 964 g, mZ (eUp P 10 0), eA 0 144 mk, eA 0 24 fr], c)) rfl (zUp hfm rfl rfl rfl) ?_
    refine xSeg (N := 2) (r := ev m_M_supportErrors 17 [some (eR 1), some (eI 0), some (eI 0)] [] ([eA 0 964 g, mZ (eUp P 10 0), eA 0 144 mk1, eA 0 24 fr], c)) rfl ?_
    exact hl 0 (Nat.zero_le _) _ _ rfl rfl
  · rw [if_neg h4]
    by_cases h3 : a 3 = 0
    · refine xCallWV (N := 9) (M2 := m_M_supportErrors) (pc2 := 12) (ls2 := [some (eR 1), some (eI 0)]) (st2 := []) (y := m_M_findMasks) (as := [some (eR 1), some (eR 0)]) (w2 := ([eA 0 964 g, mZ (eUp P 10 0), eA 0 144 mk, eA 0 24 fr], c)) rfl (zUp hfm rfl rfl rfl) ?_
      refine xLd (N := 7) (n := 964) (i := 3) (F := fun zq => ev m_M_supportErrors 24 [some (eR 1), some (eI 0), some (eI 0)] [eI (g zq), eI 0] ([eA 0 964 g, mZ (eUp P 10 0), eA 0 144 mk1, eA 0 24 fr], c)) (k := 3) rfl (show wr 3 = ((3 : Nat) : Int) by decide) (by omega) ?_
      refine xLtF (N := 1) (x := 0) (y := g 3) (A := ev m_M_supportErrors 27 [some (eR 1), some (eI 0), some (eI 0)] [] ([eA 0 964 g, mZ (eUp P 10 0), eA 0 144 mk1, eA 0 24 fr], c)) (B := ev m_M_supportErrors 82 [some (eR 1), some (eI 0), some (eI 0)] [] ([eA 0 964 g, mZ (eUp P 10 0), eA 0 144 mk1, eA 0 24 fr], c)) rfl (show wr 0 = 0 by decide) (wr_id (by omega) (by omega)) (by omega) ?_
      refine xSeg (N := 2) (r := some (.inl (some (eI 0)), ([eA 0 964 g, mZ (eUp P 10 0), eA 0 144 mk1, eA 0 24 fr], c))) rfl ?_
      rfl
    · refine xCallWV (N := 9) (M2 := m_M_supportErrors) (pc2 := 12) (ls2 := [some (eR 1), some (eI 0)]) (st2 := []) (y := m_M_findMasks) (as := [some (eR 1), some (eR 0)]) (w2 := ([eA 0 964 g, mZ (eUp P 10 0), eA 0 144 mk, eA 0 24 fr], c)) rfl (zUp hfm rfl rfl rfl) ?_
      refine xLd (N := 7) (n := 964) (i := 3) (F := fun zq => ev m_M_supportErrors 24 [some (eR 1), some (eI 0), some (eI 0)] [eI (g zq), eI 0] ([eA 0 964 g, mZ (eUp P 10 0), eA 0 144 mk1, eA 0 24 fr], c)) (k := 3) rfl (show wr 3 = ((3 : Nat) : Int) by decide) (by omega) ?_
      refine xLtT (N := 1) (x := 0) (y := g 3) (A := ev m_M_supportErrors 27 [some (eR 1), some (eI 0), some (eI 0)] [] ([eA 0 964 g, mZ (eUp P 10 0), eA 0 144 mk1, eA 0 24 fr], c)) (B := ev m_M_supportErrors 82 [some (eR 1), some (eI 0), some (eI 0)] [] ([eA 0 964 g, mZ (eUp P 10 0), eA 0 144 mk1, eA 0 24 fr], c)) rfl (show wr 0 = 0 by decide) (wr_id (by omega) (by omega)) (by omega) ?_
      refine xLd (N := 4) (n := 964) (i := 4) (F := fun zq => ev m_M_supportErrors 33 [some (eR 1), some (eI 0), some (eI 0)] [eI (g zq)] ([eA 0 964 g, mZ (eUp P 10 0), eA 0 144 mk1, eA 0 24 fr], c)) (k := 4) rfl (show wr 4 = ((4 : Nat) : Int) by decide) (by omega) ?_
      refine xLtT (N := 2) (x := 1) (y := g 4) (A := ev m_M_supportErrors 82 [some (eR 1), some (eI 0), some (eI 0)] [] ([eA 0 964 g, mZ (eUp P 10 0), eA 0 144 mk1, eA 0 24 fr], c)) (B := ev m_M_supportErrors 37 [some (eR 1), some (eI 0), some (eI 0)] [] ([eA 0 964 g, mZ (eUp P 10 0), eA 0 144 mk1, eA 0 24 fr], c)) rfl (show wr 1 = 1 by decide) (wr_id (by omega) (by omega)) (by omega) ?_
      refine xSeg (N := 2) (r := some (.inl (some (eI 0)), ([eA 0 964 g, mZ (eUp P 10 0), eA 0 144 mk1, eA 0 24 fr], c))) rfl ?_
      rfl
/-- the shares -/
def avF (s n : Nat) : UInt64 := FP.ddiv (FP.i2d (Int32.ofInt (s : Int))) (FP.i2d (Int32.ofInt (n : Int)))
def shF (s n : Nat) : UInt32 := FP.fdiv (FP.i2f (Int32.ofInt (s : Int))) (FP.i2f (Int32.ofInt (n : Int)))
theorem shF_ok : ∀ s, s < 37 → ∀ n, n < 37 → n ≠ 0 → shF s n &&& 0x7fffffff ≤ 0x7f800000 ∧ FP.f2d (shF s n) &&& 0x7fffffffffffffff ≤ 0x7ff0000000000000 := by decide +kernel
