/-! The model: begin anew, a guess, a guess taken back. -/
def cfR (r : Nat → Nat) (a : eRow) (k : Nat) : eRow := fun i => if 316 ≤ i ∧ i < 316 + k then r (i - 316) else a i
theorem oF_rg2 {r : Nat → Nat} {g : Nat → Int} {a : eRow} {k : Nat} (hg : rg g a) : rg (oF r g k) (cfR r a k) := fun i hi => by
  unfold oF cfR
  by_cases h : 316 ≤ i ∧ i < 316 + k
  · rw [if_pos h, if_pos h]
  · rw [if_neg h, if_neg h]
    exact hg i hi
theorem cfR_sm {r : Nat → Nat} {a : eRow} {k : Nat} : sm a (cfR r a k) := fun i hi => if_neg (by omega)
theorem ft_sm {a a' : eRow} (h : sm a a') (hG : iG a) (hV : iV a) {k w : Nat} (hk : k < a 3) (hw : w < a 2) : (decide (wl a' w = sl a' k) && allN (fun p => decide (a' (52 + cel a' k p) = 0 ∨ a' (52 + cel a' k p) = 97 + lt a' w p)) (sl a' k)) = ftB (sl a) (wl a) (Gv a) (lt a) k w := by
  have hn := hG.1.2.2.2.2
  have hm := hV.1
  unfold ftB Gv
  rw [sm_wl h (by omega), (sm_sl h (k := k) (by omega)).2.2.1]
  rw [allN_cong (q := fun p => decide (a (52 + cel a k p) = 0 ∨ a (52 + cel a k p) = 97 + lt a w p)) (fun p hp => by
    have hc := cel_lt hG hk hp
    rw [sm_cel h (by omega), sm_lt h (by omega), h (52 + cel a k p) (by omega)])]
set_option maxRecDepth 100000
theorem n_beginAnew {g mk fr P : Nat → Int} {a : eRow} {c : Nat × Nat} (hg : rg g a) (hG : iG a) (hV : iV a) : ∃ g' mk' fr' : Nat → Int, rg g' (bgA a) ∧ ev m_M_beginAnew 0 [some (eR 1), some (eR 0)] [] ([eA 0 964 g, mO P, eA 0 144 mk, eA 0 24 fr], c) = some (.inl none, ([eA 0 964 g', mO P, eA 0 144 mk', eA 0 24 fr'], c)) := by
  have hn := hG.1.2.2.2.2
  have hm30 := hV.1
  have hg5 := hg 5 (by omega)
  have hg8 := hg 8 (by omega)
  have hg2 : rg (eUp (eUp g 8 (g 8 + g 5)) 5 0) (up (up a 8 (a 8 + a 5)) 5 0) := up_rgi (up_rgi hg (by omega)) rfl
  generalize hgg : eUp (eUp g 8 (g 8 + g 5)) 5 0 = g2 at hg2
  generalize haa : up (up a 8 (a 8 + a 5)) 5 0 = a2 at hg2
  have hsm : sm a a2 := by rw [← haa]; exact sm_tr (up_sm (by omega)) (up_sm (by omega))
  have e3 : a2 3 = a 3 := hsm 3 (by omega)
  have e2 : a2 2 = a 2 := hsm 2 (by omega)
  have hG2 := sm_iG hsm hG
  have hV2 := sm_iV hsm hV
  -- the end
  have hend : ∀ v : Int, ∃ g' mk' fr' : Nat → Int, rg g' (bgA a) ∧ ev m_M_beginAnew 74 [some (eR 1), some (eR 0), some (eI v)] [] ([eA 0 964 (oF (fitA a) g2 (a 3)), mO P, eA 0 144 mk, eA 0 24 fr], c) = some (.inl none, ([eA 0 964 g', mO P, eA 0 144 mk', eA 0 24 fr'], c)) := by
    intro v
    have hr : rg (oF (fitA a) g2 (a 3)) (ba1 a) := rg_cong (oF_rg2 (k := a 3) hg2) (fun i hi => by
      unfold ba1
      rw [← haa]
      unfold up setO cfR
      by_cases h : 316 ≤ i ∧ i < 316 + a 3
      · rw [if_neg (by omega), if_neg (by omega), if_pos h, if_pos h]
      · rw [if_neg h]
        by_cases h5 : i = 5
        · rw [if_pos h5, if_neg h]; exact (if_pos h5).symm
        · rw [if_neg h5, if_neg h]; exact (if_neg h5).symm)
    obtain ⟨g', mk', fr', q1, q2⟩ := n_narrow (P := P) (mk := mk) (fr := fr) (c := c) hr (sm_iG ba1_sm hG) (sm_iV ba1_sm hV) (ba1_O hG hV)
    refine ⟨g', mk', fr', q1, ?_⟩
    refine xCallWV (N := 3) (M2 := m_M_beginAnew) (pc2 := 76) (ls2 := [some (eR 1), some (eR 0), some (eI v)]) (st2 := []) (y := m_M_narrow) (as := [some (eR 1), some (eR 0)]) (w2 := ([eA 0 964 (oF (fitA a) g2 (a 3)), mO P, eA 0 144 mk, eA 0 24 fr], c)) rfl q2 ?_
    refine xSeg (N := 1) (r := some (.inl none, ([eA 0 964 g', mO P, eA 0 144 mk', eA 0 24 fr'], c))) rfl ?_
    rfl
  have hi : ∀ (k : Nat) (v : Int), k < a 3 → v = (k : Int) → ∀ R : eRes, (∀ y : Int, ev m_M_beginAnew 16 [some (eR 1), some (eR 0), some (eI (v + 1))] [] ([eA 0 964 (oF (fitA a) g2 (k + 1)), mO P, eA 0 144 mk, eA 0 24 fr], c) = R) → ∀ p : Nat, p ≤ a 2 → ∀ (y u : Int), y = (p : Int) → u = ((mkM (ftB (sl a) (wl a) (Gv a) (lt a) k) p : Nat) : Int) → ev m_M_beginAnew 33 [some (eR 1), some (eR 0), some (eI v), some (eI y)] [] ([eA 0 964 (eUp (oF (fitA a) g2 k) (316 + k) u), mO P, eA 0 144 mk, eA 0 24 fr], c) = R := by
    intro k v hk hv R hR
    refine loop_up ?_ ?_
    · intro y u hy hu
      have g2e : eUp (oF (fitA a) g2 k) (316 + k) u 2 = (a 2 : Int) := by rw [eUp_ne (by omega), oF_lo (by omega), hg2 2 (by omega), e2]
      have hst : eUp (oF (fitA a) g2 k) (316 + k) u = oF (fitA a) g2 (k + 1) := by rw [hu]; exact oF_step (r := fitA a)
      refine xLd (N := 4) (n := 964) (i := 2) (F := fun zq => ev m_M_beginAnew 37 [some (eR 1), some (eR 0), some (eI v), some (eI y)] [eI ((eUp (oF (fitA a) g2 k) (316 + k) u) zq), eI y] ([eA 0 964 (eUp (oF (fitA a) g2 k) (316 + k) u), mO P, eA 0 144 mk, eA 0 24 fr], c)) (k := 2) rfl (show wr 2 = ((2 : Nat) : Int) by decide) (by omega) ?_
      refine xLtF (N := 1) (x := y) (y := (eUp (oF (fitA a) g2 k) (316 + k) u) 2) (A := ev m_M_beginAnew 40 [some (eR 1), some (eR 0), some (eI v), some (eI y)] [] ([eA 0 964 (eUp (oF (fitA a) g2 k) (316 + k) u), mO P, eA 0 144 mk, eA 0 24 fr], c)) (B := ev m_M_beginAnew 68 [some (eR 1), some (eR 0), some (eI v), some (eI y)] [] ([eA 0 964 (eUp (oF (fitA a) g2 k) (316 + k) u), mO P, eA 0 144 mk, eA 0 24 fr], c)) rfl (wr_id (by omega) (by omega)) (wr_id (by omega) (by omega)) (by omega) ?_
      refine xSeg (N := 2) (r := ev m_M_beginAnew 16 [some (eR 1), some (eR 0), some (eI (v + 1)), some (eI y)] [] ([eA 0 964 (eUp (oF (fitA a) g2 k) (316 + k) u), mO P, eA 0 144 mk, eA 0 24 fr], c)) rfl ?_
      refine xTk 3 (by rfl) rfl ?_
      rw [hst]
      exact hR y
    · intro p hp ih y u hy hu
      have hlt := mkM_lt30 (p := ftB (sl a) (wl a) (Gv a) (lt a) k) (w := p) (by omega)
      have g2e : eUp (oF (fitA a) g2 k) (316 + k) u 2 = (a 2 : Int) := by rw [eUp_ne (by omega), oF_lo (by omega), hg2 2 (by omega), e2]
      have hrow : rg (eUp (oF (fitA a) g2 k) (316 + k) u) (up (cfR (fitA a) a2 k) (316 + k) (mkM (ftB (sl a) (wl a) (Gv a) (lt a) k) p)) := up_rgi (oF_rg2 hg2) hu
      have hsm3 : sm a (up (cfR (fitA a) a2 k) (316 + k) (mkM (ftB (sl a) (wl a) (Gv a) (lt a) k) p)) := sm_tr hsm (sm_tr cfR_sm (up_sm (by omega)))
      have hft := rowRd (V := [eA 0 964 (eUp (oF (fitA a) g2 k) (316 + k) u), mO P, eA 0 144 mk, eA 0 24 fr]) (p := 0) (d := c) (n_fits (c := (0, 0)) (k := k) (w := p) hrow (sm_iG hsm3 hG) (sm_iV hsm3 hV) hv hy (by rw [hsm3 3 (by omega)]; exact hk) (by rw [hsm3 2 (by omega)]; exact hp)) rfl rfl
      rw [ft_sm hsm3 hG hV hk hp] at hft
      have hat : eUp (oF (fitA a) g2 k) (316 + k) u (316 + k) = u := eUp_at
      refine xLd (N := 4) (n := 964) (i := 2) (F := fun zq => ev m_M_beginAnew 37 [some (eR 1), some (eR 0), some (eI v), some (eI y)] [eI ((eUp (oF (fitA a) g2 k) (316 + k) u) zq), eI y] ([eA 0 964 (eUp (oF (fitA a) g2 k) (316 + k) u), mO P, eA 0 144 mk, eA 0 24 fr], c)) (k := 2) rfl (show wr 2 = ((2 : Nat) : Int) by decide) (by omega) ?_
      refine xLtT (N := 1) (x := y) (y := (eUp (oF (fitA a) g2 k) (316 + k) u) 2) (A := ev m_M_beginAnew 40 [some (eR 1), some (eR 0), some (eI v), some (eI y)] [] ([eA 0 964 (eUp (oF (fitA a) g2 k) (316 + k) u), mO P, eA 0 144 mk, eA 0 24 fr], c)) (B := ev m_M_beginAnew 68 [some (eR 1), some (eR 0), some (eI v), some (eI y)] [] ([eA 0 964 (eUp (oF (fitA a) g2 k) (316 + k) u), mO P, eA 0 144 mk, eA 0 24 fr], c)) rfl (wr_id (by omega) (by omega)) (wr_id (by omega) (by omega)) (by omega) ?_
      refine xCallI (N := 4) (v := bI (ftB (sl a) (wl a) (Gv a) (lt a) k p)) (M2 := m_M_beginAnew) (pc2 := 43) (ls2 := [some (eR 1), some (eR 0), some (eI v), some (eI y)]) (st2 := []) (y := m_M_fits) (as := [some (eR 0), some (eI v), some (eI y)]) (w2 := ([eA 0 964 (eUp (oF (fitA a) g2 k) (316 + k) u), mO P, eA 0 144 mk, eA 0 24 fr], c)) rfl hft (fun r43 hr43 => ?_)
      have hq := bI_1 hr43
      refine xEq (N := 1) (x := r43) (y := 0) (A := ev m_M_beginAnew 62 [some (eR 1), some (eR 0), some (eI v), some (eI y)] [] ([eA 0 964 (eUp (oF (fitA a) g2 k) (316 + k) u), mO P, eA 0 144 mk, eA 0 24 fr], c)) (B := ev m_M_beginAnew 49 [some (eR 1), some (eR 0), some (eI v), some (eI y)] [] ([eA 0 964 (eUp (oF (fitA a) g2 k) (316 + k) u), mO P, eA 0 144 mk, eA 0 24 fr], c)) rfl (wr_id (by omega) (by omega)) (show wr 0 = 0 by decide) (fun h46 => ?_) (fun h46 => ?_)
      · refine xSeg (N := 2) (r := ev m_M_beginAnew 33 [some (eR 1), some (eR 0), some (eI v), some (eI (y + 1))] [] ([eA 0 964 (eUp (oF (fitA a) g2 k) (316 + k) u), mO P, eA 0 144 mk, eA 0 24 fr], c)) rfl ?_
        first | (rw [eUp_eUp]; exact ih _ _ (by omega) (by rw [hs2, mkM_T (hq.2.1.mp (by omega))])) | exact ih _ _ (by omega) (by rw [mkM_F (hq.2.2.mp (by omega))]; exact hu)
      · refine xLd (N := 6) (n := 964) (i := 316 + v) (F := fun zq => ev m_M_beginAnew 57 [some (eR 1), some (eR 0), some (eI v), some (eI y)] [eI ((eUp (oF (fitA a) g2 k) (316 + k) u) zq), eI (316 + v), eR 0] ([eA 0 964 (eUp (oF (fitA a) g2 k) (316 + k) u), mO P, eA 0 144 mk, eA 0 24 fr], c)) (k := 316 + k) rfl (wr_nat (by omega) (by omega)) (by omega) ?_
        refine xTop (N := 4) (pc2 := 61) (ls2 := [some (eR 1), some (eR 0), some (eI v), some (eI y)]) (a := bOr ((eUp (oF (fitA a) g2 k) (316 + k) u) (316 + k)) (bShl 1 y)) (b := ((mkM (ftB (sl a) (wl a) (Gv a) (lt a) k) p ||| 2 ^ p : Nat) : Int)) (st2 := [eI (316 + v), eR 0]) (w2 := ([eA 0 964 (eUp (oF (fitA a) g2 k) (316 + k) u), mO P, eA 0 144 mk, eA 0 24 fr], c)) rfl (by rw [hat]; exact i_or hu hlt hy (by omega)) (fun s2 hs2 => ?_)
        refine xLd (N := 1) (n := 964) (i := 316 + v) (F := fun zq => ev m_M_beginAnew 62 [some (eR 1), some (eR 0), some (eI v), some (eI y)] [] ([eA 0 964 (eUp (eUp (oF (fitA a) g2 k) (316 + k) u) zq s2), mO P, eA 0 144 mk, eA 0 24 fr], c)) (k := 316 + k) rfl (wr_nat (by omega) (by omega)) (by omega) ?_
        refine xSeg (N := 2) (r := ev m_M_beginAnew 33 [some (eR 1), some (eR 0), some (eI v), some (eI (y + 1))] [] ([eA 0 964 (eUp (eUp (oF (fitA a) g2 k) (316 + k) u) (316 + k) s2), mO P, eA 0 144 mk, eA 0 24 fr], c)) rfl ?_
        first | (rw [eUp_eUp]; exact ih _ _ (by omega) (by rw [hs2, mkM_T (hq.2.1.mp (by omega))])) | exact ih _ _ (by omega) (by rw [mkM_F (hq.2.2.mp (by omega))]; exact hu)
  have hl : ∀ k : Nat, k ≤ a 3 → ∀ v : Int, v = (k : Int) → ∃ g' mk' fr' : Nat → Int, rg g' (bgA a) ∧ ev m_M_beginAnew 16 [some (eR 1), some (eR 0), some (eI v)] [] ([eA 0 964 (oF (fitA a) g2 k), mO P, eA 0 144 mk, eA 0 24 fr], c) = some (.inl none, ([eA 0 964 g', mO P, eA 0 144 mk', eA 0 24 fr'], c)) := by
    refine loop_up ?_ ?_
    · intro v hv
      have g3e : oF (fitA a) g2 (a 3) 3 = (a 3 : Int) := by rw [oF_lo (by omega), hg2 3 (by omega), e3]
      obtain ⟨g', mk', fr', q1, q2⟩ := hend v
      refine ⟨g', mk', fr', q1, ?_⟩
      refine xLd (N := 4) (n := 964) (i := 3) (F := fun zq => ev m_M_beginAnew 20 [some (eR 1), some (eR 0), some (eI v)] [eI ((oF (fitA a) g2 (a 3)) zq), eI v] ([eA 0 964 (oF (fitA a) g2 (a 3)), mO P, eA 0 144 mk, eA 0 24 fr], c)) (k := 3) rfl (show wr 3 = ((3 : Nat) : Int) by decide) (by omega) ?_
      refine xLtF (N := 1) (x := v) (y := (oF (fitA a) g2 (a 3)) 3) (A := ev m_M_beginAnew 23 [some (eR 1), some (eR 0), some (eI v)] [] ([eA 0 964 (oF (fitA a) g2 (a 3)), mO P, eA 0 144 mk, eA 0 24 fr], c)) (B := ev m_M_beginAnew 74 [some (eR 1), some (eR 0), some (eI v)] [] ([eA 0 964 (oF (fitA a) g2 (a 3)), mO P, eA 0 144 mk, eA 0 24 fr], c)) rfl (wr_id (by omega) (by omega)) (wr_id (by omega) (by omega)) (by omega) ?_
      exact q2
    · intro k hk ih v hv
      have g3e : oF (fitA a) g2 k 3 = (a 3 : Int) := by rw [oF_lo (by omega), hg2 3 (by omega), e3]
      obtain ⟨g', mk', fr', q1, q2⟩ := ih (v + 1) (by omega)
      refine ⟨g', mk', fr', q1, ?_⟩
      refine xLd (N := 4) (n := 964) (i := 3) (F := fun zq => ev m_M_beginAnew 20 [some (eR 1), some (eR 0), some (eI v)] [eI ((oF (fitA a) g2 k) zq), eI v] ([eA 0 964 (oF (fitA a) g2 k), mO P, eA 0 144 mk, eA 0 24 fr], c)) (k := 3) rfl (show wr 3 = ((3 : Nat) : Int) by decide) (by omega) ?_
      refine xLtT (N := 1) (x := v) (y := (oF (fitA a) g2 k) 3) (A := ev m_M_beginAnew 23 [some (eR 1), some (eR 0), some (eI v)] [] ([eA 0 964 (oF (fitA a) g2 k), mO P, eA 0 144 mk, eA 0 24 fr], c)) (B := ev m_M_beginAnew 74 [some (eR 1), some (eR 0), some (eI v)] [] ([eA 0 964 (oF (fitA a) g2 k), mO P, eA 0 144 mk, eA 0 24 fr], c)) rfl (wr_id (by omega) (by omega)) (wr_id (by omega) (by omega)) (by omega) ?_
      refine xLd (N := 6) (n := 964) (i := 316 + v) (F := fun zq => ev m_M_beginAnew 31 [some (eR 1), some (eR 0), some (eI v)] [] ([eA 0 964 (eUp (oF (fitA a) g2 k) zq 0), mO P, eA 0 144 mk, eA 0 24 fr], c)) (k := 316 + k) rfl (wr_nat (by omega) (by omega)) (by omega) ?_
      refine xSeg (N := 2) (r := ev m_M_beginAnew 33 [some (eR 1), some (eR 0), some (eI v), some (eI 0)] [] ([eA 0 964 (eUp (oF (fitA a) g2 k) (316 + k) 0), mO P, eA 0 144 mk, eA 0 24 fr], c)) rfl ?_
      exact hi k v hk hv _ (fun y => q2) 0 (Nat.zero_le _) _ _ rfl rfl
  obtain ⟨g', mk', fr', q1, q2⟩ := hl 0 (Nat.zero_le _) 0 rfl
  rw [oF_0] at q2
  refine ⟨g', mk', fr', q1, ?_⟩
  refine xLd (N := 4) (n := 964) (i := 8) (F := fun zq => ev m_M_beginAnew 5 [some (eR 1), some (eR 0)] [eI (g zq), eI 8, eR 0] ([eA 0 964 g, mO P, eA 0 144 mk, eA 0 24 fr], c)) (k := 8) rfl (show wr 8 = ((8 : Nat) : Int) by decide) (by omega) ?_
  refine xLd (N := 3) (n := 964) (i := 5) (F := fun zq => ev m_M_beginAnew 8 [some (eR 1), some (eR 0)] [eI (g zq), eI (g 8), eI 8, eR 0] ([eA 0 964 g, mO P, eA 0 144 mk, eA 0 24 fr], c)) (k := 5) rfl (show wr 5 = ((5 : Nat) : Int) by decide) (by omega) ?_
  refine xLd (N := 2) (n := 964) (i := 8) (F := fun zq => ev m_M_beginAnew 10 [some (eR 1), some (eR 0)] [] ([eA 0 964 (eUp g zq ((g 8) + (g 5))), mO P, eA 0 144 mk, eA 0 24 fr], c)) (k := 8) rfl (show wr 8 = ((8 : Nat) : Int) by decide) (by omega) ?_
  refine xLd (N := 4) (n := 964) (i := 5) (F := fun zq => ev m_M_beginAnew 14 [some (eR 1), some (eR 0)] [] ([eA 0 964 (eUp (eUp g 8 ((g 8) + (g 5))) zq 0), mO P, eA 0 144 mk, eA 0 24 fr], c)) (k := 5) rfl (show wr 5 = ((5 : Nat) : Int) by decide) (by omega) ?_
  refine xSeg (N := 2) (r := ev m_M_beginAnew 16 [some (eR 1), some (eR 0), some (eI 0)] [] ([eA 0 964 (eUp (eUp g 8 ((g 8) + (g 5))) 5 0), mO P, eA 0 144 mk, eA 0 24 fr], c)) rfl ?_
  rw [hgg]
  exact q2
theorem bfR_step {b : eRow} {d k : Nat} (h : 316 + k < 388 + 24 * d) : up (bfR b d k) (388 + 24 * d + k) (b (316 + k)) = bfR b d (k + 1) := by
  funext i
  unfold up bfR
  by_cases hi : i = 388 + 24 * d + k
  · rw [if_pos hi, if_pos (by omega), hi, Nat.add_sub_cancel_left]
  · rw [if_neg hi]
    by_cases h2 : 388 + 24 * d ≤ i ∧ i < 388 + 24 * d + k
    · rw [if_pos h2, if_pos (by omega)]
    · rw [if_neg h2, if_neg (by omega)]
theorem bfR_0 {b : eRow} {d : Nat} : bfR b d 0 = b := by funext i; unfold bfR; rw [if_neg (by omega)]
theorem n_takesGuess {g mk fr P : Nat → Int} {a : eRow} {c : Nat × Nat} {x y : Int} {k w : Nat} (hg : rg g a) (hI : iA a) (hx : x = (k : Int)) (hy : y = (w : Int)) (hk : k < a 3) (h1 : 1 < pc 30 (op a k)) (hb : (op a k).testBit w = true) : ∃ g' mk' fr' : Nat → Int, rg g' (gsA a k w) ∧ ev m_M_takesGuess 0 [some (eR 1), some (eR 0), some (eI x), some (eI y)] [] ([eA 0 964 g, mO P, eA 0 144 mk, eA 0 24 fr], c) = some (.inl (some (eI ((gsA a k w 4 : Nat) : Int))), ([eA 0 964 g', mO P, eA 0 144 mk', eA 0 24 fr'], c)) := by
  obtain ⟨hG, hV, hO, hT, hM⟩ := hI
  have hn := hG.1.2.2.2.2
  have hm30 := hV.1
  have h5 := iT_room hn hT hk h1
  have hw2 := (hO k hk).2 w hb
  obtain ⟨p1, p2, p3, p4⟩ := ps_all hG hV hO hT hk h1 hb
  have g5 := hg 5 (by omega)
  have hg2 : rg (eUp (eUp g (340 + 2 * a 5) x) (340 + 2 * a 5 + 1) y) (up (up a (340 + 2 * a 5) k) (340 + 2 * a 5 + 1) w) := up_rgi (up_rgi hg hx) hy
  have hb2 : ∀ i, i < 340 → (up (up a (340 + 2 * a 5) k) (340 + 2 * a 5 + 1) w) i = a i := fun i hi => by rw [up_ne (by omega), up_ne (by omega)]
  generalize hgg : eUp (eUp g (340 + 2 * a 5) x) (340 + 2 * a 5 + 1) y = g2 at hg2
  generalize haa : up (up a (340 + 2 * a 5) k) (340 + 2 * a 5 + 1) w = a2 at hg2 hb2
  have hl : ∀ j : Nat, j ≤ a 3 → ∀ (gj : Nat → Int) (z : Int), rg gj (bfR a2 (a 5) j) → z = (j : Int) → ∃ g' mk' fr' : Nat → Int, rg g' (gsA a k w) ∧ ev m_M_takesGuess 32 [some (eR 1), some (eR 0), some (eI x), some (eI y), some (eI (g 5)), some (eI z)] [] ([eA 0 964 gj, mO P, eA 0 144 mk, eA 0 24 fr], c) = some (.inl (some (eI ((gsA a k w 4 : Nat) : Int))), ([eA 0 964 g', mO P, eA 0 144 mk', eA 0 24 fr'], c)) := by
    refine loop_up ?_ ?_
    · intro gj z hgj hz
      have j3 : gj 3 = (a 3 : Int) := by rw [hgj 3 (by omega), bfR_ne (by omega), hb2 3 (by omega)]
      have j5 : gj 5 = (a 5 : Int) := by rw [hgj 5 (by omega), bfR_ne (by omega), hb2 5 (by omega)]
      have j6 : gj 6 = (a 6 : Int) := by rw [hgj 6 (by omega), bfR_ne (by omega), hb2 6 (by omega)]
      have hr : rg (eUp (eUp (eUp gj 5 (gj 5 + 1)) 6 (gj 6 + 1)) (316 + k) ((2 ^ w : Nat) : Int)) (psA a k w) := by
        unfold psA
        rw [haa]
        exact up_rgi (up_rgi (up_rgi hgj (by omega)) (by omega)) rfl
      obtain ⟨g', mk', fr', q1, q2⟩ := n_narrow (P := P) (mk := mk) (fr := fr) (c := c) hr p1 p2 p3
      have q4 : g' 4 = ((gsA a k w 4 : Nat) : Int) := q1 4 (by omega)
      have e56 : eUp gj 5 (gj 5 + 1) 6 = gj 6 := eUp_ne (by omega)
      refine ⟨g', mk', fr', q1, ?_⟩
      refine xLd (N := 4) (n := 964) (i := 3) (F := fun zq => ev m_M_takesGuess 37 [some (eR 1), some (eR 0), some (eI x), some (eI y), some (eI (g 5)), some (eI z)] [eI (gj zq), eI z] ([eA 0 964 gj, mO P, eA 0 144 mk, eA 0 24 fr], c)) (k := 3) rfl (show wr 3 = ((3 : Nat) : Int) by decide) (by omega) ?_
      refine xLtF (N := 1) (x := z) (y := gj 3) (A := ev m_M_takesGuess 40 [some (eR 1), some (eR 0), some (eI x), some (eI y), some (eI (g 5)), some (eI z)] [] ([eA 0 964 gj, mO P, eA 0 144 mk, eA 0 24 fr], c)) (B := ev m_M_takesGuess 68 [some (eR 1), some (eR 0), some (eI x), some (eI y), some (eI (g 5)), some (eI z)] [] ([eA 0 964 gj, mO P, eA 0 144 mk, eA 0 24 fr], c)) rfl (wr_id (by omega) (by omega)) (wr_id (by omega) (by omega)) (by omega) ?_
      refine xLd (N := 4) (n := 964) (i := 5) (F := fun zq => ev m_M_takesGuess 72 [some (eR 1), some (eR 0), some (eI x), some (eI y), some (eI (g 5)), some (eI z)] [eI (gj zq), eI 5, eR 0] ([eA 0 964 gj, mO P, eA 0 144 mk, eA 0 24 fr], c)) (k := 5) rfl (show wr 5 = ((5 : Nat) : Int) by decide) (by omega) ?_
      refine xLd (N := 3) (n := 964) (i := 5) (F := fun zq => ev m_M_takesGuess 75 [some (eR 1), some (eR 0), some (eI x), some (eI y), some (eI (g 5)), some (eI z)] [] ([eA 0 964 (eUp gj zq ((gj 5) + 1)), mO P, eA 0 144 mk, eA 0 24 fr], c)) (k := 5) rfl (show wr 5 = ((5 : Nat) : Int) by decide) (by omega) ?_
      refine xLd (N := 4) (n := 964) (i := 6) (F := fun zq => ev m_M_takesGuess 80 [some (eR 1), some (eR 0), some (eI x), some (eI y), some (eI (g 5)), some (eI z)] [eI ((eUp gj 5 ((gj 5) + 1)) zq), eI 6, eR 0] ([eA 0 964 (eUp gj 5 ((gj 5) + 1)), mO P, eA 0 144 mk, eA 0 24 fr], c)) (k := 6) rfl (show wr 6 = ((6 : Nat) : Int) by decide) (by omega) ?_
      refine xLd (N := 3) (n := 964) (i := 6) (F := fun zq => ev m_M_takesGuess 83 [some (eR 1), some (eR 0), some (eI x), some (eI y), some (eI (g 5)), some (eI z)] [] ([eA 0 964 (eUp (eUp gj 5 ((gj 5) + 1)) zq (((eUp gj 5 ((gj 5) + 1)) 6) + 1)), mO P, eA 0 144 mk, eA 0 24 fr], c)) (k := 6) rfl (show wr 6 = ((6 : Nat) : Int) by decide) (by omega) ?_
      refine xTop (N := 7) (pc2 := 92) (ls2 := [some (eR 1), some (eR 0), some (eI x), some (eI y), some (eI (g 5)), some (eI z)]) (a := bShl 1 y) (b := ((2 ^ w : Nat) : Int)) (st2 := [eI (316 + x), eR 0]) (w2 := ([eA 0 964 (eUp (eUp gj 5 ((gj 5) + 1)) 6 (((eUp gj 5 ((gj 5) + 1)) 6) + 1)), mO P, eA 0 144 mk, eA 0 24 fr], c)) rfl (by rw [hy, bShl1_n w (by omega)]) (fun v hv => ?_)
      refine xLd (N := 1) (n := 964) (i := 316 + x) (F := fun zq => ev m_M_takesGuess 93 [some (eR 1), some (eR 0), some (eI x), some (eI y), some (eI (g 5)), some (eI z)] [] ([eA 0 964 (eUp (eUp (eUp gj 5 ((gj 5) + 1)) 6 (((eUp gj 5 ((gj 5) + 1)) 6) + 1)) zq v), mO P, eA 0 144 mk, eA 0 24 fr], c)) (k := 316 + k) rfl (wr_nat (by omega) (by omega)) (by omega) ?_
      rw [e56, hv]
      skip
      refine xCallWV (N := 3) (M2 := m_M_takesGuess) (pc2 := 95) (ls2 := [some (eR 1), some (eR 0), some (eI x), some (eI y), some (eI (g 5)), some (eI z)]) (st2 := []) (y := m_M_narrow) (as := [some (eR 1), some (eR 0)]) (w2 := ([eA 0 964 (eUp (eUp (eUp gj 5 (gj 5 + 1)) 6 (gj 6 + 1)) (316 + k) ((2 ^ w : Nat) : Int)), mO P, eA 0 144 mk, eA 0 24 fr], c)) rfl q2 ?_
      refine xLd (N := 3) (n := 964) (i := 4) (F := fun zq => ev m_M_takesGuess 101 [some (eR 1), some (eR 0), some (eI x), some (eI y), some (eI (g 5)), some (eI z)] [eI (g' zq)] ([eA 0 964 g', mO P, eA 0 144 mk', eA 0 24 fr'], c)) (k := 4) rfl (show wr 4 = ((4 : Nat) : Int) by decide) (by omega) ?_
      refine xSeg (N := 1) (r := some (.inl (some (eI (g' 4))), ([eA 0 964 g', mO P, eA 0 144 mk', eA 0 24 fr'], c))) rfl ?_
      rw [q4]
    · intro j hj ih gj z hgj hz
      have j3 : gj 3 = (a 3 : Int) := by rw [hgj 3 (by omega), bfR_ne (by omega), hb2 3 (by omega)]
      have jo : gj (316 + j) = (a2 (316 + j) : Int) := by rw [hgj (316 + j) (by omega), bfR_ne (by omega)]
      have hnx : rg (eUp gj (388 + 24 * a 5 + j) (gj (316 + j))) (bfR a2 (a 5) (j + 1)) := by
        rw [← bfR_step (by omega)]
        exact up_rgi hgj jo
      obtain ⟨g', mk', fr', q1, q2⟩ := ih _ (z + 1) hnx (by omega)
      refine ⟨g', mk', fr', q1, ?_⟩
      refine xLd (N := 4) (n := 964) (i := 3) (F := fun zq => ev m_M_takesGuess 37 [some (eR 1), some (eR 0), some (eI x), some (eI y), some (eI (g 5)), some (eI z)] [eI (gj zq), eI z] ([eA 0 964 gj, mO P, eA 0 144 mk, eA 0 24 fr], c)) (k := 3) rfl (show wr 3 = ((3 : Nat) : Int) by decide) (by omega) ?_
      refine xLtT (N := 1) (x := z) (y := gj 3) (A := ev m_M_takesGuess 40 [some (eR 1), some (eR 0), some (eI x), some (eI y), some (eI (g 5)), some (eI z)] [] ([eA 0 964 gj, mO P, eA 0 144 mk, eA 0 24 fr], c)) (B := ev m_M_takesGuess 68 [some (eR 1), some (eR 0), some (eI x), some (eI y), some (eI (g 5)), some (eI z)] [] ([eA 0 964 gj, mO P, eA 0 144 mk, eA 0 24 fr], c)) rfl (wr_id (by omega) (by omega)) (wr_id (by omega) (by omega)) (by omega) ?_
      refine xLd (N := 13) (n := 964) (i := 316 + z) (F := fun zq => ev m_M_takesGuess 61 [some (eR 1), some (eR 0), some (eI x), some (eI y), some (eI (g 5)), some (eI z)] [eI (gj zq), eI ((388 + (24 * (g 5))) + z), eR 0] ([eA 0 964 gj, mO P, eA 0 144 mk, eA 0 24 fr], c)) (k := 316 + j) rfl (wr_nat (by omega) (by omega)) (by omega) ?_
      refine xLd (N := 1) (n := 964) (i := (388 + (24 * (g 5))) + z) (F := fun zq => ev m_M_takesGuess 62 [some (eR 1), some (eR 0), some (eI x), some (eI y), some (eI (g 5)), some (eI z)] [] ([eA 0 964 (eUp gj zq (gj (316 + j))), mO P, eA 0 144 mk, eA 0 24 fr], c)) (k := (388 + (24 * (a 5))) + j) rfl (wr_nat (by omega) (by omega)) (by omega) ?_
      refine xSeg (N := 2) (r := ev m_M_takesGuess 32 [some (eR 1), some (eR 0), some (eI x), some (eI y), some (eI (g 5)), some (eI (z + 1))] [] ([eA 0 964 (eUp gj ((388 + (24 * (a 5))) + j) (gj (316 + j))), mO P, eA 0 144 mk, eA 0 24 fr], c)) rfl ?_
      exact q2
  obtain ⟨g', mk', fr', q1, q2⟩ := hl 0 (Nat.zero_le _) g2 0 (by rw [bfR_0]; exact hg2) rfl
  refine ⟨g', mk', fr', q1, ?_⟩
  refine xLd (N := 3) (n := 964) (i := 5) (F := fun zq => ev m_M_takesGuess 3 [some (eR 1), some (eR 0), some (eI x), some (eI y)] [eI (g zq)] ([eA 0 964 g, mO P, eA 0 144 mk, eA 0 24 fr], c)) (k := 5) rfl (show wr 5 = ((5 : Nat) : Int) by decide) (by omega) ?_
  refine xLd (N := 9) (n := 964) (i := 340 + (2 * (g 5))) (F := fun zq => ev m_M_takesGuess 16 [some (eR 1), some (eR 0), some (eI x), some (eI y), some (eI (g 5))] [] ([eA 0 964 (eUp g zq x), mO P, eA 0 144 mk, eA 0 24 fr], c)) (k := 340 + (2 * (a 5))) rfl (wr_nat (by omega) (by omega)) (by omega) ?_
  refine xLd (N := 10) (n := 964) (i := (340 + (2 * (g 5))) + 1) (F := fun zq => ev m_M_takesGuess 29 [some (eR 1), some (eR 0), some (eI x), some (eI y), some (eI (g 5))] [] ([eA 0 964 (eUp (eUp g (340 + (2 * (a 5))) x) zq y), mO P, eA 0 144 mk, eA 0 24 fr], c)) (k := (340 + (2 * (a 5))) + 1) rfl (wr_nat (by omega) (by omega)) (by omega) ?_
  refine xSeg (N := 2) (r := ev m_M_takesGuess 32 [some (eR 1), some (eR 0), some (eI x), some (eI y), some (eI (g 5)), some (eI 0)] [] ([eA 0 964 (eUp (eUp g (340 + (2 * (a 5))) x) ((340 + (2 * (a 5))) + 1) y), mO P, eA 0 144 mk, eA 0 24 fr], c)) rfl ?_
  rw [hgg]
  exact q2
theorem rsR_step {b : eRow} {d k : Nat} (h : 316 + k < 388 + 24 * d) : up (rsR b d k) (316 + k) (b (388 + 24 * d + k)) = rsR b d (k + 1) := by
  funext i
  unfold up rsR
  by_cases hi : i = 316 + k
  · rw [if_pos hi, if_pos (by omega), hi, Nat.add_sub_cancel_left]
  · rw [if_neg hi]
    by_cases h2 : 316 ≤ i ∧ i < 316 + k
    · rw [if_pos h2, if_pos (by omega)]
    · rw [if_neg h2, if_neg (by omega)]
theorem rsR_0 {b : eRow} {d : Nat} : rsR b d 0 = b := by funext i; unfold rsR; rw [if_neg (by omega)]
theorem n_takesBack {g mk fr P : Nat → Int} {a : eRow} {c : Nat × Nat} (hg : rg g a) (hI : iA a) (h5 : 0 < a 5) : ∃ g' mk' fr' : Nat → Int, rg g' (tbA a) ∧ ev m_M_takesBack 0 [some (eR 1), some (eR 0)] [] ([eA 0 964 g, mO P, eA 0 144 mk, eA 0 24 fr], c) = some (.inl (some (eI ((tbA a 4 : Nat) : Int))), ([eA 0 964 g', mO P, eA 0 144 mk', eA 0 24 fr'], c)) := by
  obtain ⟨hG, hV, hO, hT, hM⟩ := hI
  have hn := hG.1.2.2.2.2
  have hm30 := hV.1
  have h24 := iT_24 hn hT
  obtain ⟨p1, p2, p3, p4⟩ := pp_all hG hV hT h5
  obtain ⟨t1, t2, t3, t4, t5, t6⟩ := hT (a 5 - 1) (by omega)
  have g5 := hg 5 (by omega)
  have g7 := hg 7 (by omega)
  have hg2 : rg (eUp (eUp g 5 (g 5 - 1)) 7 (g 7 + 1)) (up (up a 5 (a 5 - 1)) 7 (a 7 + 1)) := up_rgi (up_rgi hg (by omega)) (by omega)
  have hb2 : ∀ i, i ≠ 5 → i ≠ 7 → (up (up a 5 (a 5 - 1)) 7 (a 7 + 1)) i = a i := fun i h1 h2 => by rw [up_ne h2, up_ne h1]
  have e57 : eUp g 5 (g 5 - 1) 7 = g 7 := eUp_ne (by omega)
  have e75 : eUp (eUp g 5 (g 5 - 1)) 7 (g 7 + 1) 5 = g 5 - 1 := by rw [eUp_ne (by omega), eUp_at]
  generalize hgg : eUp (eUp g 5 (g 5 - 1)) 7 (g 7 + 1) = g2 at hg2 e75
  generalize haa : up (up a 5 (a 5 - 1)) 7 (a 7 + 1) = a2 at hg2 hb2
  have hl : ∀ j : Nat, j ≤ a 3 → ∀ (gj : Nat → Int) (u z : Int), u = ((a 5 - 1 : Nat) : Int) → rg gj (rsR a2 (a 5 - 1) j) → z = (j : Int) → ∃ g' mk' fr' : Nat → Int, rg g' (tbA a) ∧ ev m_M_takesBack 21 [some (eR 1), some (eR 0), some (eI u), some (eI z)] [] ([eA 0 964 gj, mO P, eA 0 144 mk, eA 0 24 fr], c) = some (.inl (some (eI ((tbA a 4 : Nat) : Int))), ([eA 0 964 g', mO P, eA 0 144 mk', eA 0 24 fr'], c)) := by
    refine loop_up ?_ ?_
    · intro gj u z hu hgj hz
      have j3 : gj 3 = (a 3 : Int) := by rw [hgj 3 (by omega), rsR_ne (by omega), hb2 3 (by omega) (by omega)]
      have jg : gj (340 + 2 * (a 5 - 1)) = (gs a (a 5 - 1) : Int) := by rw [hgj _ (by omega), rsR_ne (by omega), hb2 _ (by omega) (by omega)]; rfl
      have jw : gj (340 + 2 * (a 5 - 1) + 1) = (gw a (a 5 - 1) : Int) := by rw [hgj _ (by omega), rsR_ne (by omega), hb2 _ (by omega) (by omega)]; rfl
      have jb : gj (316 + gs a (a 5 - 1)) = (bf a (a 5 - 1) (gs a (a 5 - 1)) : Int) := by rw [hgj _ (by omega), rsR_at t1, hb2 _ (by omega) (by omega)]; rfl
      have hbm := (t4 _ t1).1
      have hp2 : 2 ^ gw a (a 5 - 1) < 2147483648 := Nat.pow_lt_pow_right (n := 31) (by decide) (by omega)
      have hr : rg (eUp gj (316 + gs a (a 5 - 1)) ((nDiff (bf a (a 5 - 1) (gs a (a 5 - 1))) (2 ^ gw a (a 5 - 1)) : Nat) : Int)) (ppA a) := by
        unfold ppA
        rw [haa]
        exact up_rgi hgj rfl
      obtain ⟨g', mk', fr', q1, q2⟩ := n_narrow (P := P) (mk := mk) (fr := fr) (c := c) hr p1 p2 p3
      have q4 : g' 4 = ((tbA a 4 : Nat) : Int) := q1 4 (by omega)
      refine ⟨g', mk', fr', q1, ?_⟩
      refine xLd (N := 4) (n := 964) (i := 3) (F := fun zq => ev m_M_takesBack 25 [some (eR 1), some (eR 0), some (eI u), some (eI z)] [eI (gj zq), eI z] ([eA 0 964 gj, mO P, eA 0 144 mk, eA 0 24 fr], c)) (k := 3) rfl (show wr 3 = ((3 : Nat) : Int) by decide) (by omega) ?_
      refine xLtF (N := 1) (x := z) (y := gj 3) (A := ev m_M_takesBack 28 [some (eR 1), some (eR 0), some (eI u), some (eI z)] [] ([eA 0 964 gj, mO P, eA 0 144 mk, eA 0 24 fr], c)) (B := ev m_M_takesBack 53 [some (eR 1), some (eR 0), some (eI u), some (eI z)] [] ([eA 0 964 gj, mO P, eA 0 144 mk, eA 0 24 fr], c)) rfl (wr_id (by omega) (by omega)) (wr_id (by omega) (by omega)) (by omega) ?_
      refine xLd (N := 9) (n := 964) (i := 340 + (2 * u)) (F := fun zq => ev m_M_takesBack 66 [some (eR 1), some (eR 0), some (eI u), some (eI z)] [eI (gj zq), eI 316, eR 0] ([eA 0 964 gj, mO P, eA 0 144 mk, eA 0 24 fr], c)) (k := 340 + (2 * (a 5 - 1))) rfl (wr_nat (by omega) (by omega)) (by omega) ?_
      refine xLd (N := 3) (n := 964) (i := 316 + (gj (340 + (2 * (a 5 - 1))))) (F := fun zq => ev m_M_takesBack 69 [some (eR 1), some (eR 0), some (eI u), some (eI z)] [eI (gj zq), eI (316 + (gj (340 + (2 * (a 5 - 1))))), eR 0] ([eA 0 964 gj, mO P, eA 0 144 mk, eA 0 24 fr], c)) (k := 316 + (gs a (a 5 - 1))) rfl (wr_nat (by omega) (by omega)) (by omega) ?_
      refine xLd (N := 10) (n := 964) (i := (340 + (2 * u)) + 1) (F := fun zq => ev m_M_takesBack 81 [some (eR 1), some (eR 0), some (eI u), some (eI z)] [eI (gj zq), eI 1, eI (gj (316 + (gs a (a 5 - 1)))), eI (316 + (gj (340 + (2 * (a 5 - 1))))), eR 0] ([eA 0 964 gj, mO P, eA 0 144 mk, eA 0 24 fr], c)) (k := (340 + (2 * (a 5 - 1))) + 1) rfl (wr_nat (by omega) (by omega)) (by omega) ?_
      refine xTop (N := 4) (pc2 := 85) (ls2 := [some (eR 1), some (eR 0), some (eI u), some (eI z)]) (a := bAnd (gj (316 + (gs a (a 5 - 1)))) (bXor (bShl 1 (gj ((340 + (2 * (a 5 - 1))) + 1))) (-1))) (b := ((nDiff (bf a (a 5 - 1) (gs a (a 5 - 1))) (2 ^ gw a (a 5 - 1)) : Nat) : Int)) (st2 := [eI (316 + (gj (340 + (2 * (a 5 - 1))))), eR 0]) (w2 := ([eA 0 964 gj, mO P, eA 0 144 mk, eA 0 24 fr], c)) rfl (by rw [jb, jw, bShl1_n _ (by omega), bNot_n hp2 _ (by omega)]) (fun v hv => ?_)
      refine xLd (N := 1) (n := 964) (i := 316 + (gj (340 + (2 * (a 5 - 1))))) (F := fun zq => ev m_M_takesBack 86 [some (eR 1), some (eR 0), some (eI u), some (eI z)] [] ([eA 0 964 (eUp gj zq v), mO P, eA 0 144 mk, eA 0 24 fr], c)) (k := 316 + (gs a (a 5 - 1))) rfl (wr_nat (by omega) (by omega)) (by omega) ?_
      rw [hv]
      refine xCallWV (N := 3) (M2 := m_M_takesBack) (pc2 := 88) (ls2 := [some (eR 1), some (eR 0), some (eI u), some (eI z)]) (st2 := []) (y := m_M_narrow) (as := [some (eR 1), some (eR 0)]) (w2 := ([eA 0 964 (eUp gj (316 + gs a (a 5 - 1)) ((nDiff (bf a (a 5 - 1) (gs a (a 5 - 1))) (2 ^ gw a (a 5 - 1)) : Nat) : Int)), mO P, eA 0 144 mk, eA 0 24 fr], c)) rfl q2 ?_
      refine xLd (N := 3) (n := 964) (i := 4) (F := fun zq => ev m_M_takesBack 94 [some (eR 1), some (eR 0), some (eI u), some (eI z)] [eI (g' zq)] ([eA 0 964 g', mO P, eA 0 144 mk', eA 0 24 fr'], c)) (k := 4) rfl (show wr 4 = ((4 : Nat) : Int) by decide) (by omega) ?_
      refine xSeg (N := 1) (r := some (.inl (some (eI (g' 4))), ([eA 0 964 g', mO P, eA 0 144 mk', eA 0 24 fr'], c))) rfl ?_
      rw [q4]
    · intro j hj ih gj u z hu hgj hz
      have j3 : gj 3 = (a 3 : Int) := by rw [hgj 3 (by omega), rsR_ne (by omega), hb2 3 (by omega) (by omega)]
      have jo : gj (388 + 24 * (a 5 - 1) + j) = (a2 (388 + 24 * (a 5 - 1) + j) : Int) := by rw [hgj _ (by omega), rsR_ne (by omega)]
      have hnx : rg (eUp gj (316 + j) (gj (388 + 24 * (a 5 - 1) + j))) (rsR a2 (a 5 - 1) (j + 1)) := by
        rw [← rsR_step (by omega)]
        exact up_rgi hgj jo
      obtain ⟨g', mk', fr', q1, q2⟩ := ih _ u (z + 1) hu hnx (by omega)
      refine ⟨g', mk', fr', q1, ?_⟩
      refine xLd (N := 4) (n := 964) (i := 3) (F := fun zq => ev m_M_takesBack 25 [some (eR 1), some (eR 0), some (eI u), some (eI z)] [eI (gj zq), eI z] ([eA 0 964 gj, mO P, eA 0 144 mk, eA 0 24 fr], c)) (k := 3) rfl (show wr 3 = ((3 : Nat) : Int) by decide) (by omega) ?_
      refine xLtT (N := 1) (x := z) (y := gj 3) (A := ev m_M_takesBack 28 [some (eR 1), some (eR 0), some (eI u), some (eI z)] [] ([eA 0 964 gj, mO P, eA 0 144 mk, eA 0 24 fr], c)) (B := ev m_M_takesBack 53 [some (eR 1), some (eR 0), some (eI u), some (eI z)] [] ([eA 0 964 gj, mO P, eA 0 144 mk, eA 0 24 fr], c)) rfl (wr_id (by omega) (by omega)) (wr_id (by omega) (by omega)) (by omega) ?_
      refine xLd (N := 13) (n := 964) (i := (388 + (24 * u)) + z) (F := fun zq => ev m_M_takesBack 46 [some (eR 1), some (eR 0), some (eI u), some (eI z)] [eI (gj zq), eI (316 + z), eR 0] ([eA 0 964 gj, mO P, eA 0 144 mk, eA 0 24 fr], c)) (k := (388 + (24 * (a 5 - 1))) + j) rfl (wr_nat (by omega) (by omega)) (by omega) ?_
      refine xLd (N := 1) (n := 964) (i := 316 + z) (F := fun zq => ev m_M_takesBack 47 [some (eR 1), some (eR 0), some (eI u), some (eI z)] [] ([eA 0 964 (eUp gj zq (gj ((388 + (24 * (a 5 - 1))) + j))), mO P, eA 0 144 mk, eA 0 24 fr], c)) (k := 316 + j) rfl (wr_nat (by omega) (by omega)) (by omega) ?_
      refine xSeg (N := 2) (r := ev m_M_takesBack 21 [some (eR 1), some (eR 0), some (eI u), some (eI (z + 1))] [] ([eA 0 964 (eUp gj (316 + j) (gj ((388 + (24 * (a 5 - 1))) + j))), mO P, eA 0 144 mk, eA 0 24 fr], c)) rfl ?_
      exact q2
  obtain ⟨g', mk', fr', q1, q2⟩ := hl 0 (Nat.zero_le _) g2 (g2 5) 0 (by rw [e75]; omega) (by rw [rsR_0]; exact hg2) rfl
  refine ⟨g', mk', fr', q1, ?_⟩
  refine xLd (N := 4) (n := 964) (i := 5) (F := fun zq => ev m_M_takesBack 4 [some (eR 1), some (eR 0)] [eI (g zq), eI 5, eR 0] ([eA 0 964 g, mO P, eA 0 144 mk, eA 0 24 fr], c)) (k := 5) rfl (show wr 5 = ((5 : Nat) : Int) by decide) (by omega) ?_
  refine xLd (N := 3) (n := 964) (i := 5) (F := fun zq => ev m_M_takesBack 7 [some (eR 1), some (eR 0)] [] ([eA 0 964 (eUp g zq ((g 5) - 1)), mO P, eA 0 144 mk, eA 0 24 fr], c)) (k := 5) rfl (show wr 5 = ((5 : Nat) : Int) by decide) (by omega) ?_
  refine xLd (N := 4) (n := 964) (i := 7) (F := fun zq => ev m_M_takesBack 12 [some (eR 1), some (eR 0)] [eI ((eUp g 5 ((g 5) - 1)) zq), eI 7, eR 0] ([eA 0 964 (eUp g 5 ((g 5) - 1)), mO P, eA 0 144 mk, eA 0 24 fr], c)) (k := 7) rfl (show wr 7 = ((7 : Nat) : Int) by decide) (by omega) ?_
  refine xLd (N := 3) (n := 964) (i := 7) (F := fun zq => ev m_M_takesBack 15 [some (eR 1), some (eR 0)] [] ([eA 0 964 (eUp (eUp g 5 ((g 5) - 1)) zq (((eUp g 5 ((g 5) - 1)) 7) + 1)), mO P, eA 0 144 mk, eA 0 24 fr], c)) (k := 7) rfl (show wr 7 = ((7 : Nat) : Int) by decide) (by omega) ?_
  refine xLd (N := 3) (n := 964) (i := 5) (F := fun zq => ev m_M_takesBack 18 [some (eR 1), some (eR 0)] [eI ((eUp (eUp g 5 ((g 5) - 1)) 7 (((eUp g 5 ((g 5) - 1)) 7) + 1)) zq)] ([eA 0 964 (eUp (eUp g 5 ((g 5) - 1)) 7 (((eUp g 5 ((g 5) - 1)) 7) + 1)), mO P, eA 0 144 mk, eA 0 24 fr], c)) (k := 5) rfl (show wr 5 = ((5 : Nat) : Int) by decide) (by omega) ?_
  refine xSeg (N := 3) (r := ev m_M_takesBack 21 [some (eR 1), some (eR 0), some (eI ((eUp (eUp g 5 ((g 5) - 1)) 7 (((eUp g 5 ((g 5) - 1)) 7) + 1)) 5)), some (eI 0)] [] ([eA 0 964 (eUp (eUp g 5 ((g 5) - 1)) 7 (((eUp g 5 ((g 5) - 1)) 7) + 1)), mO P, eA 0 144 mk, eA 0 24 fr], c)) rfl ?_
  rw [e57, hgg]
  exact q2
