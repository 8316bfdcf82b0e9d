/-! The shares. -/
theorem avF_ok : ∀ n, n < 25 → n ≠ 0 → ∀ s, s < 30 * n + 1 → avF s n &&& 0x7fffffffffffffff ≤ 0x7ff0000000000000 := by decide +kernel
def avV (a : eRow) : UInt64 := if a 3 = 0 then FP.dconst0 else avF (fb_sm (fun k => pc 30 (op a k)) (a 3)) (a 3)
def shO (a : eRow) : Nat := sumG (a 0) (fun x y => if a (16 + (y * 6 + x)) = 0 then 1 else 0) (a 1)
def shS (a : eRow) : Nat := sumG (a 0) (fun x y => if suA a (y * 6 + x) ≠ 0 then 1 else 0) (a 1)
def shV (a : eRow) : UInt32 := if shO a = 0 then FP.fconst0 else shF (shS a) (shO a)
theorem sumG_le {W H : Nat} {f : Nat → Nat → Nat} (hW : W ≤ 6) (hH : H ≤ 6) (hf : ∀ x y, f x y ≤ 1) : sumG W f H ≤ 36 := by
  have h1 : sumG W f H ≤ H * W := fb_sm_bound (fun y _ => by
    have := fb_sm_bound (f := fun x => f x y) (c := 1) (n := W) (fun x _ => hf x y)
    omega)
  have h2 : H * W ≤ 6 * 6 := Nat.mul_le_mul hH hW
  omega
theorem av_le {a : eRow} : fb_sm (fun k => pc 30 (op a k)) (a 3) < 30 * a 3 + 1 := by
  have h := fb_sm_bound (f := fun k => pc 30 (op a k)) (c := 30) (n := a 3) (fun k _ => pc_le 30 _)
  omega
theorem sh_le {a : eRow} (hG : iG a) : shO a < 37 ∧ shS a < 37 := by
  have b := hG.1
  have h1 : shO a ≤ 36 := sumG_le (by omega) (by omega) (fun x y => by split <;> omega)
  have h2 : shS a ≤ 36 := sumG_le (by omega) (by omega) (fun x y => by split <;> omega)
  omega
set_option maxRecDepth 100000
theorem s_averageCandidates {P ot : Nat → Int} {S : wS} {a : eRow} {c : Nat × Nat} (hA : wA S a) (hI : iA a) : ev m_S_averageCandidates 0 [some (eR 0)] [] ([xO P, eA 3 1 ot] ++ wCb 2 S, c) = some (.inl (some (eDb (avV a))), ([xO P, eA 3 1 ot] ++ wCb 2 S, c)) := by
  obtain ⟨hw, hv, hp, hm⟩ := hA
  obtain ⟨hG, hV, hO, hT, hM⟩ := hI
  have g0 := hw.1.1.1
  have g1 := hw.1.1.2.1
  have g4 := hw.1.1.2.2
  have v2 := hv.1
  have d5 := hp.1.1
  have bG := hG.1
  have bV := hV.1
  have b5 := iT_24 bG.2.2.2.2 hT
  have hb := c_countCandidates (c := (0, 0)) (o := op a) g4 (by omega) (fun k hk => ⟨hp.2.1 k hk, (hO k hk).1⟩)
  have hle := av_le (a := a)
  unfold avV
  by_cases h3 : a 3 = 0
  · rw [if_pos h3]
    refine xEqT (N := 7) (x := S 1 4) (y := 0) (A := ev m_S_averageCandidates 15 [some (eR 0), some (eI (S 1 4))] [] (([xO P, eA 3 1 ot]) ++ wCb 2 S, c)) (B := ev m_S_averageCandidates 19 [some (eR 0), some (eI (S 1 4))] [] (([xO P, eA 3 1 ot]) ++ wCb 2 S, c)) rfl (wr_id (by omega) (by omega)) (show wr 0 = 0 by decide) (by omega) ?_
    refine xSeg (N := 3) (r := some (.inl (some (eDb FP.dconst0)), (([xO P, eA 3 1 ot]) ++ wCb 2 S, c))) rfl ?_
    rfl
  · rw [if_neg h3]
    have hok := avF_ok (a 3) (by omega) h3 _ hle
    generalize fb_sm (fun k => pc 30 (op a k)) (a 3) = s at *
    obtain ⟨zs, hzs⟩ : ∃ zs : Int, zs = (s : Int) := ⟨_, rfl⟩
    rw [← hzs] at hb
    have e : avF s (a 3) = FP.ddiv (bI2d zs) (bI2d (S 1 4)) := by rw [hzs, g4]; rfl
    rw [e] at hok ⊢
    refine xEqF (N := 7) (x := S 1 4) (y := 0) (A := ev m_S_averageCandidates 15 [some (eR 0), some (eI (S 1 4))] [] (([xO P, eA 3 1 ot]) ++ wCb 2 S, c)) (B := ev m_S_averageCandidates 19 [some (eR 0), some (eI (S 1 4))] [] (([xO P, eA 3 1 ot]) ++ wCb 2 S, c)) rfl (wr_id (by omega) (by omega)) (show wr 0 = 0 by decide) (by omega) ?_
    refine xCallW (N := 3) (M2 := m_S_averageCandidates) (pc2 := 23) (ls2 := [some (eR 0), some (eI (S 1 4))]) (st2 := []) (y := m_W_countCandidates) (as := [some (eR 2)]) (w2 := (([xO P, eA 3 1 ot]) ++ wCb 2 S, c)) rfl (yWin hb rfl rfl rfl) ?_
    refine xIf (N := 4) (C := FP.ddiv (bI2d zs) (bI2d (S 1 4)) &&& 0x7fffffffffffffff ≤ 0x7ff0000000000000) (A := ev m_S_averageCandidates 30 [some (eR 0), some (eI (S 1 4))] [eDb (FP.ddiv (bI2d zs) (bI2d (S 1 4)))] (([xO P, eA 3 1 ot]) ++ wCb 2 S, c)) rfl hok ?_
    refine xSeg (N := 1) (r := some (.inl (some (eDb (FP.ddiv (bI2d zs) (bI2d (S 1 4))))), (([xO P, eA 3 1 ot]) ++ wCb 2 S, c))) rfl ?_
    rfl
theorem s_sureShare {P ot : Nat → Int} {S : wS} {a : eRow} {c : Nat × Nat} (hA : wA S a) (hI : iA a) : ev m_S_sureShare 0 [some (eR 0)] [] ([xO P, eA 3 1 ot] ++ wCb 2 S, c) = some (.inl (some (eFl (shV a))), ([xO P, eA 3 1 ot] ++ wCb 2 S, c)) := by
  have hA9 := hA
  have hI9 := hI
  obtain ⟨hw, hv, hp, hm⟩ := hA
  obtain ⟨hG, hV, hO, hT, hM⟩ := hI
  have g0 := hw.1.1.1
  have g1 := hw.1.1.2.1
  have g4 := hw.1.1.2.2
  have v2 := hv.1
  have d5 := hp.1.1
  have bG := hG.1
  have bV := hV.1
  have b5 := iT_24 bG.2.2.2.2 hT
  have hb := c_countOpen (c := (0, 0)) (B := fun e => a (16 + e)) g0 g1 (by omega) (by omega) (fun k hk => ⟨(hw.1.2.1 k hk).1, (hG.2.1 k hk).1⟩)
  have hs := c_countSure (c := (0, 0)) (su := suA a) g0 g1 (by omega) (by omega) (fun e z hz he => ⟨c_sure hA9 hI9 hz he, by have := suA_lt hI9 he; omega⟩)
  obtain ⟨l1, l2⟩ := sh_le hG
  have hb : ev m_G_countOpen 0 [some (eR 1)] [] (wC S, (0, 0)) = some (.inl (some (eI ((shO a : Nat) : Int))), (wC S, (0, 0))) := hb
  have hs : ev m_W_countSure 0 [some (eR 0)] [] (wC S, (0, 0)) = some (.inl (some (eI ((shS a : Nat) : Int))), (wC S, (0, 0))) := hs
  unfold shV
  generalize shO a = o9 at *
  generalize shS a = s9 at *
  obtain ⟨zo, hzo⟩ : ∃ zo : Int, zo = (o9 : Int) := ⟨_, rfl⟩
  rw [← hzo] at hb
  obtain ⟨zs, hzs⟩ : ∃ zs : Int, zs = (s9 : Int) := ⟨_, rfl⟩
  rw [← hzs] at hs
  by_cases h3 : o9 = 0
  · rw [if_pos h3]
    refine xCallW (N := 4) (M2 := m_S_sureShare) (pc2 := 7) (ls2 := [some (eR 0)]) (st2 := []) (y := m_G_countOpen) (as := [some (eR 3)]) (w2 := (([xO P, eA 3 1 ot]) ++ wCb 2 S, c)) rfl (yWin hb rfl rfl rfl) ?_
    refine xEqT (N := 3) (x := zo) (y := 0) (A := ev m_S_sureShare 15 [some (eR 0), some (eI zo)] [] (([xO P, eA 3 1 ot]) ++ wCb 2 S, c)) (B := ev m_S_sureShare 19 [some (eR 0), some (eI zo)] [] (([xO P, eA 3 1 ot]) ++ wCb 2 S, c)) rfl (wr_id (by omega) (by omega)) (show wr 0 = 0 by decide) (by omega) ?_
    refine xSeg (N := 3) (r := some (.inl (some (eFl FP.fconst0)), (([xO P, eA 3 1 ot]) ++ wCb 2 S, c))) rfl ?_
    rfl
  · rw [if_neg h3]
    have hok := (shF_ok s9 l2 o9 l1 h3).1
    have e : shF s9 o9 = FP.fdiv (bI2f zs) (bI2f zo) := by rw [hzs, hzo]; rfl
    rw [e] at hok ⊢
    refine xCallW (N := 4) (M2 := m_S_sureShare) (pc2 := 7) (ls2 := [some (eR 0)]) (st2 := []) (y := m_G_countOpen) (as := [some (eR 3)]) (w2 := (([xO P, eA 3 1 ot]) ++ wCb 2 S, c)) rfl (yWin hb rfl rfl rfl) ?_
    refine xEqF (N := 3) (x := zo) (y := 0) (A := ev m_S_sureShare 15 [some (eR 0), some (eI zo)] [] (([xO P, eA 3 1 ot]) ++ wCb 2 S, c)) (B := ev m_S_sureShare 19 [some (eR 0), some (eI zo)] [] (([xO P, eA 3 1 ot]) ++ wCb 2 S, c)) rfl (wr_id (by omega) (by omega)) (show wr 0 = 0 by decide) (by omega) ?_
    refine xCallW (N := 3) (M2 := m_S_sureShare) (pc2 := 23) (ls2 := [some (eR 0), some (eI zo)]) (st2 := []) (y := m_W_countSure) (as := [some (eR 2)]) (w2 := (([xO P, eA 3 1 ot]) ++ wCb 2 S, c)) rfl (yWin hs rfl rfl rfl) ?_
    refine xIf (N := 4) (C := FP.fdiv (bI2f zs) (bI2f zo) &&& 0x7fffffff ≤ 0x7f800000) (A := ev m_S_sureShare 30 [some (eR 0), some (eI zo)] [eFl (FP.fdiv (bI2f zs) (bI2f zo))] (([xO P, eA 3 1 ot]) ++ wCb 2 S, c)) rfl hok ?_
    refine xSeg (N := 1) (r := some (.inl (some (eFl (FP.fdiv (bI2f zs) (bI2f zo)))), (([xO P, eA 3 1 ot]) ++ wCb 2 S, c))) rfl ?_
    rfl
theorem z_averageCandidates {g mk fr P : Nat → Int} {a : eRow} {c : Nat × Nat} (hg : rg g a) (hI : iA a) : ev m_M_averageCandidates 0 [some (eR 1)] [] ([eA 0 964 g, mZ P, eA 0 144 mk, eA 0 24 fr], c) = some (.inl (some (eDb (avV a))), ([eA 0 964 g, mZ (eUp P 10 0), eA 0 144 mk, eA 0 24 fr], c)) := by
  obtain ⟨hG, hV, hO, hT, hM⟩ := hI
  have bG := hG.1
  have bV := hV.1
  have b5 := iT_24 bG.2.2.2.2 hT
  have e0 := hg 0 (by omega)
  have e1 := hg 1 (by omega)
  have e2 := hg 2 (by omega)
  have e3 := hg 3 (by omega)
  have e4 := hg 4 (by omega)
  have e5 := hg 5 (by omega)
  have hb := n_left (c := (0, 0)) hg (by omega) (fun k hk => (hO k hk).1)
  have hle := av_le (a := a)
  unfold avV
  by_cases h3 : a 3 = 0
  · rw [if_pos h3]
    refine xLd (N := 7) (n := 964) (i := 3) (F := fun zq => ev m_M_averageCandidates 11 [some (eR 1)] [eI (g zq)] ([eA 0 964 g, mZ (eUp P 10 0), eA 0 144 mk, eA 0 24 fr], c)) (k := 3) rfl (show wr 3 = ((3 : Nat) : Int) by decide) (by omega) ?_
    refine xEqT (N := 1) (x := g 3) (y := 0) (A := ev m_M_averageCandidates 14 [some (eR 1)] [] ([eA 0 964 g, mZ (eUp P 10 0), eA 0 144 mk, eA 0 24 fr], c)) (B := ev m_M_averageCandidates 18 [some (eR 1)] [] ([eA 0 964 g, mZ (eUp P 10 0), eA 0 144 mk, eA 0 24 fr], c)) rfl (wr_id (by omega) (by omega)) (show wr 0 = 0 by decide) (by omega) ?_
    refine xSeg (N := 3) (r := some (.inl (some (eDb FP.dconst0)), ([eA 0 964 g, mZ (eUp P 10 0), eA 0 144 mk, eA 0 24 fr], c))) rfl ?_
    rfl
  · rw [if_neg h3]
    have hok := avF_ok (a 3) (by omega) h3 _ hle
    generalize fb_sm (fun k => pc 30 (op a k)) (a 3) = s at *
    obtain ⟨zs, hzs⟩ : ∃ zs : Int, zs = (s : Int) := ⟨_, rfl⟩
    rw [← hzs] at hb
    have e : avF s (a 3) = FP.ddiv (bI2d zs) (bI2d (g 3)) := by rw [hzs, e3]; rfl
    rw [e] at hok ⊢
    refine xLd (N := 7) (n := 964) (i := 3) (F := fun zq => ev m_M_averageCandidates 11 [some (eR 1)] [eI (g zq)] ([eA 0 964 g, mZ (eUp P 10 0), eA 0 144 mk, eA 0 24 fr], c)) (k := 3) rfl (show wr 3 = ((3 : Nat) : Int) by decide) (by omega) ?_
    refine xEqF (N := 1) (x := g 3) (y := 0) (A := ev m_M_averageCandidates 14 [some (eR 1)] [] ([eA 0 964 g, mZ (eUp P 10 0), eA 0 144 mk, eA 0 24 fr], c)) (B := ev m_M_averageCandidates 18 [some (eR 1)] [] ([eA 0 964 g, mZ (eUp P 10 0), eA 0 144 mk, eA 0 24 fr], c)) rfl (wr_id (by omega) (by omega)) (show wr 0 = 0 by decide) (by omega) ?_
    refine xCall (N := 3) (M2 := m_M_averageCandidates) (pc2 := 22) (ls2 := [some (eR 1)]) (st2 := []) (y := m_M_left) (as := [some (eR 0)]) (w2 := ([eA 0 964 g, mZ (eUp P 10 0), eA 0 144 mk, eA 0 24 fr], c)) rfl (rowRd hb rfl rfl) ?_
    refine xLd (N := 5) (n := 964) (i := 3) (F := fun zq => ev m_M_averageCandidates 32 [some (eR 1)] [eI (g zq), eDb (bI2d zs)] ([eA 0 964 g, mZ (eUp P 10 0), eA 0 144 mk, eA 0 24 fr], c)) (k := 3) rfl (show wr 3 = ((3 : Nat) : Int) by decide) (by omega) ?_
    refine xIf (N := 2) (C := FP.ddiv (bI2d zs) (bI2d (g 3)) &&& 0x7fffffffffffffff ≤ 0x7ff0000000000000) (A := ev m_M_averageCandidates 34 [some (eR 1)] [eDb (FP.ddiv (bI2d zs) (bI2d (g 3)))] ([eA 0 964 g, mZ (eUp P 10 0), eA 0 144 mk, eA 0 24 fr], c)) rfl hok ?_
    refine xSeg (N := 1) (r := some (.inl (some (eDb (FP.ddiv (bI2d zs) (bI2d (g 3))))), ([eA 0 964 g, mZ (eUp P 10 0), eA 0 144 mk, eA 0 24 fr], c))) rfl ?_
    rfl
theorem z_sureShare {g mk fr P : Nat → Int} {a : eRow} {c : Nat × Nat} (hg : rg g a) (hI : iA a) (hB : iB a) : ev m_M_sureShare 0 [some (eR 1)] [] ([eA 0 964 g, mZ P, eA 0 144 mk, eA 0 24 fr], c) = some (.inl (some (eFl (shV a))), ([eA 0 964 g, mZ (eUp P 10 0), eA 0 144 mk, eA 0 24 fr], c)) := by
  have hI9 := hI
  obtain ⟨hG, hV, hO, hT, hM⟩ := hI
  have bG := hG.1
  have bV := hV.1
  have b5 := iT_24 bG.2.2.2.2 hT
  have e0 := hg 0 (by omega)
  have e1 := hg 1 (by omega)
  have e2 := hg 2 (by omega)
  have e3 := hg 3 (by omega)
  have e4 := hg 4 (by omega)
  have e5 := hg 5 (by omega)
  obtain ⟨l1, l2⟩ := sh_le hG
  have hend : ∀ f l y : Int, f = ((shO a : Nat) : Int) → l = ((shS a : Nat) : Int) → ev m_M_sureShare 88 [some (eR 1), some (eI f), some (eI l), some (eI y)] [] ([eA 0 964 g, mZ (eUp P 10 0), eA 0 144 mk, eA 0 24 fr], c) = some (.inl (some (eFl (shV a))), ([eA 0 964 g, mZ (eUp P 10 0), eA 0 144 mk, eA 0 24 fr], c)) := fun f l y hf hl => by
    unfold shV
    generalize shO a = o9 at *
    generalize shS a = s9 at *
    by_cases h3 : o9 = 0
    · rw [if_pos h3]
      refine xEqT (N := 2) (x := f) (y := 0) (A := ev m_M_sureShare 92 [some (eR 1), some (eI f), some (eI l), some (eI y)] [] ([eA 0 964 g, mZ (eUp P 10 0), eA 0 144 mk, eA 0 24 fr], c)) (B := ev m_M_sureShare 96 [some (eR 1), some (eI f), some (eI l), some (eI y)] [] ([eA 0 964 g, mZ (eUp P 10 0), eA 0 144 mk, eA 0 24 fr], c)) rfl (wr_id (by omega) (by omega)) (show wr 0 = 0 by decide) (by omega) ?_
      refine xSeg (N := 3) (r := some (.inl (some (eFl FP.fconst0)), ([eA 0 964 g, mZ (eUp P 10 0), eA 0 144 mk, eA 0 24 fr], c))) rfl ?_
      rfl
    · rw [if_neg h3]
      have hok := (shF_ok s9 l2 o9 l1 h3).1
      have e : shF s9 o9 = FP.fdiv (bI2f l) (bI2f f) := by rw [hf, hl]; rfl
      rw [e] at hok ⊢
      refine xEqF (N := 2) (x := f) (y := 0) (A := ev m_M_sureShare 92 [some (eR 1), some (eI f), some (eI l), some (eI y)] [] ([eA 0 964 g, mZ (eUp P 10 0), eA 0 144 mk, eA 0 24 fr], c)) (B := ev m_M_sureShare 96 [some (eR 1), some (eI f), some (eI l), some (eI y)] [] ([eA 0 964 g, mZ (eUp P 10 0), eA 0 144 mk, eA 0 24 fr], c)) rfl (wr_id (by omega) (by omega)) (show wr 0 = 0 by decide) (by omega) ?_
      refine xIf (N := 5) (C := FP.fdiv (bI2f l) (bI2f f) &&& 0x7fffffff ≤ 0x7f800000) (A := ev m_M_sureShare 101 [some (eR 1), some (eI f), some (eI l), some (eI y)] [eFl (FP.fdiv (bI2f l) (bI2f f))] ([eA 0 964 g, mZ (eUp P 10 0), eA 0 144 mk, eA 0 24 fr], c)) rfl hok ?_
      refine xSeg (N := 1) (r := some (.inl (some (eFl (FP.fdiv (bI2f l) (bI2f f)))), ([eA 0 964 g, mZ (eUp P 10 0), eA 0 144 mk, eA 0 24 fr], c))) rfl ?_
      rfl
  have hl : ∀ p : Nat, p ≤ a 1 → ∀ f l y : Int, f = ((fb_sm (fun y => fb_sm (fun x => if a (16 + (y * 6 + x)) = 0 then 1 else 0) (a 0)) p : Nat) : Int) → l = ((fb_sm (fun y => fb_sm (fun x => if suA a (y * 6 + x) ≠ 0 then 1 else 0) (a 0)) p : Nat) : Int) → y = (p : Int) → ev m_M_sureShare 11 [some (eR 1), some (eI f), some (eI l), some (eI y)] [] ([eA 0 964 g, mZ (eUp P 10 0), eA 0 144 mk, eA 0 24 fr], c) = some (.inl (some (eFl (shV a))), ([eA 0 964 g, mZ (eUp P 10 0), eA 0 144 mk, eA 0 24 fr], c)) := by
    refine loop_up ?_ ?_
    · intro f l y hf hl hy
      refine xLd (N := 5) (n := 964) (i := 1) (F := fun zq => ev m_M_sureShare 18 [some (eR 1), some (eI f), some (eI l), some (eI y)] [eI (g zq), eI y] ([eA 0 964 g, mZ (eUp P 10 0), eA 0 144 mk, eA 0 24 fr], c)) (k := 1) rfl (show wr 1 = ((1 : Nat) : Int) by decide) (by omega) ?_
      refine xLtF (N := 1) (x := y) (y := g 1) (A := ev m_M_sureShare 21 [some (eR 1), some (eI f), some (eI l), some (eI y)] [] ([eA 0 964 g, mZ (eUp P 10 0), eA 0 144 mk, eA 0 24 fr], c)) (B := ev m_M_sureShare 88 [some (eR 1), some (eI f), some (eI l), some (eI y)] [] ([eA 0 964 g, mZ (eUp P 10 0), eA 0 144 mk, eA 0 24 fr], c)) rfl (wr_id (by omega) (by omega)) (wr_id (by omega) (by omega)) (by omega) ?_
      exact hend f l y hf hl
    · intro p hp ih f l y hf hl hy
      have hs2 := fb_sm_succ (fun y => fb_sm (fun x => if a (16 + (y * 6 + x)) = 0 then 1 else 0) (a 0)) p
      have hs3 := fb_sm_succ (fun y => fb_sm (fun x => if suA a (y * 6 + x) ≠ 0 then 1 else 0) (a 0)) p
      have hj : ∀ q : Nat, q ≤ a 0 → ∀ f2 l2 x : Int, f2 = f + ((fb_sm (fun x => if a (16 + (p * 6 + x)) = 0 then 1 else 0) q : Nat) : Int) → l2 = l + ((fb_sm (fun x => if suA a (p * 6 + x) ≠ 0 then 1 else 0) q : Nat) : Int) → x = ((q : Nat) : Int) → ev m_M_sureShare 24 [some (eR 1), some (eI f2), some (eI l2), some (eI y), some (eI x)] [] ([eA 0 964 g, mZ (eUp P 10 0), eA 0 144 mk, eA 0 24 fr], c) = some (.inl (some (eFl (shV a))), ([eA 0 964 g, mZ (eUp P 10 0), eA 0 144 mk, eA 0 24 fr], c)) := by
        refine loop_up ?_ ?_
        · intro f2 l2 x hf2 hl2 hx
          refine xLd (N := 5) (n := 964) (i := 0) (F := fun zq => ev m_M_sureShare 32 [some (eR 1), some (eI f2), some (eI l2), some (eI y), some (eI x)] [eI (g zq), eI x] ([eA 0 964 g, mZ (eUp P 10 0), eA 0 144 mk, eA 0 24 fr], c)) (k := 0) rfl (show wr 0 = ((0 : Nat) : Int) by decide) (by omega) ?_
          refine xLtF (N := 1) (x := x) (y := g 0) (A := ev m_M_sureShare 35 [some (eR 1), some (eI f2), some (eI l2), some (eI y), some (eI x)] [] ([eA 0 964 g, mZ (eUp P 10 0), eA 0 144 mk, eA 0 24 fr], c)) (B := ev m_M_sureShare 82 [some (eR 1), some (eI f2), some (eI l2), some (eI y), some (eI x)] [] ([eA 0 964 g, mZ (eUp P 10 0), eA 0 144 mk, eA 0 24 fr], c)) rfl (wr_id (by omega) (by omega)) (wr_id (by omega) (by omega)) (by omega) ?_
          refine xSeg (N := 2) (r := ev m_M_sureShare 11 [some (eR 1), some (eI f2), some (eI l2), some (eI (y + 1)), some (eI x)] [] ([eA 0 964 g, mZ (eUp P 10 0), eA 0 144 mk, eA 0 24 fr], c)) rfl ?_
          refine xTk 4 (by rfl) rfl ?_
          exact ih _ _ _ (by omega) (by omega) (by omega)
        · intro q hq ihj f2 l2 x hf2 hl2 hx
          have ho9 := fb_sm_succ (fun x => if a (16 + (p * 6 + x)) = 0 then 1 else 0) q
          have hs9 := fb_sm_succ (fun x => if suA a (p * 6 + x) ≠ 0 then 1 else 0) q
          have he : p * 6 + q = 6 * p + q := by omega
          have hif := n_isFree (c := (0, 0)) hg (by omega) (by omega) (fun e he => (hG.2.1 e he).1) (x := x) (y := y) (by omega) (by omega)
          have hop : opn (a 0) (a 1) (bl a) x y = decide (a (16 + (p * 6 + q)) = 0) := by
            unfold opn bl
            rw [inG_T (by omega), Bool.true_and, show (y * 6 + x).toNat = p * 6 + q by omega]
          rw [hop] at hif
          have hsu := fun (z : Int) (hz : z = ((p * 6 + q : Nat) : Int)) => z_sure (mk := mk) (fr := fr) (P := eUp P 10 0) (c := c) hg hI9 hz (by omega)
          have hsb := su_b hB (e := p * 6 + q) (by omega)
          have hsl := suA_lt hI9 (e := p * 6 + q) (by omega)
          obtain ⟨sv, hsv⟩ : ∃ sv : Nat, sv = suA a (p * 6 + q) := ⟨_, rfl⟩
          rw [← hsv] at hsu hsb hsl hs9
          obtain ⟨bv, hbv⟩ : ∃ bv : Nat, bv = a (16 + (p * 6 + q)) := ⟨_, rfl⟩
          rw [← hbv] at hif hsb ho9
          obtain ⟨zs, hzs⟩ : ∃ zs : Int, zs = (sv : Int) := ⟨_, rfl⟩
          rw [← hzs] at hsu
          by_cases hbq : bv = 0
          · rw [decide_eq_true hbq] at hif
            rw [if_pos hbq] at ho9
            refine xLd (N := 5) (n := 964) (i := 0) (F := fun zq => ev m_M_sureShare 32 [some (eR 1), some (eI f2), some (eI l2), some (eI y), some (eI x)] [eI (g zq), eI x] ([eA 0 964 g, mZ (eUp P 10 0), eA 0 144 mk, eA 0 24 fr], c)) (k := 0) rfl (show wr 0 = ((0 : Nat) : Int) by decide) (by omega) ?_
            refine xLtT (N := 1) (x := x) (y := g 0) (A := ev m_M_sureShare 35 [some (eR 1), some (eI f2), some (eI l2), some (eI y), some (eI x)] [] ([eA 0 964 g, mZ (eUp P 10 0), eA 0 144 mk, eA 0 24 fr], c)) (B := ev m_M_sureShare 82 [some (eR 1), some (eI f2), some (eI l2), some (eI y), some (eI x)] [] ([eA 0 964 g, mZ (eUp P 10 0), eA 0 144 mk, eA 0 24 fr], c)) rfl (wr_id (by omega) (by omega)) (wr_id (by omega) (by omega)) (by omega) ?_
            refine xCall (N := 5) (M2 := m_M_sureShare) (pc2 := 42) (ls2 := [some (eR 1), some (eI f2), some (eI l2), some (eI y), some (eI x)]) (st2 := []) (y := m_M_isFree) (as := [some (eR 0), some (eI x), some (eI y)]) (w2 := ([eA 0 964 g, mZ (eUp P 10 0), eA 0 144 mk, eA 0 24 fr], c)) rfl (rowRd hif rfl rfl) ?_
            refine xEqF (N := 1) (x := 1) (y := 0) (A := ev m_M_sureShare 76 [some (eR 1), some (eI f2), some (eI l2), some (eI y), some (eI x)] [] ([eA 0 964 g, mZ (eUp P 10 0), eA 0 144 mk, eA 0 24 fr], c)) (B := ev m_M_sureShare 48 [some (eR 1), some (eI f2), some (eI l2), some (eI y), some (eI x)] [] ([eA 0 964 g, mZ (eUp P 10 0), eA 0 144 mk, eA 0 24 fr], c)) rfl (show wr 1 = 1 by decide) (show wr 0 = 0 by decide) (by decide) ?_
            refine xCallI (N := 8) (v := 6 * y + x) (M2 := m_M_sureShare) (pc2 := 60) (ls2 := [some (eR 1), some (eI (f2 + 1)), some (eI l2), some (eI y), some (eI x)]) (st2 := [eR 1, eI l2]) (y := m_M_cellOf) (as := [some (eR 0), some (eI x), some (eI y)]) (w2 := ([eA 0 964 g, mZ (eUp P 10 0), eA 0 144 mk, eA 0 24 fr], c)) rfl n_cellOf (fun r60 hr60 => ?_)
            refine xCallW (N := 1) (M2 := m_M_sureShare) (pc2 := 63) (ls2 := [some (eR 1), some (eI (f2 + 1)), some (eI l2), some (eI y), some (eI x)]) (st2 := [eI l2]) (y := m_M_sure) (as := [some (eR 1), some (eI r60)]) (w2 := ([eA 0 964 g, mZ (eUp P 10 0), eA 0 144 mk, eA 0 24 fr], c)) rfl (hsu _ (by omega)) ?_
            refine xEq (N := 1) (x := zs) (y := 0) (A := ev m_M_sureShare 69 [some (eR 1), some (eI (f2 + 1)), some (eI l2), some (eI y), some (eI x)] [eI l2] ([eA 0 964 g, mZ (eUp P 10 0), eA 0 144 mk, eA 0 24 fr], c)) (B := ev m_M_sureShare 73 [some (eR 1), some (eI (f2 + 1)), some (eI l2), some (eI y), some (eI x)] [eI l2] ([eA 0 964 g, mZ (eUp P 10 0), eA 0 144 mk, eA 0 24 fr], c)) rfl (wr_id (by omega) (by omega)) (show wr 0 = 0 by decide) (fun h66 => ?_) (fun h66 => ?_)
            · refine xSeg (N := 6) (r := ev m_M_sureShare 24 [some (eR 1), some (eI (f2 + 1)), some (eI (l2 + 0)), some (eI y), some (eI (x + 1))] [] ([eA 0 964 g, mZ (eUp P 10 0), eA 0 144 mk, eA 0 24 fr], c)) rfl ?_
              rw [if_neg (by omega)] at hs9
              exact ihj _ _ _ (by omega) (by omega) (by omega)
            · refine xSeg (N := 5) (r := ev m_M_sureShare 24 [some (eR 1), some (eI (f2 + 1)), some (eI (l2 + 1)), some (eI y), some (eI (x + 1))] [] ([eA 0 964 g, mZ (eUp P 10 0), eA 0 144 mk, eA 0 24 fr], c)) rfl ?_
              rw [if_pos (by omega)] at hs9
              exact ihj _ _ _ (by omega) (by omega) (by omega)
          · rw [decide_eq_false hbq] at hif
            rw [if_neg hbq] at ho9
            have hsv0 := hsb hbq
            rw [if_neg (by omega)] at hs9
            refine xLd (N := 5) (n := 964) (i := 0) (F := fun zq => ev m_M_sureShare 32 [some (eR 1), some (eI f2), some (eI l2), some (eI y), some (eI x)] [eI (g zq), eI x] ([eA 0 964 g, mZ (eUp P 10 0), eA 0 144 mk, eA 0 24 fr], c)) (k := 0) rfl (show wr 0 = ((0 : Nat) : Int) by decide) (by omega) ?_
            refine xLtT (N := 1) (x := x) (y := g 0) (A := ev m_M_sureShare 35 [some (eR 1), some (eI f2), some (eI l2), some (eI y), some (eI x)] [] ([eA 0 964 g, mZ (eUp P 10 0), eA 0 144 mk, eA 0 24 fr], c)) (B := ev m_M_sureShare 82 [some (eR 1), some (eI f2), some (eI l2), some (eI y), some (eI x)] [] ([eA 0 964 g, mZ (eUp P 10 0), eA 0 144 mk, eA 0 24 fr], c)) rfl (wr_id (by omega) (by omega)) (wr_id (by omega) (by omega)) (by omega) ?_
            refine xCall (N := 5) (M2 := m_M_sureShare) (pc2 := 42) (ls2 := [some (eR 1), some (eI f2), some (eI l2), some (eI y), some (eI x)]) (st2 := []) (y := m_M_isFree) (as := [some (eR 0), some (eI x), some (eI y)]) (w2 := ([eA 0 964 g, mZ (eUp P 10 0), eA 0 144 mk, eA 0 24 fr], c)) rfl (rowRd hif rfl rfl) ?_
            refine xEqT (N := 1) (x := 0) (y := 0) (A := ev m_M_sureShare 76 [some (eR 1), some (eI f2), some (eI l2), some (eI y), some (eI x)] [] ([eA 0 964 g, mZ (eUp P 10 0), eA 0 144 mk, eA 0 24 fr], c)) (B := ev m_M_sureShare 48 [some (eR 1), some (eI f2), some (eI l2), some (eI y), some (eI x)] [] ([eA 0 964 g, mZ (eUp P 10 0), eA 0 144 mk, eA 0 24 fr], c)) rfl (show wr 0 = 0 by decide) (show wr 0 = 0 by decide) (by decide) ?_
            refine xSeg (N := 2) (r := ev m_M_sureShare 24 [some (eR 1), some (eI f2), some (eI l2), some (eI y), some (eI (x + 1))] [] ([eA 0 964 g, mZ (eUp P 10 0), eA 0 144 mk, eA 0 24 fr], c)) rfl ?_
            exact ihj _ _ _ (by omega) (by omega) (by omega)
      refine xLd (N := 5) (n := 964) (i := 1) (F := fun zq => ev m_M_sureShare 18 [some (eR 1), some (eI f), some (eI l), some (eI y)] [eI (g zq), eI y] ([eA 0 964 g, mZ (eUp P 10 0), eA 0 144 mk, eA 0 24 fr], c)) (k := 1) rfl (show wr 1 = ((1 : Nat) : Int) by decide) (by omega) ?_
      refine xLtT (N := 1) (x := y) (y := g 1) (A := ev m_M_sureShare 21 [some (eR 1), some (eI f), some (eI l), some (eI y)] [] ([eA 0 964 g, mZ (eUp P 10 0), eA 0 144 mk, eA 0 24 fr], c)) (B := ev m_M_sureShare 88 [some (eR 1), some (eI f), some (eI l), some (eI y)] [] ([eA 0 964 g, mZ (eUp P 10 0), eA 0 144 mk, eA 0 24 fr], c)) rfl (wr_id (by omega) (by omega)) (wr_id (by omega) (by omega)) (by omega) ?_
      refine xSeg (N := 2) (r := ev m_M_sureShare 24 [some (eR 1), some (eI f), some (eI l), some (eI y), some (eI 0)] [] ([eA 0 964 g, mZ (eUp P 10 0), eA 0 144 mk, eA 0 24 fr], c)) rfl ?_
      exact hj 0 (Nat.zero_le _) _ _ _ (by show f = f + ((0 : Nat) : Int); omega) (by show l = l + ((0 : Nat) : Int); omega) rfl
  refine xSeg (N := 9) (r := ev m_M_sureShare 11 [some (eR 1), some (eI 0), some (eI 0), some (eI 0)] [] ([eA 0 964 g, mZ (eUp P 10 0), eA 0 144 mk, eA 0 24 fr], c)) rfl ?_
  exact hl 0 (Nat.zero_le _) _ _ _ rfl rfl rfl
