/-! The model: a candidate by number; the letters that a cell may have. -/
set_option maxRecDepth 100000
theorem z_candidateAt {g mk fr P : Nat → Int} {a : eRow} {c : Nat × Nat} (hg : rg g a) (hI : iA a) {x : Int} {k : Nat} (hx : x = (k : Int)) (h1 : k < a 3) {y : Int} (by_ : -2147483648 ≤ y ∧ y < 2147483648) {q : Nat} (h2 : 0 ≤ y ∧ y < ((pc 30 (op a k) : Nat) : Int)) (h3 : q < 30) (hq : (op a k).testBit q = true) (hqy : ((fb_ct (op a k).testBit q : Nat) : Int) = y) : ev m_M_candidateAt 0 [some (eR 1), some (eI x), some (eI y)] [] ([eA 0 964 g, mZ P, eA 0 144 mk, eA 0 24 fr], c) = some (.inl (some (eI ((q : Int)))), ([eA 0 964 g, mZ (eUp P 10 0), eA 0 144 mk, eA 0 24 fr], c)) := by
  obtain ⟨hG, hV, hO, hT, hM⟩ := hI
  have bG := hG.1
  have bV := hV.1
  have b5 := iT_24 bG.2.2.2.2 hT
  have e0 := hg 0 (by omega)
  have e1 := hg 1 (by omega)
  have e2 := hg 2 (by omega)
  have e3 := hg 3 (by omega)
  have e4 := hg 4 (by omega)
  have e5 := hg 5 (by omega)
  have hb := n_countOf (c := (0, 0)) hg hx (by omega) (hO k h1).1
  have hct := pc_le 30 (op a k)
  obtain ⟨zn, hzn⟩ : ∃ zn : Int, zn = ((pc 30 (op a k) : Nat) : Int) := ⟨_, rfl⟩
  rw [← hzn] at hb h2
  have hh := fun (w : Nat) (v : Int) (hv : v = (w : Int)) (hw : w < 32) => n_hasWord (c := (0, 0)) hg hx hv (by omega) (hO k h1).1 hw
  have hR : ev m_M_candidateAt 0 [] [] ([], (0, 0)) = ev m_M_candidateAt 0 [] [] ([], (0, 0)) := rfl
  have hlp : ∀ d w : Nat, w + d = q → ∀ (l v : Int), v = (w : Int) → l = y - ((fb_ct (op a k).testBit w : Nat) : Int) → ev m_M_candidateAt 34 [some (eR 1), some (eI x), some (eI y), some (eI l), some (eI v)] [] ([eA 0 964 g, mZ (eUp P 10 0), eA 0 144 mk, eA 0 24 fr], c) = some (.inl (some (eI (q : Int))), ([eA 0 964 g, mZ (eUp P 10 0), eA 0 144 mk, eA 0 24 fr], c)) := by
    intro d
    induction d with
    | zero =>
      intro w hw l v hv hl
      have hw : w = q := by omega
      subst hw
      have h9 := hh w v hv (by omega)
      rw [hq] at h9
      have hl0 : l = 0 := by omega
      refine xCall (N := 5) (M2 := m_M_candidateAt) (pc2 := 41) (ls2 := [some (eR 1), some (eI x), some (eI y), some (eI l), some (eI v)]) (st2 := []) (y := m_M_hasWord) (as := [some (eR 0), some (eI x), some (eI v)]) (w2 := ([eA 0 964 g, mZ (eUp P 10 0), eA 0 144 mk, eA 0 24 fr], c)) rfl (rowRd h9 rfl rfl) ?_
      refine xEqF (N := 1) (x := 1) (y := 0) (A := ev m_M_candidateAt 51 [some (eR 1), some (eI x), some (eI y), some (eI l), some (eI v)] [] ([eA 0 964 g, mZ (eUp P 10 0), eA 0 144 mk, eA 0 24 fr], c)) (B := ev m_M_candidateAt 47 [some (eR 1), some (eI x), some (eI y), some (eI l), some (eI v)] [] ([eA 0 964 g, mZ (eUp P 10 0), eA 0 144 mk, eA 0 24 fr], c)) rfl (show wr 1 = 1 by decide) (show wr 0 = 0 by decide) (by decide) ?_
      refine xLtF (N := 2) (x := 0) (y := l) (A := ev m_M_candidateAt 51 [some (eR 1), some (eI x), some (eI y), some (eI l), some (eI v)] [] ([eA 0 964 g, mZ (eUp P 10 0), eA 0 144 mk, eA 0 24 fr], c)) (B := ev m_M_candidateAt 73 [some (eR 1), some (eI x), some (eI y), some (eI l), some (eI v)] [] ([eA 0 964 g, mZ (eUp P 10 0), eA 0 144 mk, eA 0 24 fr], c)) rfl (show wr 0 = 0 by decide) (wr_id (by omega) (by omega)) (by omega) ?_
      refine xSeg (N := 2) (r := some (.inl (some (eI v)), ([eA 0 964 g, mZ (eUp P 10 0), eA 0 144 mk, eA 0 24 fr], c))) rfl ?_
      exact lf hv
    | succ d ih =>
      intro w hw l v hv hl
      have h9 := hh w v hv (by omega)
      have hs := fb_ct_succ (op a k).testBit w
      have hm := fb_ct_mono (op a k).testBit (m := w + 1) (n := q) (by omega)
      cases hbw : (op a k).testBit w with
      | true =>
        rw [hbw] at h9
        rw [hbw, if_pos rfl] at hs
        refine xCall (N := 5) (M2 := m_M_candidateAt) (pc2 := 41) (ls2 := [some (eR 1), some (eI x), some (eI y), some (eI l), some (eI v)]) (st2 := []) (y := m_M_hasWord) (as := [some (eR 0), some (eI x), some (eI v)]) (w2 := ([eA 0 964 g, mZ (eUp P 10 0), eA 0 144 mk, eA 0 24 fr], c)) rfl (rowRd h9 rfl rfl) ?_
        refine xEqF (N := 1) (x := 1) (y := 0) (A := ev m_M_candidateAt 51 [some (eR 1), some (eI x), some (eI y), some (eI l), some (eI v)] [] ([eA 0 964 g, mZ (eUp P 10 0), eA 0 144 mk, eA 0 24 fr], c)) (B := ev m_M_candidateAt 47 [some (eR 1), some (eI x), some (eI y), some (eI l), some (eI v)] [] ([eA 0 964 g, mZ (eUp P 10 0), eA 0 144 mk, eA 0 24 fr], c)) rfl (show wr 1 = 1 by decide) (show wr 0 = 0 by decide) (by decide) ?_
        refine xLtT (N := 2) (x := 0) (y := l) (A := ev m_M_candidateAt 51 [some (eR 1), some (eI x), some (eI y), some (eI l), some (eI v)] [] ([eA 0 964 g, mZ (eUp P 10 0), eA 0 144 mk, eA 0 24 fr], c)) (B := ev m_M_candidateAt 73 [some (eR 1), some (eI x), some (eI y), some (eI l), some (eI v)] [] ([eA 0 964 g, mZ (eUp P 10 0), eA 0 144 mk, eA 0 24 fr], c)) rfl (show wr 0 = 0 by decide) (wr_id (by omega) (by omega)) (by omega) ?_
        refine xCall (N := 5) (M2 := m_M_candidateAt) (pc2 := 58) (ls2 := [some (eR 1), some (eI x), some (eI y), some (eI l), some (eI v)]) (st2 := []) (y := m_M_hasWord) (as := [some (eR 0), some (eI x), some (eI v)]) (w2 := ([eA 0 964 g, mZ (eUp P 10 0), eA 0 144 mk, eA 0 24 fr], c)) rfl (rowRd h9 rfl rfl) ?_
        refine xEqF (N := 1) (x := 1) (y := 0) (A := ev m_M_candidateAt 67 [some (eR 1), some (eI x), some (eI y), some (eI l), some (eI v)] [] ([eA 0 964 g, mZ (eUp P 10 0), eA 0 144 mk, eA 0 24 fr], c)) (B := ev m_M_candidateAt 64 [some (eR 1), some (eI x), some (eI y), some (eI l), some (eI v)] [] ([eA 0 964 g, mZ (eUp P 10 0), eA 0 144 mk, eA 0 24 fr], c)) rfl (show wr 1 = 1 by decide) (show wr 0 = 0 by decide) (by decide) ?_
        refine xSeg (N := 3) (r := ev m_M_candidateAt 34 [some (eR 1), some (eI x), some (eI y), some (eI (l + (-1))), some (eI (v + 1))] [] ([eA 0 964 g, mZ (eUp P 10 0), eA 0 144 mk, eA 0 24 fr], c)) rfl ?_
        exact ih (w + 1) (by omega) _ _ (by omega) (by omega)
      | false =>
        rw [hbw] at h9
        rw [hbw, if_neg (by decide)] at hs
        refine xCall (N := 5) (M2 := m_M_candidateAt) (pc2 := 41) (ls2 := [some (eR 1), some (eI x), some (eI y), some (eI l), some (eI v)]) (st2 := []) (y := m_M_hasWord) (as := [some (eR 0), some (eI x), some (eI v)]) (w2 := ([eA 0 964 g, mZ (eUp P 10 0), eA 0 144 mk, eA 0 24 fr], c)) rfl (rowRd h9 rfl rfl) ?_
        refine xEqT (N := 1) (x := 0) (y := 0) (A := ev m_M_candidateAt 51 [some (eR 1), some (eI x), some (eI y), some (eI l), some (eI v)] [] ([eA 0 964 g, mZ (eUp P 10 0), eA 0 144 mk, eA 0 24 fr], c)) (B := ev m_M_candidateAt 47 [some (eR 1), some (eI x), some (eI y), some (eI l), some (eI v)] [] ([eA 0 964 g, mZ (eUp P 10 0), eA 0 144 mk, eA 0 24 fr], c)) rfl (show wr 0 = 0 by decide) (show wr 0 = 0 by decide) (by decide) ?_
        refine xCall (N := 5) (M2 := m_M_candidateAt) (pc2 := 58) (ls2 := [some (eR 1), some (eI x), some (eI y), some (eI l), some (eI v)]) (st2 := []) (y := m_M_hasWord) (as := [some (eR 0), some (eI x), some (eI v)]) (w2 := ([eA 0 964 g, mZ (eUp P 10 0), eA 0 144 mk, eA 0 24 fr], c)) rfl (rowRd h9 rfl rfl) ?_
        refine xEqT (N := 1) (x := 0) (y := 0) (A := ev m_M_candidateAt 67 [some (eR 1), some (eI x), some (eI y), some (eI l), some (eI v)] [] ([eA 0 964 g, mZ (eUp P 10 0), eA 0 144 mk, eA 0 24 fr], c)) (B := ev m_M_candidateAt 64 [some (eR 1), some (eI x), some (eI y), some (eI l), some (eI v)] [] ([eA 0 964 g, mZ (eUp P 10 0), eA 0 144 mk, eA 0 24 fr], c)) rfl (show wr 0 = 0 by decide) (show wr 0 = 0 by decide) (by decide) ?_
        refine xSeg (N := 2) (r := ev m_M_candidateAt 34 [some (eR 1), some (eI x), some (eI y), some (eI l), some (eI (v + 1))] [] ([eA 0 964 g, mZ (eUp P 10 0), eA 0 144 mk, eA 0 24 fr], c)) rfl ?_
        exact ih (w + 1) (by omega) _ _ (by omega) (by omega)
  refine xCallW (N := 3) (M2 := m_M_candidateAt) (pc2 := 2) (ls2 := [some (eR 1), some (eI x), some (eI y)]) (st2 := []) (y := m_M_noSlot) (as := [some (eR 1), some (eI x)]) (w2 := ([eA 0 964 g, mZ P, eA 0 144 mk, eA 0 24 fr], c)) rfl (z_noSlot hg ⟨hG, hV, hO, hT, hM⟩ hx h1) ?_
  refine xEqT (N := 1) (x := 0) (y := 0) (A := ev m_M_candidateAt 8 [some (eR 1), some (eI x), some (eI y)] [] ([eA 0 964 g, mZ (eUp P 10 0), eA 0 144 mk, eA 0 24 fr], c)) (B := ev m_M_candidateAt 27 [some (eR 1), some (eI x), some (eI y)] [] ([eA 0 964 g, mZ (eUp P 10 0), eA 0 144 mk, eA 0 24 fr], c)) rfl (show wr 0 = 0 by decide) (show wr 0 = 0 by decide) (by decide) ?_
  refine xCall (N := 7) (M2 := m_M_candidateAt) (pc2 := 16) (ls2 := [some (eR 1), some (eI x), some (eI y)]) (st2 := [eI 0, eI y, eR 1]) (y := m_M_countOf) (as := [some (eR 0), some (eI x)]) (w2 := ([eA 0 964 g, mZ (eUp P 10 0), eA 0 144 mk, eA 0 24 fr], c)) rfl (rowRd hb rfl rfl) ?_
  refine xCallW (N := 3) (M2 := m_M_candidateAt) (pc2 := 21) (ls2 := [some (eR 1), some (eI x), some (eI y)]) (st2 := []) (y := m_M_out) (as := [some (eR 1), some (eI y), some (eI 0), some (eI (zn - 1))]) (w2 := ([eA 0 964 g, mZ (eUp P 10 0), eA 0 144 mk, eA 0 24 fr], c)) rfl (z_out (by omega) (by omega) (by omega) (by omega)) ?_
  refine xEqT (N := 1) (x := 0) (y := 0) (A := ev m_M_candidateAt 29 [some (eR 1), some (eI x), some (eI y)] [] ([eA 0 964 g, mZ (eUp P 10 0), eA 0 144 mk, eA 0 24 fr], c)) (B := ev m_M_candidateAt 27 [some (eR 1), some (eI x), some (eI y)] [] ([eA 0 964 g, mZ (eUp P 10 0), eA 0 144 mk, eA 0 24 fr], c)) rfl (show wr 0 = 0 by decide) (show wr 0 = 0 by decide) (by decide) ?_
  refine xSeg (N := 4) (r := ev m_M_candidateAt 34 [some (eR 1), some (eI x), some (eI y), some (eI y), some (eI 0)] [] ([eA 0 964 g, mZ (eUp P 10 0), eA 0 144 mk, eA 0 24 fr], c)) rfl ?_
  exact hlp q 0 (by omega) _ _ rfl (by show y = y - ((fb_ct (op a k).testBit 0 : Nat) : Int); unfold fb_ct; omega)
/-- the letters that a cell may have -/
def psZ (a : eRow) (e : Nat) : Nat := bif suE a (a (244 + e)) || suE a (a (280 + e)) then 0 else suM a (a (244 + e)) e ||| suM a (a (280 + e)) e
theorem suM_lt {a : eRow} (hI : iA a) {A e : Nat} (h : A = 0 ∨ (A ≤ a 3 ∧ pin a (A - 1) e < sl a (A - 1))) : suM a A e < 67108864 := by
  unfold suM
  by_cases h0 : A = 0
  · rw [if_pos h0]; omega
  · rw [if_neg h0]
    rcases h with h | ⟨h1, h2⟩
    · exact absurd h h0
    · exact lmN_lt (fun w hw => by
        obtain ⟨m1, m2⟩ := (hI.2.2.1 (A - 1) (by omega)).2 w hw
        exact lt_26 hI.2.1 m1 (by omega))
theorem pin_of {a : eRow} (hG : iG a) {e A : Nat} (h : A = 0 ∨ (A ≤ a 3 ∧ ((sd a (A - 1) = 0 ∧ e / 6 = sy a (A - 1) ∧ sx a (A - 1) ≤ e % 6 ∧ e % 6 < sx a (A - 1) + sl a (A - 1)) ∨ (sd a (A - 1) = 1 ∧ e % 6 = sx a (A - 1) ∧ sy a (A - 1) ≤ e / 6 ∧ e / 6 < sy a (A - 1) + sl a (A - 1))))) : A = 0 ∨ (A ≤ a 3 ∧ pin a (A - 1) e < sl a (A - 1) ∧ (if sd a (A - 1) = 1 then sy a (A - 1) ≤ e / 6 else sx a (A - 1) ≤ e % 6)) := by
  rcases h with h | ⟨h1, h2⟩
  · exact Or.inl h
  · refine Or.inr ⟨h1, ?_⟩
    unfold pin
    rcases h2 with ⟨d, e1, e2, e3⟩ | ⟨d, e1, e2, e3⟩
    · rw [d, if_neg (by omega), if_neg (by omega)]; omega
    · rw [d, if_pos rfl, if_pos rfl]; omega
theorem z_possibleAt {g mk fr P : Nat → Int} {a : eRow} {c : Nat × Nat} (hg : rg g a) (hI : iA a) {z : Int} {e : Nat} (hz : z = (e : Int)) (he : e < 36) : ev m_M_possibleAt 0 [some (eR 1), some (eI z)] [] ([eA 0 964 g, mZ P, eA 0 144 mk, eA 0 24 fr], c) = some (.inl (some (eI ((psZ a e : Nat) : Int))), ([eA 0 964 g, mZ P, eA 0 144 mk, eA 0 24 fr], c)) := by
  have hI9 := hI
  obtain ⟨hG, hV, hO, hT, hM⟩ := hI
  have bG := hG.1
  have bV := hV.1
  have b5 := iT_24 bG.2.2.2.2 hT
  have e0 := hg 0 (by omega)
  have e1 := hg 1 (by omega)
  have e2 := hg 2 (by omega)
  have e3 := hg 3 (by omega)
  have e4 := hg 4 (by omega)
  have e5 := hg 5 (by omega)
  obtain ⟨l1, l2⟩ := li_cell hG he
  have p1 := pin_of hG l1
  have p2 := pin_of hG l2
  have rA := hg (244 + e) (by omega)
  have rD := hg (280 + e) (by omega)
  have m1 := suM_lt (e := e) hI9 (A := a (244 + e)) (by rcases p1 with h | h; exact Or.inl h; exact Or.inr ⟨h.1, h.2.1⟩)
  have m2 := suM_lt (e := e) hI9 (A := a (280 + e)) (by rcases p2 with h | h; exact Or.inl h; exact Or.inr ⟨h.1, h.2.1⟩)
  have h1 : ∀ (m : Nat) (b : Int), b = (m : Int) → m < 67108864 → ev m_M_possibleAt 4 [some (eR 1), some (eI z), some (eI b), some (eI 1)] [] ([eA 0 964 g, mZ P, eA 0 144 mk, eA 0 24 fr], c) = some (.inl (some (eI ((bif suE a (a (280 + e)) then 0 else m ||| suM a (a (280 + e)) e : Nat) : Int))), ([eA 0 964 g, mZ P, eA 0 144 mk, eA 0 24 fr], c)) := by
    intro m b hb hm9
    by_cases h0 : a (280 + e) = 0
    · refine xLtT (N := 3) (x := 1) (y := 2) (A := ev m_M_possibleAt 9 [some (eR 1), some (eI z), some (eI b), some (eI 1)] [] ([eA 0 964 g, mZ P, eA 0 144 mk, eA 0 24 fr], c)) (B := ev m_M_possibleAt 89 [some (eR 1), some (eI z), some (eI b), some (eI 1)] [] ([eA 0 964 g, mZ P, eA 0 144 mk, eA 0 24 fr], c)) rfl (show wr 1 = 1 by decide) (show wr 2 = 2 by decide) (by decide) ?_
      refine xEqF (N := 4) (x := 1) (y := 0) (A := ev m_M_possibleAt 17 [some (eR 1), some (eI z), some (eI b), some (eI 1)] [eR 0] ([eA 0 964 g, mZ P, eA 0 144 mk, eA 0 24 fr], c)) (B := ev m_M_possibleAt 23 [some (eR 1), some (eI z), some (eI b), some (eI 1)] [eR 0] ([eA 0 964 g, mZ P, eA 0 144 mk, eA 0 24 fr], c)) rfl (show wr 1 = 1 by decide) (show wr 0 = 0 by decide) (by decide) ?_
      refine xLd (N := 4) (n := 964) (i := 280 + z) (F := fun zq => ev m_M_possibleAt 29 [some (eR 1), some (eI z), some (eI b), some (eI 1)] [eI (g zq)] ([eA 0 964 g, mZ P, eA 0 144 mk, eA 0 24 fr], c)) (k := 280 + e) rfl (wr_nat (by omega) (by omega)) (by omega) ?_
      refine xEqT (N := 6) (x := (g (280 + e)) - 1) (y := (-1)) (A := ev m_M_possibleAt 55 [some (eR 1), some (eI z), some (eI b), some (eI 1), some (eI ((g (280 + e)) - 1))] [] ([eA 0 964 g, mZ P, eA 0 144 mk, eA 0 24 fr], c)) (B := ev m_M_possibleAt 39 [some (eR 1), some (eI z), some (eI b), some (eI 1), some (eI ((g (280 + e)) - 1))] [] ([eA 0 964 g, mZ P, eA 0 144 mk, eA 0 24 fr], c)) rfl (wr_id (by omega) (by omega)) (show wr (-1) = (-1) by decide) (by omega) ?_
      refine xEqT (N := 3) (x := (g (280 + e)) - 1) (y := (-1)) (A := ev m_M_possibleAt 83 [some (eR 1), some (eI z), some (eI b), some (eI 1), some (eI ((g (280 + e)) - 1))] [] ([eA 0 964 g, mZ P, eA 0 144 mk, eA 0 24 fr], c)) (B := ev m_M_possibleAt 61 [some (eR 1), some (eI z), some (eI b), some (eI 1), some (eI ((g (280 + e)) - 1))] [] ([eA 0 964 g, mZ P, eA 0 144 mk, eA 0 24 fr], c)) rfl (wr_id (by omega) (by omega)) (show wr (-1) = (-1) by decide) (by omega) ?_
      refine xLtF (N := 5) (x := 2) (y := 2) (A := ev m_M_possibleAt 9 [some (eR 1), some (eI z), some (eI b), some (eI 2)] [] ([eA 0 964 g, mZ P, eA 0 144 mk, eA 0 24 fr], c)) (B := ev m_M_possibleAt 89 [some (eR 1), some (eI z), some (eI b), some (eI 2)] [] ([eA 0 964 g, mZ P, eA 0 144 mk, eA 0 24 fr], c)) rfl (show wr 2 = 2 by decide) (show wr 2 = 2 by decide) (by decide) ?_
      refine xSeg (N := 2) (r := some (.inl (some (eI b)), ([eA 0 964 g, mZ P, eA 0 144 mk, eA 0 24 fr], c))) rfl ?_
      refine lf ?_; rw [show suE a (a (280 + e)) = false from decide_eq_false (fun h => h.1 h0), show suM a (a (280 + e)) e = 0 from if_pos h0]; rw [cond_false, Nat.or_zero]; exact hb
    · have hA0 : a (280 + e) ≠ 0 := h0
      obtain ⟨k, hk⟩ : ∃ k, k = a (280 + e) - 1 := ⟨_, rfl⟩
      have pk : k < a 3 ∧ pin a k e < sl a k ∧ (if sd a k = 1 then sy a k ≤ e / 6 else sx a k ≤ e % 6) := by rcases p2 with h | h; exact absurd h hA0; rw [hk]; exact ⟨by omega, h.2⟩
      have rO : g (316 + k) = ((op a k : Nat) : Int) := hg (316 + k) (by omega)
      have bO := (hO k pk.1).1
      obtain ⟨zk, hzk⟩ : ∃ zk : Int, zk = g (280 + e) - 1 := ⟨_, rfl⟩
      have hzk2 : zk = (k : Int) := by omega
      by_cases hop : op a k = 0
      · refine xLtT (N := 3) (x := 1) (y := 2) (A := ev m_M_possibleAt 9 [some (eR 1), some (eI z), some (eI b), some (eI 1)] [] ([eA 0 964 g, mZ P, eA 0 144 mk, eA 0 24 fr], c)) (B := ev m_M_possibleAt 89 [some (eR 1), some (eI z), some (eI b), some (eI 1)] [] ([eA 0 964 g, mZ P, eA 0 144 mk, eA 0 24 fr], c)) rfl (show wr 1 = 1 by decide) (show wr 2 = 2 by decide) (by decide) ?_
        refine xEqF (N := 4) (x := 1) (y := 0) (A := ev m_M_possibleAt 17 [some (eR 1), some (eI z), some (eI b), some (eI 1)] [eR 0] ([eA 0 964 g, mZ P, eA 0 144 mk, eA 0 24 fr], c)) (B := ev m_M_possibleAt 23 [some (eR 1), some (eI z), some (eI b), some (eI 1)] [eR 0] ([eA 0 964 g, mZ P, eA 0 144 mk, eA 0 24 fr], c)) rfl (show wr 1 = 1 by decide) (show wr 0 = 0 by decide) (by decide) ?_
        refine xLd (N := 4) (n := 964) (i := 280 + z) (F := fun zq => ev m_M_possibleAt 29 [some (eR 1), some (eI z), some (eI b), some (eI 1)] [eI (g zq)] ([eA 0 964 g, mZ P, eA 0 144 mk, eA 0 24 fr], c)) (k := 280 + e) rfl (wr_nat (by omega) (by omega)) (by omega) ?_
        refine xTop (N := 2) (pc2 := 31) (ls2 := [some (eR 1), some (eI z), some (eI b), some (eI 1)]) (a := (g (280 + e)) - 1) (b := zk) (st2 := []) (w2 := ([eA 0 964 g, mZ P, eA 0 144 mk, eA 0 24 fr], c)) rfl hzk.symm (fun zk9 hzk9 => ?_)
        refine xEqF (N := 4) (x := zk9) (y := (-1)) (A := ev m_M_possibleAt 55 [some (eR 1), some (eI z), some (eI b), some (eI 1), some (eI zk9)] [] ([eA 0 964 g, mZ P, eA 0 144 mk, eA 0 24 fr], c)) (B := ev m_M_possibleAt 39 [some (eR 1), some (eI z), some (eI b), some (eI 1), some (eI zk9)] [] ([eA 0 964 g, mZ P, eA 0 144 mk, eA 0 24 fr], c)) rfl (wr_id (by omega) (by omega)) (show wr (-1) = (-1) by decide) (by omega) ?_
        refine xLd (N := 6) (n := 964) (i := 316 + zk9) (F := fun zq => ev m_M_possibleAt 50 [some (eR 1), some (eI z), some (eI b), some (eI 1), some (eI zk9)] [eI (g zq)] ([eA 0 964 g, mZ P, eA 0 144 mk, eA 0 24 fr], c)) (k := 316 + k) rfl (wr_nat (by omega) (by omega)) (by omega) ?_
        refine xEqT (N := 1) (x := g (316 + k)) (y := 0) (A := ev m_M_possibleAt 53 [some (eR 1), some (eI z), some (eI b), some (eI 1), some (eI zk9)] [] ([eA 0 964 g, mZ P, eA 0 144 mk, eA 0 24 fr], c)) (B := ev m_M_possibleAt 55 [some (eR 1), some (eI z), some (eI b), some (eI 1), some (eI zk9)] [] ([eA 0 964 g, mZ P, eA 0 144 mk, eA 0 24 fr], c)) rfl (wr_id (by omega) (by omega)) (show wr 0 = 0 by decide) (by omega) ?_
        refine xSeg (N := 2) (r := some (.inl (some (eI 0)), ([eA 0 964 g, mZ P, eA 0 144 mk, eA 0 24 fr], c))) rfl ?_
        refine lf ?_; rw [show suE a (a (280 + e)) = true from decide_eq_true ⟨hA0, by rw [← hk]; exact hop⟩]; rfl
      · have hpi := n_placeIn (c := (0, 0)) (x := zk) hg hG hzk2 hz pk.1 he pk.2.2
        obtain ⟨zp, hzp⟩ : ∃ zp : Int, zp = ((pin a k e : Nat) : Int) := ⟨_, rfl⟩
        rw [← hzp] at hpi
        have hsl := (sl_at hG pk.1).2.2.1
        have hla := n_lettersAt (c := (0, 0)) (x := zk) (i := zp) hg hV hO hzk2 hzp pk.1 (by omega) pk.2.1 hsl
        have hsm : lmN (op a k) (fun w => lt a w (pin a k e)) = suM a (a (280 + e)) e := by unfold suM; rw [if_neg hA0, hk]
        rw [hsm] at hla
        obtain ⟨zl, hzl⟩ : ∃ zl : Int, zl = ((suM a (a (280 + e)) e : Nat) : Int) := ⟨_, rfl⟩
        rw [← hzl] at hla
        refine xLtT (N := 3) (x := 1) (y := 2) (A := ev m_M_possibleAt 9 [some (eR 1), some (eI z), some (eI b), some (eI 1)] [] ([eA 0 964 g, mZ P, eA 0 144 mk, eA 0 24 fr], c)) (B := ev m_M_possibleAt 89 [some (eR 1), some (eI z), some (eI b), some (eI 1)] [] ([eA 0 964 g, mZ P, eA 0 144 mk, eA 0 24 fr], c)) rfl (show wr 1 = 1 by decide) (show wr 2 = 2 by decide) (by decide) ?_
        refine xEqF (N := 4) (x := 1) (y := 0) (A := ev m_M_possibleAt 17 [some (eR 1), some (eI z), some (eI b), some (eI 1)] [eR 0] ([eA 0 964 g, mZ P, eA 0 144 mk, eA 0 24 fr], c)) (B := ev m_M_possibleAt 23 [some (eR 1), some (eI z), some (eI b), some (eI 1)] [eR 0] ([eA 0 964 g, mZ P, eA 0 144 mk, eA 0 24 fr], c)) rfl (show wr 1 = 1 by decide) (show wr 0 = 0 by decide) (by decide) ?_
        refine xLd (N := 4) (n := 964) (i := 280 + z) (F := fun zq => ev m_M_possibleAt 29 [some (eR 1), some (eI z), some (eI b), some (eI 1)] [eI (g zq)] ([eA 0 964 g, mZ P, eA 0 144 mk, eA 0 24 fr], c)) (k := 280 + e) rfl (wr_nat (by omega) (by omega)) (by omega) ?_
        refine xTop (N := 2) (pc2 := 31) (ls2 := [some (eR 1), some (eI z), some (eI b), some (eI 1)]) (a := (g (280 + e)) - 1) (b := zk) (st2 := []) (w2 := ([eA 0 964 g, mZ P, eA 0 144 mk, eA 0 24 fr], c)) rfl hzk.symm (fun zk9 hzk9 => ?_)
        refine xEqF (N := 4) (x := zk9) (y := (-1)) (A := ev m_M_possibleAt 55 [some (eR 1), some (eI z), some (eI b), some (eI 1), some (eI zk9)] [] ([eA 0 964 g, mZ P, eA 0 144 mk, eA 0 24 fr], c)) (B := ev m_M_possibleAt 39 [some (eR 1), some (eI z), some (eI b), some (eI 1), some (eI zk9)] [] ([eA 0 964 g, mZ P, eA 0 144 mk, eA 0 24 fr], c)) rfl (wr_id (by omega) (by omega)) (show wr (-1) = (-1) by decide) (by omega) ?_
        refine xLd (N := 6) (n := 964) (i := 316 + zk9) (F := fun zq => ev m_M_possibleAt 50 [some (eR 1), some (eI z), some (eI b), some (eI 1), some (eI zk9)] [eI (g zq)] ([eA 0 964 g, mZ P, eA 0 144 mk, eA 0 24 fr], c)) (k := 316 + k) rfl (wr_nat (by omega) (by omega)) (by omega) ?_
        refine xEqF (N := 1) (x := g (316 + k)) (y := 0) (A := ev m_M_possibleAt 53 [some (eR 1), some (eI z), some (eI b), some (eI 1), some (eI zk9)] [] ([eA 0 964 g, mZ P, eA 0 144 mk, eA 0 24 fr], c)) (B := ev m_M_possibleAt 55 [some (eR 1), some (eI z), some (eI b), some (eI 1), some (eI zk9)] [] ([eA 0 964 g, mZ P, eA 0 144 mk, eA 0 24 fr], c)) rfl (wr_id (by omega) (by omega)) (show wr 0 = 0 by decide) (by omega) ?_
        refine xEqF (N := 3) (x := zk9) (y := (-1)) (A := ev m_M_possibleAt 83 [some (eR 1), some (eI z), some (eI b), some (eI 1), some (eI zk9)] [] ([eA 0 964 g, mZ P, eA 0 144 mk, eA 0 24 fr], c)) (B := ev m_M_possibleAt 61 [some (eR 1), some (eI z), some (eI b), some (eI 1), some (eI zk9)] [] ([eA 0 964 g, mZ P, eA 0 144 mk, eA 0 24 fr], c)) rfl (wr_id (by omega) (by omega)) (show wr (-1) = (-1) by decide) (by omega) ?_
        refine xCall (N := 9) (M2 := m_M_possibleAt) (pc2 := 75) (ls2 := [some (eR 1), some (eI z), some (eI b), some (eI 1), some (eI zk9)]) (st2 := [eI zk9, eR 0, eI b]) (y := m_M_placeIn) (as := [some (eR 0), some (eI zk9), some (eI z)]) (w2 := ([eA 0 964 g, mZ P, eA 0 144 mk, eA 0 24 fr], c)) rfl (by rw [hzk9]; exact rowRd hpi rfl rfl) ?_
        refine xCall (N := 1) (M2 := m_M_possibleAt) (pc2 := 78) (ls2 := [some (eR 1), some (eI z), some (eI b), some (eI 1), some (eI zk9)]) (st2 := [eI b]) (y := m_M_lettersAt) (as := [some (eR 0), some (eI zk9), some (eI zp)]) (w2 := ([eA 0 964 g, mZ P, eA 0 144 mk, eA 0 24 fr], c)) rfl (by rw [hzk9]; exact rowRd hla rfl rfl) ?_
        refine xLtF (N := 7) (x := 2) (y := 2) (A := ev m_M_possibleAt 9 [some (eR 1), some (eI z), some (eI (bOr b zl)), some (eI 2)] [] ([eA 0 964 g, mZ P, eA 0 144 mk, eA 0 24 fr], c)) (B := ev m_M_possibleAt 89 [some (eR 1), some (eI z), some (eI (bOr b zl)), some (eI 2)] [] ([eA 0 964 g, mZ P, eA 0 144 mk, eA 0 24 fr], c)) rfl (show wr 2 = 2 by decide) (show wr 2 = 2 by decide) (by decide) ?_
        refine xSeg (N := 2) (r := some (.inl (some (eI (bOr b zl))), ([eA 0 964 g, mZ P, eA 0 144 mk, eA 0 24 fr], c))) rfl ?_
        refine lf ?_; rw [show suE a (a (280 + e)) = false from decide_eq_false (fun h => hop (by rw [hk]; exact h.2)), cond_false, hb, hzl]; exact bOr_n (by omega) (by omega)
  have h2 : ev m_M_possibleAt 4 [some (eR 1), some (eI z), some (eI 0), some (eI 0)] [] ([eA 0 964 g, mZ P, eA 0 144 mk, eA 0 24 fr], c) = some (.inl (some (eI ((psZ a e : Nat) : Int))), ([eA 0 964 g, mZ P, eA 0 144 mk, eA 0 24 fr], c)) := by
    by_cases h0 : a (244 + e) = 0
    · refine xLtT (N := 3) (x := 0) (y := 2) (A := ev m_M_possibleAt 9 [some (eR 1), some (eI z), some (eI 0), some (eI 0)] [] ([eA 0 964 g, mZ P, eA 0 144 mk, eA 0 24 fr], c)) (B := ev m_M_possibleAt 89 [some (eR 1), some (eI z), some (eI 0), some (eI 0)] [] ([eA 0 964 g, mZ P, eA 0 144 mk, eA 0 24 fr], c)) rfl (show wr 0 = 0 by decide) (show wr 2 = 2 by decide) (by decide) ?_
      refine xEqT (N := 4) (x := 0) (y := 0) (A := ev m_M_possibleAt 17 [some (eR 1), some (eI z), some (eI 0), some (eI 0)] [eR 0] ([eA 0 964 g, mZ P, eA 0 144 mk, eA 0 24 fr], c)) (B := ev m_M_possibleAt 23 [some (eR 1), some (eI z), some (eI 0), some (eI 0)] [eR 0] ([eA 0 964 g, mZ P, eA 0 144 mk, eA 0 24 fr], c)) rfl (show wr 0 = 0 by decide) (show wr 0 = 0 by decide) (by decide) ?_
      refine xLd (N := 5) (n := 964) (i := 244 + z) (F := fun zq => ev m_M_possibleAt 29 [some (eR 1), some (eI z), some (eI 0), some (eI 0)] [eI (g zq)] ([eA 0 964 g, mZ P, eA 0 144 mk, eA 0 24 fr], c)) (k := 244 + e) rfl (wr_nat (by omega) (by omega)) (by omega) ?_
      refine xEqT (N := 6) (x := (g (244 + e)) - 1) (y := (-1)) (A := ev m_M_possibleAt 55 [some (eR 1), some (eI z), some (eI 0), some (eI 0), some (eI ((g (244 + e)) - 1))] [] ([eA 0 964 g, mZ P, eA 0 144 mk, eA 0 24 fr], c)) (B := ev m_M_possibleAt 39 [some (eR 1), some (eI z), some (eI 0), some (eI 0), some (eI ((g (244 + e)) - 1))] [] ([eA 0 964 g, mZ P, eA 0 144 mk, eA 0 24 fr], c)) rfl (wr_id (by omega) (by omega)) (show wr (-1) = (-1) by decide) (by omega) ?_
      refine xEqT (N := 3) (x := (g (244 + e)) - 1) (y := (-1)) (A := ev m_M_possibleAt 83 [some (eR 1), some (eI z), some (eI 0), some (eI 0), some (eI ((g (244 + e)) - 1))] [] ([eA 0 964 g, mZ P, eA 0 144 mk, eA 0 24 fr], c)) (B := ev m_M_possibleAt 61 [some (eR 1), some (eI z), some (eI 0), some (eI 0), some (eI ((g (244 + e)) - 1))] [] ([eA 0 964 g, mZ P, eA 0 144 mk, eA 0 24 fr], c)) rfl (wr_id (by omega) (by omega)) (show wr (-1) = (-1) by decide) (by omega) ?_
      refine xSeg (N := 2) (r := ev m_M_possibleAt 4 [some (eR 1), some (eI z), some (eI 0), some (eI 1), some (eI ((g (244 + e)) - 1))] [] ([eA 0 964 g, mZ P, eA 0 144 mk, eA 0 24 fr], c)) rfl ?_
      refine xTk 4 (by rfl) rfl ?_
      exact (h1 0 0 rfl (by omega)).trans (by unfold psZ; rw [show suE a (a (244 + e)) = false from decide_eq_false (fun h => h.1 h0), show suM a (a (244 + e)) e = 0 from if_pos h0, Bool.false_or])
    · have hA0 : a (244 + e) ≠ 0 := h0
      obtain ⟨k, hk⟩ : ∃ k, k = a (244 + e) - 1 := ⟨_, rfl⟩
      have pk : k < a 3 ∧ pin a k e < sl a k ∧ (if sd a k = 1 then sy a k ≤ e / 6 else sx a k ≤ e % 6) := by rcases p1 with h | h; exact absurd h hA0; rw [hk]; exact ⟨by omega, h.2⟩
      have rO : g (316 + k) = ((op a k : Nat) : Int) := hg (316 + k) (by omega)
      have bO := (hO k pk.1).1
      obtain ⟨zk, hzk⟩ : ∃ zk : Int, zk = g (244 + e) - 1 := ⟨_, rfl⟩
      have hzk2 : zk = (k : Int) := by omega
      by_cases hop : op a k = 0
      · refine xLtT (N := 3) (x := 0) (y := 2) (A := ev m_M_possibleAt 9 [some (eR 1), some (eI z), some (eI 0), some (eI 0)] [] ([eA 0 964 g, mZ P, eA 0 144 mk, eA 0 24 fr], c)) (B := ev m_M_possibleAt 89 [some (eR 1), some (eI z), some (eI 0), some (eI 0)] [] ([eA 0 964 g, mZ P, eA 0 144 mk, eA 0 24 fr], c)) rfl (show wr 0 = 0 by decide) (show wr 2 = 2 by decide) (by decide) ?_
        refine xEqT (N := 4) (x := 0) (y := 0) (A := ev m_M_possibleAt 17 [some (eR 1), some (eI z), some (eI 0), some (eI 0)] [eR 0] ([eA 0 964 g, mZ P, eA 0 144 mk, eA 0 24 fr], c)) (B := ev m_M_possibleAt 23 [some (eR 1), some (eI z), some (eI 0), some (eI 0)] [eR 0] ([eA 0 964 g, mZ P, eA 0 144 mk, eA 0 24 fr], c)) rfl (show wr 0 = 0 by decide) (show wr 0 = 0 by decide) (by decide) ?_
        refine xLd (N := 5) (n := 964) (i := 244 + z) (F := fun zq => ev m_M_possibleAt 29 [some (eR 1), some (eI z), some (eI 0), some (eI 0)] [eI (g zq)] ([eA 0 964 g, mZ P, eA 0 144 mk, eA 0 24 fr], c)) (k := 244 + e) rfl (wr_nat (by omega) (by omega)) (by omega) ?_
        refine xTop (N := 2) (pc2 := 31) (ls2 := [some (eR 1), some (eI z), some (eI 0), some (eI 0)]) (a := (g (244 + e)) - 1) (b := zk) (st2 := []) (w2 := ([eA 0 964 g, mZ P, eA 0 144 mk, eA 0 24 fr], c)) rfl hzk.symm (fun zk9 hzk9 => ?_)
        refine xEqF (N := 4) (x := zk9) (y := (-1)) (A := ev m_M_possibleAt 55 [some (eR 1), some (eI z), some (eI 0), some (eI 0), some (eI zk9)] [] ([eA 0 964 g, mZ P, eA 0 144 mk, eA 0 24 fr], c)) (B := ev m_M_possibleAt 39 [some (eR 1), some (eI z), some (eI 0), some (eI 0), some (eI zk9)] [] ([eA 0 964 g, mZ P, eA 0 144 mk, eA 0 24 fr], c)) rfl (wr_id (by omega) (by omega)) (show wr (-1) = (-1) by decide) (by omega) ?_
        refine xLd (N := 6) (n := 964) (i := 316 + zk9) (F := fun zq => ev m_M_possibleAt 50 [some (eR 1), some (eI z), some (eI 0), some (eI 0), some (eI zk9)] [eI (g zq)] ([eA 0 964 g, mZ P, eA 0 144 mk, eA 0 24 fr], c)) (k := 316 + k) rfl (wr_nat (by omega) (by omega)) (by omega) ?_
        refine xEqT (N := 1) (x := g (316 + k)) (y := 0) (A := ev m_M_possibleAt 53 [some (eR 1), some (eI z), some (eI 0), some (eI 0), some (eI zk9)] [] ([eA 0 964 g, mZ P, eA 0 144 mk, eA 0 24 fr], c)) (B := ev m_M_possibleAt 55 [some (eR 1), some (eI z), some (eI 0), some (eI 0), some (eI zk9)] [] ([eA 0 964 g, mZ P, eA 0 144 mk, eA 0 24 fr], c)) rfl (wr_id (by omega) (by omega)) (show wr 0 = 0 by decide) (by omega) ?_
        refine xSeg (N := 2) (r := some (.inl (some (eI 0)), ([eA 0 964 g, mZ P, eA 0 144 mk, eA 0 24 fr], c))) rfl ?_
        refine lf ?_; unfold psZ; rw [show suE a (a (244 + e)) = true from decide_eq_true ⟨hA0, by rw [← hk]; exact hop⟩, Bool.true_or]; rfl
      · have hpi := n_placeIn (c := (0, 0)) (x := zk) hg hG hzk2 hz pk.1 he pk.2.2
        obtain ⟨zp, hzp⟩ : ∃ zp : Int, zp = ((pin a k e : Nat) : Int) := ⟨_, rfl⟩
        rw [← hzp] at hpi
        have hsl := (sl_at hG pk.1).2.2.1
        have hla := n_lettersAt (c := (0, 0)) (x := zk) (i := zp) hg hV hO hzk2 hzp pk.1 (by omega) pk.2.1 hsl
        have hsm : lmN (op a k) (fun w => lt a w (pin a k e)) = suM a (a (244 + e)) e := by unfold suM; rw [if_neg hA0, hk]
        rw [hsm] at hla
        obtain ⟨zl, hzl⟩ : ∃ zl : Int, zl = ((suM a (a (244 + e)) e : Nat) : Int) := ⟨_, rfl⟩
        rw [← hzl] at hla
        refine xLtT (N := 3) (x := 0) (y := 2) (A := ev m_M_possibleAt 9 [some (eR 1), some (eI z), some (eI 0), some (eI 0)] [] ([eA 0 964 g, mZ P, eA 0 144 mk, eA 0 24 fr], c)) (B := ev m_M_possibleAt 89 [some (eR 1), some (eI z), some (eI 0), some (eI 0)] [] ([eA 0 964 g, mZ P, eA 0 144 mk, eA 0 24 fr], c)) rfl (show wr 0 = 0 by decide) (show wr 2 = 2 by decide) (by decide) ?_
        refine xEqT (N := 4) (x := 0) (y := 0) (A := ev m_M_possibleAt 17 [some (eR 1), some (eI z), some (eI 0), some (eI 0)] [eR 0] ([eA 0 964 g, mZ P, eA 0 144 mk, eA 0 24 fr], c)) (B := ev m_M_possibleAt 23 [some (eR 1), some (eI z), some (eI 0), some (eI 0)] [eR 0] ([eA 0 964 g, mZ P, eA 0 144 mk, eA 0 24 fr], c)) rfl (show wr 0 = 0 by decide) (show wr 0 = 0 by decide) (by decide) ?_
        refine xLd (N := 5) (n := 964) (i := 244 + z) (F := fun zq => ev m_M_possibleAt 29 [some (eR 1), some (eI z), some (eI 0), some (eI 0)] [eI (g zq)] ([eA 0 964 g, mZ P, eA 0 144 mk, eA 0 24 fr], c)) (k := 244 + e) rfl (wr_nat (by omega) (by omega)) (by omega) ?_
        refine xTop (N := 2) (pc2 := 31) (ls2 := [some (eR 1), some (eI z), some (eI 0), some (eI 0)]) (a := (g (244 + e)) - 1) (b := zk) (st2 := []) (w2 := ([eA 0 964 g, mZ P, eA 0 144 mk, eA 0 24 fr], c)) rfl hzk.symm (fun zk9 hzk9 => ?_)
        refine xEqF (N := 4) (x := zk9) (y := (-1)) (A := ev m_M_possibleAt 55 [some (eR 1), some (eI z), some (eI 0), some (eI 0), some (eI zk9)] [] ([eA 0 964 g, mZ P, eA 0 144 mk, eA 0 24 fr], c)) (B := ev m_M_possibleAt 39 [some (eR 1), some (eI z), some (eI 0), some (eI 0), some (eI zk9)] [] ([eA 0 964 g, mZ P, eA 0 144 mk, eA 0 24 fr], c)) rfl (wr_id (by omega) (by omega)) (show wr (-1) = (-1) by decide) (by omega) ?_
        refine xLd (N := 6) (n := 964) (i := 316 + zk9) (F := fun zq => ev m_M_possibleAt 50 [some (eR 1), some (eI z), some (eI 0), some (eI 0), some (eI zk9)] [eI (g zq)] ([eA 0 964 g, mZ P, eA 0 144 mk, eA 0 24 fr], c)) (k := 316 + k) rfl (wr_nat (by omega) (by omega)) (by omega) ?_
        refine xEqF (N := 1) (x := g (316 + k)) (y := 0) (A := ev m_M_possibleAt 53 [some (eR 1), some (eI z), some (eI 0), some (eI 0), some (eI zk9)] [] ([eA 0 964 g, mZ P, eA 0 144 mk, eA 0 24 fr], c)) (B := ev m_M_possibleAt 55 [some (eR 1), some (eI z), some (eI 0), some (eI 0), some (eI zk9)] [] ([eA 0 964 g, mZ P, eA 0 144 mk, eA 0 24 fr], c)) rfl (wr_id (by omega) (by omega)) (show wr 0 = 0 by decide) (by omega) ?_
        refine xEqF (N := 3) (x := zk9) (y := (-1)) (A := ev m_M_possibleAt 83 [some (eR 1), some (eI z), some (eI 0), some (eI 0), some (eI zk9)] [] ([eA 0 964 g, mZ P, eA 0 144 mk, eA 0 24 fr], c)) (B := ev m_M_possibleAt 61 [some (eR 1), some (eI z), some (eI 0), some (eI 0), some (eI zk9)] [] ([eA 0 964 g, mZ P, eA 0 144 mk, eA 0 24 fr], c)) rfl (wr_id (by omega) (by omega)) (show wr (-1) = (-1) by decide) (by omega) ?_
        refine xCall (N := 9) (M2 := m_M_possibleAt) (pc2 := 75) (ls2 := [some (eR 1), some (eI z), some (eI 0), some (eI 0), some (eI zk9)]) (st2 := [eI zk9, eR 0, eI 0]) (y := m_M_placeIn) (as := [some (eR 0), some (eI zk9), some (eI z)]) (w2 := ([eA 0 964 g, mZ P, eA 0 144 mk, eA 0 24 fr], c)) rfl (by rw [hzk9]; exact rowRd hpi rfl rfl) ?_
        refine xCall (N := 1) (M2 := m_M_possibleAt) (pc2 := 78) (ls2 := [some (eR 1), some (eI z), some (eI 0), some (eI 0), some (eI zk9)]) (st2 := [eI 0]) (y := m_M_lettersAt) (as := [some (eR 0), some (eI zk9), some (eI zp)]) (w2 := ([eA 0 964 g, mZ P, eA 0 144 mk, eA 0 24 fr], c)) rfl (by rw [hzk9]; exact rowRd hla rfl rfl) ?_
        refine xSeg (N := 4) (r := ev m_M_possibleAt 4 [some (eR 1), some (eI z), some (eI (bOr 0 zl)), some (eI 1), some (eI zk9)] [] ([eA 0 964 g, mZ P, eA 0 144 mk, eA 0 24 fr], c)) rfl ?_
        refine xTk 4 (by rfl) rfl ?_
        exact (h1 (suM a (a (244 + e)) e) _ (by rw [hzl]; exact (bOr_n (a := 0) (by omega) (by omega)).trans (by rw [Nat.zero_or])) m1).trans (by unfold psZ; rw [show suE a (a (244 + e)) = false from decide_eq_false (fun h => hop (by rw [hk]; exact h.2)), Bool.false_or])
  refine xSeg (N := 4) (r := ev m_M_possibleAt 4 [some (eR 1), some (eI z), some (eI 0), some (eI 0)] [] ([eA 0 964 g, mZ P, eA 0 144 mk, eA 0 24 fr], c)) rfl ?_
  exact h2
