/-! The model: the sure letters. -/
theorem su_1 {a : eRow} {e : Nat} (h : pc 30 (psZ a e) = 1) : suA a e = 97 + Nat.log2 (psZ a e) := by
  unfold suA suN
  unfold psZ at h ⊢
  cases hE : (suE a (a (244 + e)) || suE a (a (280 + e))) with
  | true =>
    rw [hE, cond_true] at h
    exact absurd h (by decide +kernel)
  | false =>
    rw [hE, cond_false] at h
    rw [Bool.false_or, decide_eq_false (by omega), cond_false, cond_false]
theorem su_0 {a : eRow} {e : Nat} (h : pc 30 (psZ a e) ≠ 1) : suA a e = 0 := by
  unfold suA suN
  unfold psZ at h
  cases hE : (suE a (a (244 + e)) || suE a (a (280 + e))) with
  | true => rw [Bool.true_or]; rfl
  | false =>
    rw [hE, cond_false] at h
    rw [Bool.false_or, decide_eq_true h]
    rfl
theorem log_at {m j : Nat} (h0 : m ≠ 0) : (j < Nat.log2 m → 2 ≤ m >>> j) ∧ m >>> (Nat.log2 m) = 1 := by
  have h1 := Nat.log2_self_le h0
  have h2 : m < 2 ^ (Nat.log2 m + 1) := Nat.lt_log2_self
  refine ⟨fun h => ?_, ?_⟩
  · rw [Nat.shiftRight_eq_div_pow]
    refine (Nat.le_div_iff_mul_le (Nat.two_pow_pos j)).mpr ?_
    have h3 : 2 ^ (j + 1) ≤ 2 ^ Nat.log2 m := Nat.pow_le_pow_right (by omega) h
    rw [Nat.pow_succ] at h3
    omega
  · rw [Nat.shiftRight_eq_div_pow]
    have h3 : 1 ≤ m / 2 ^ Nat.log2 m := (Nat.le_div_iff_mul_le (Nat.two_pow_pos _)).mpr (by omega)
    have h4 : m / 2 ^ Nat.log2 m < 2 := (Nat.div_lt_iff_lt_mul (Nat.two_pow_pos _)).mpr (by rw [Nat.pow_succ] at h2; omega)
    omega
theorem psZ_lt {a : eRow} (hI : iA a) {e : Nat} (he : e < 36) : psZ a e < 67108864 := by
  obtain ⟨l1, l2⟩ := li_cell hI.1 he
  have p1 := pin_of hI.1 l1
  have p2 := pin_of hI.1 l2
  have m1 := suM_lt (e := e) hI (A := a (244 + e)) (by rcases p1 with h | h; exact Or.inl h; exact Or.inr ⟨h.1, h.2.1⟩)
  have m2 := suM_lt (e := e) hI (A := a (280 + e)) (by rcases p2 with h | h; exact Or.inl h; exact Or.inr ⟨h.1, h.2.1⟩)
  unfold psZ
  cases (suE a (a (244 + e)) || suE a (a (280 + e))) with
  | true => rw [cond_true]; omega
  | false =>
    rw [cond_false]
    exact Nat.or_lt_two_pow (n := 26) m1 m2
theorem suA_lt {a : eRow} (hI : iA a) {e : Nat} (he : e < 36) : suA a e < 123 := by
  by_cases h : pc 30 (psZ a e) = 1
  · rw [su_1 h]
    have h1 := psZ_lt hI he
    have h0 : psZ a e ≠ 0 := fun h0 => by rw [h0] at h; exact absurd h (by decide +kernel)
    have h2 := Nat.log2_self_le h0
    have h3 : Nat.log2 (psZ a e) < 26 := by
      refine Nat.lt_of_not_le (fun h4 => ?_)
      have h5 : 2 ^ 26 ≤ 2 ^ Nat.log2 (psZ a e) := Nat.pow_le_pow_right (by omega) h4
      omega
    omega
  · rw [su_0 h]; omega
set_option maxRecDepth 100000
theorem z_sure {g mk fr P : Nat → Int} {a : eRow} {c : Nat × Nat} (hg : rg g a) (hI : iA a) {z : Int} {e : Nat} (hz : z = (e : Int)) (he : e < 36) : ev m_M_sure 0 [some (eR 1), some (eI z)] [] ([eA 0 964 g, mZ P, eA 0 144 mk, eA 0 24 fr], c) = some (.inl (some (eI ((suA a e : Nat) : Int))), ([eA 0 964 g, mZ P, eA 0 144 mk, eA 0 24 fr], c)) := by
  have hpl := psZ_lt hI he
  have hp := z_possibleAt (mk := mk) (fr := fr) (P := P) (c := c) hg hI hz he
  have h1 := su_1 (a := a) (e := e)
  have h0 := su_0 (a := a) (e := e)
  generalize psZ a e = m at *
  generalize suA a e = s at *
  obtain ⟨zm, hzm⟩ : ∃ zm : Int, zm = (m : Int) := ⟨_, rfl⟩
  rw [← hzm] at hp
  have hm := n_many (w := ([eA 0 964 g, mZ P, eA 0 144 mk, eA 0 24 fr], c)) hzm (by omega)
  have hpm := pc_le 30 m
  obtain ⟨zn, hzn⟩ : ∃ zn : Int, zn = ((pc 30 m : Nat) : Int) := ⟨_, rfl⟩
  rw [← hzn] at hm
  by_cases hpc : pc 30 m = 1
  · rw [h1 hpc]
    have hm0 : m ≠ 0 := fun h0 => by rw [h0] at hpc; exact absurd hpc (by decide +kernel)
    have hl1 := (log_at (j := 0) hm0).2
    have hlj := fun j => (log_at (j := j) hm0).1
    generalize Nat.log2 m = L at *
    have hlp : ∀ d j : Nat, j + d = L → ∀ (b v : Int), b = ((m >>> j : Nat) : Int) → v = ((97 + j : Nat) : Int) → ev m_M_sure 19 [some (eR 1), some (eI z), some (eI b), some (eI v)] [] ([eA 0 964 g, mZ P, eA 0 144 mk, eA 0 24 fr], c) = some (.inl (some (eI ((97 + L : Nat) : Int))), ([eA 0 964 g, mZ P, eA 0 144 mk, eA 0 24 fr], c)) := by
      intro d
      induction d with
      | zero =>
        intro j hj b v hb hv
        have hj : j = L := by omega
        subst hj
        rw [hl1] at hb
        refine xLtF (N := 3) (x := 1) (y := b) (A := ev m_M_sure 24 [some (eR 1), some (eI z), some (eI b), some (eI v)] [] ([eA 0 964 g, mZ P, eA 0 144 mk, eA 0 24 fr], c)) (B := ev m_M_sure 34 [some (eR 1), some (eI z), some (eI b), some (eI v)] [] ([eA 0 964 g, mZ P, eA 0 144 mk, eA 0 24 fr], c)) rfl (show wr 1 = 1 by decide) (wr_id (by omega) (by omega)) (by omega) ?_
        refine xSeg (N := 2) (r := some (.inl (some (eI v)), ([eA 0 964 g, mZ P, eA 0 144 mk, eA 0 24 fr], c))) rfl ?_
        exact lf hv
      | succ d ih =>
        intro j hj b v hb hv
        have h2 := hlj j (by omega)
        have hsm : m >>> j ≤ m := by rw [Nat.shiftRight_eq_div_pow]; exact Nat.div_le_self _ _
        have hs : bShr b 1 = ((m >>> (j + 1) : Nat) : Int) := by rw [hb]; exact (bShr_n (a := m >>> j) (k := 1) (by omega) (by omega)).trans (by rw [← Nat.shiftRight_add])
        refine xLtT (N := 3) (x := 1) (y := b) (A := ev m_M_sure 24 [some (eR 1), some (eI z), some (eI b), some (eI v)] [] ([eA 0 964 g, mZ P, eA 0 144 mk, eA 0 24 fr], c)) (B := ev m_M_sure 34 [some (eR 1), some (eI z), some (eI b), some (eI v)] [] ([eA 0 964 g, mZ P, eA 0 144 mk, eA 0 24 fr], c)) rfl (show wr 1 = 1 by decide) (wr_id (by omega) (by omega)) (by omega) ?_
        refine xSeg (N := 6) (r := ev m_M_sure 19 [some (eR 1), some (eI z), some (eI (bShr b 1)), some (eI (v + 1))] [] ([eA 0 964 g, mZ P, eA 0 144 mk, eA 0 24 fr], c)) rfl ?_
        exact ih (j + 1) (by omega) _ _ hs (by omega)
    refine xCallW (N := 3) (M2 := m_M_sure) (pc2 := 2) (ls2 := [some (eR 1), some (eI z)]) (st2 := []) (y := m_M_possibleAt) (as := [some (eR 1), some (eI z)]) (w2 := ([eA 0 964 g, mZ P, eA 0 144 mk, eA 0 24 fr], c)) rfl hp ?_
    refine xCall (N := 3) (M2 := m_M_sure) (pc2 := 7) (ls2 := [some (eR 1), some (eI z), some (eI zm)]) (st2 := []) (y := m_M_many) (as := [some (eI zm)]) (w2 := ([eA 0 964 g, mZ P, eA 0 144 mk, eA 0 24 fr], c)) rfl hm ?_
    refine xEqT (N := 2) (x := zn) (y := 1) (A := ev m_M_sure 16 [some (eR 1), some (eI z), some (eI zm)] [] ([eA 0 964 g, mZ P, eA 0 144 mk, eA 0 24 fr], c)) (B := ev m_M_sure 14 [some (eR 1), some (eI z), some (eI zm)] [] ([eA 0 964 g, mZ P, eA 0 144 mk, eA 0 24 fr], c)) rfl (wr_id (by omega) (by omega)) (show wr 1 = 1 by decide) (by omega) ?_
    refine xSeg (N := 2) (r := ev m_M_sure 19 [some (eR 1), some (eI z), some (eI zm), some (eI 97)] [] ([eA 0 964 g, mZ P, eA 0 144 mk, eA 0 24 fr], c)) rfl ?_
    exact hlp L 0 (by omega) _ _ (by rw [Nat.shiftRight_zero]; exact hzm) rfl
  · rw [h0 hpc]
    refine xCallW (N := 3) (M2 := m_M_sure) (pc2 := 2) (ls2 := [some (eR 1), some (eI z)]) (st2 := []) (y := m_M_possibleAt) (as := [some (eR 1), some (eI z)]) (w2 := ([eA 0 964 g, mZ P, eA 0 144 mk, eA 0 24 fr], c)) rfl hp ?_
    refine xCall (N := 3) (M2 := m_M_sure) (pc2 := 7) (ls2 := [some (eR 1), some (eI z), some (eI zm)]) (st2 := []) (y := m_M_many) (as := [some (eI zm)]) (w2 := ([eA 0 964 g, mZ P, eA 0 144 mk, eA 0 24 fr], c)) rfl hm ?_
    refine xEqF (N := 2) (x := zn) (y := 1) (A := ev m_M_sure 16 [some (eR 1), some (eI z), some (eI zm)] [] ([eA 0 964 g, mZ P, eA 0 144 mk, eA 0 24 fr], c)) (B := ev m_M_sure 14 [some (eR 1), some (eI z), some (eI zm)] [] ([eA 0 964 g, mZ P, eA 0 144 mk, eA 0 24 fr], c)) rfl (wr_id (by omega) (by omega)) (show wr 1 = 1 by decide) (by omega) ?_
    refine xSeg (N := 2) (r := some (.inl (some (eI 0)), ([eA 0 964 g, mZ P, eA 0 144 mk, eA 0 24 fr], c))) rfl ?_
    rfl
theorem z_sureLetter {g mk fr P : Nat → Int} {a : eRow} {c : Nat × Nat} (hg : rg g a) (hI : iA a) {x y : Int} {xn yn : Nat} (hx : x = (xn : Int)) (hy : y = (yn : Int)) (h1 : xn < a 0) (h2 : yn < a 1) : ev m_M_sureLetter 0 [some (eR 1), some (eI x), some (eI y)] [] ([eA 0 964 g, mZ P, eA 0 144 mk, eA 0 24 fr], c) = some (.inl (some (eI (((suA a (6 * yn + xn) : Nat) : Int)))), ([eA 0 964 g, mZ (eUp P 10 0), eA 0 144 mk, eA 0 24 fr], c)) := by
  obtain ⟨hG, hV, hO, hT, hM⟩ := hI
  have bG := hG.1
  have bV := hV.1
  have b5 := iT_24 bG.2.2.2.2 hT
  have e0 := hg 0 (by omega)
  have e1 := hg 1 (by omega)
  have e2 := hg 2 (by omega)
  have e3 := hg 3 (by omega)
  have e4 := hg 4 (by omega)
  have e5 := hg 5 (by omega)
  have hb := z_sure (mk := mk) (fr := fr) (P := eUp P 10 0) (c := c) (z := 6 * y + x) (e := 6 * yn + xn) hg ⟨hG, hV, hO, hT, hM⟩ (by omega) (by omega)
  generalize ((suA a (6 * yn + xn) : Nat) : Int) = zr at hb ⊢
  refine xCallW (N := 4) (M2 := m_M_sureLetter) (pc2 := 3) (ls2 := [some (eR 1), some (eI x), some (eI y)]) (st2 := []) (y := m_M_noCell) (as := [some (eR 1), some (eI x), some (eI y)]) (w2 := ([eA 0 964 g, mZ P, eA 0 144 mk, eA 0 24 fr], c)) rfl (z_noCell hg ⟨hG, hV, hO, hT, hM⟩ hx hy h1 h2) ?_
  refine xEqT (N := 1) (x := 0) (y := 0) (A := ev m_M_sureLetter 11 [some (eR 1), some (eI x), some (eI y)] [] ([eA 0 964 g, mZ (eUp P 10 0), eA 0 144 mk, eA 0 24 fr], c)) (B := ev m_M_sureLetter 9 [some (eR 1), some (eI x), some (eI y)] [] ([eA 0 964 g, mZ (eUp P 10 0), eA 0 144 mk, eA 0 24 fr], c)) rfl (show wr 0 = 0 by decide) (show wr 0 = 0 by decide) (by decide) ?_
  refine xCallI (N := 6) (v := 6 * y + x) (M2 := m_M_sureLetter) (pc2 := 18) (ls2 := [some (eR 1), some (eI x), some (eI y)]) (st2 := [eR 1]) (y := m_M_cellOf) (as := [some (eR 0), some (eI x), some (eI y)]) (w2 := ([eA 0 964 g, mZ (eUp P 10 0), eA 0 144 mk, eA 0 24 fr], c)) rfl n_cellOf (fun r18 hr18 => ?_)
  refine xCallW (N := 1) (M2 := m_M_sureLetter) (pc2 := 21) (ls2 := [some (eR 1), some (eI x), some (eI y)]) (st2 := []) (y := m_M_sure) (as := [some (eR 1), some (eI r18)]) (w2 := ([eA 0 964 g, mZ (eUp P 10 0), eA 0 144 mk, eA 0 24 fr], c)) rfl (by rw [hr18]; exact hb) ?_
  refine xSeg (N := 1) (r := some (.inl (some (eI zr)), ([eA 0 964 g, mZ (eUp P 10 0), eA 0 144 mk, eA 0 24 fr], c))) rfl ?_
  rfl
theorem z_sureLetterX {g mk fr P : Nat → Int} {a : eRow} {c : Nat × Nat} (hg : rg g a) (hI : iA a) {x y : Int} (bx : -2147483648 ≤ x ∧ x < 2147483648) (by_ : -2147483648 ≤ y ∧ y < 2147483648) (h : inG (a 0) (a 1) x y = false) : ev m_M_sureLetter 0 [some (eR 1), some (eI x), some (eI y)] [] ([eA 0 964 g, mZ P, eA 0 144 mk, eA 0 24 fr], c) = some (.inl (some (eI (0))), ([eA 0 964 g, mZ (eUp P 10 1), eA 0 144 mk, eA 0 24 fr], c)) := by
  obtain ⟨hG, hV, hO, hT, hM⟩ := hI
  have bG := hG.1
  have bV := hV.1
  have b5 := iT_24 bG.2.2.2.2 hT
  have e0 := hg 0 (by omega)
  have e1 := hg 1 (by omega)
  have e2 := hg 2 (by omega)
  have e3 := hg 3 (by omega)
  have e4 := hg 4 (by omega)
  have e5 := hg 5 (by omega)
  refine xCallW (N := 4) (M2 := m_M_sureLetter) (pc2 := 3) (ls2 := [some (eR 1), some (eI x), some (eI y)]) (st2 := []) (y := m_M_noCell) (as := [some (eR 1), some (eI x), some (eI y)]) (w2 := ([eA 0 964 g, mZ P, eA 0 144 mk, eA 0 24 fr], c)) rfl (z_noCellX hg ⟨hG, hV, hO, hT, hM⟩ bx by_ h) ?_
  refine xEqF (N := 1) (x := 1) (y := 0) (A := ev m_M_sureLetter 11 [some (eR 1), some (eI x), some (eI y)] [] ([eA 0 964 g, mZ (eUp P 10 1), eA 0 144 mk, eA 0 24 fr], c)) (B := ev m_M_sureLetter 9 [some (eR 1), some (eI x), some (eI y)] [] ([eA 0 964 g, mZ (eUp P 10 1), eA 0 144 mk, eA 0 24 fr], c)) rfl (show wr 1 = 1 by decide) (show wr 0 = 0 by decide) (by decide) ?_
  refine xSeg (N := 2) (r := some (.inl (some (eI 0)), ([eA 0 964 g, mZ (eUp P 10 1), eA 0 144 mk, eA 0 24 fr], c))) rfl ?_
  rfl
