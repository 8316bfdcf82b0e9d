/-! The model: crossings, letters, candidates by number. -/
theorem fnd_none {p : Nat → Bool} : ∀ {d k : Nat}, (∀ i, k ≤ i → i < k + d → p i = false) → fnd p d k = -1
  | 0, _, _ => rfl
  | d + 1, k, h => by
    rw [fnd_F (h k (by omega) (by omega))]
    exact fnd_none (fun i h1 h2 => h i (by omega) (by omega))
theorem fnd_ex {p : Nat → Bool} : ∀ {d k : Nat}, fnd p d k ≠ -1 → ∃ q : Nat, fnd p d k = (q : Int) ∧ k ≤ q ∧ q < k + d ∧ p q = true
  | 0, _, h => absurd rfl h
  | d + 1, k, h => by
    cases hp : p k with
    | true => exact ⟨k, fnd_T hp, Nat.le_refl k, by omega, hp⟩
    | false =>
      rw [fnd_F hp] at h ⊢
      obtain ⟨q, h1, h2, h3, h4⟩ := fnd_ex h
      exact ⟨q, h1, by omega, by omega, h4⟩
theorem fnd_hit {p : Nat → Bool} : ∀ {d k q : Nat}, k ≤ q → q < k + d → p q = true → fnd p d k ≠ -1
  | 0, _, _, h1, h2, _ => by omega
  | d + 1, k, q, h1, h2, h3 => by
    cases hp : p k with
    | true => rw [fnd_T hp]; omega
    | false =>
      rw [fnd_F hp]
      have hne : k ≠ q := fun e => by rw [e, h3] at hp; cases hp
      exact fnd_hit (q := q) (by omega) (by omega) h3
/-- the thing with a number -/
theorem fnd_nth {p : Nat → Bool} {n : Nat} {y : Int} (h : 0 ≤ y ∧ y < ((fb_ct p n : Nat) : Int)) : ∃ q : Nat, fnd (fun i => p i && decide (((fb_ct p i : Nat) : Int) = y)) n 0 = (q : Int) ∧ q < n ∧ p q = true ∧ ((fb_ct p q : Nat) : Int) = y := by
  obtain ⟨i, h1, h2, h3⟩ := fb_ct_kth (p := p) (k := y.toNat) (n := n) (by omega)
  have hne := fnd_hit (p := fun i => p i && decide (((fb_ct p i : Nat) : Int) = y)) (d := n) (k := 0) (q := i) (Nat.zero_le i) (by omega) (by
    show (p i && decide (((fb_ct p i : Nat) : Int) = y)) = true
    rw [h2, decide_eq_true (by omega)]; rfl)
  obtain ⟨q, g1, g2, g3, g4⟩ := fnd_ex hne
  have g4 : (p q && decide (((fb_ct p q : Nat) : Int) = y)) = true := g4
  obtain ⟨g5, g6⟩ := Bool.and_eq_true_iff.mp g4
  exact ⟨q, g1, by omega, g5, of_decide_eq_true g6⟩
theorem fnd_nthX {p : Nat → Bool} {n : Nat} {y : Int} (h : ¬ (0 ≤ y ∧ y < ((fb_ct p n : Nat) : Int))) : fnd (fun i => p i && decide (((fb_ct p i : Nat) : Int) = y)) n 0 = -1 :=
  fnd_none (fun i _ hi => by
    show (p i && decide (((fb_ct p i : Nat) : Int) = y)) = false
    cases hp : p i with
    | false => rfl
    | true =>
      rw [Bool.true_and]
      refine decide_eq_false (fun e => h ⟨by omega, ?_⟩)
      have h1 := fb_ct_mono p (m := i + 1) (n := n) (by omega)
      rw [fb_ct_succ, hp, if_pos rfl] at h1
      omega)
theorem fnd_cross {a : eRow} {k : Nat} {y : Int} : fnd (fun p => decide (oth a k p ≠ 0 ∧ ((fb_ct (fun p => decide (oth a k p ≠ 0)) p : Nat) : Int) = y)) (sl a k) 0 = fnd (fun p => decide (oth a k p ≠ 0) && decide (((fb_ct (fun p => decide (oth a k p ≠ 0)) p : Nat) : Int) = y)) (sl a k) 0 :=
  fnd_cong (fun i _ _ => Bool.decide_and ..)
/-- the words of a slot are numbered among all -/
theorem ct_30 {a : eRow} (hV : iV a) (hO : iO a) {k : Nat} (hk : k < a 3) : pc 30 (op a k) = fb_ct (op a k).testBit (a 2) := by
  have h2 := hV.1
  rw [pc_ct]
  have h := fb_ct_split (fun i => (op a k).testBit i) (a 2) (30 - a 2)
  rw [show a 2 + (30 - a 2) = 30 by omega] at h
  rw [h]
  have h0 : fb_ct (fun i => (op a k).testBit (a 2 + i)) (30 - a 2) = 0 := fb_ct_zero.mpr (fun i hi => by
    cases hb : (op a k).testBit (a 2 + i) with
    | false => rfl
    | true => have := ((hO k hk).2 _ hb).1; omega)
  rw [h0, Nat.add_zero]
set_option maxRecDepth 100000
theorem z_crossingPlace {g mk fr P : Nat → Int} {a : eRow} {c : Nat × Nat} (hg : rg g a) (hI : iA a) {x : Int} {k : Nat} (hx : x = (k : Int)) (h1 : k < a 3) {y : Int} (by_ : -2147483648 ≤ y ∧ y < 2147483648) {q : Nat} (hq : (fnd (fun p => decide (oth a k p ≠ 0 ∧ ((fb_ct (fun p => decide (oth a k p ≠ 0)) p : Nat) : Int) = y)) (sl a k) 0) = (q : Int)) (h2 : 0 ≤ y ∧ y < ((fb_ct (fun p => decide (oth a k p ≠ 0)) (sl a k) : Nat) : Int)) (h3 : q < sl a k) : ev m_M_crossingPlace 0 [some (eR 1), some (eI x), some (eI y)] [] ([eA 0 964 g, mZ P, eA 0 144 mk, eA 0 24 fr], c) = some (.inl (some (eI ((q : Int)))), ([eA 0 964 g, mZ (eUp P 10 0), eA 0 144 mk, eA 0 24 fr], c)) := by
  obtain ⟨hG, hV, hO, hT, hM⟩ := hI
  have bG := hG.1
  have bV := hV.1
  have b5 := iT_24 bG.2.2.2.2 hT
  have e0 := hg 0 (by omega)
  have e1 := hg 1 (by omega)
  have e2 := hg 2 (by omega)
  have e3 := hg 3 (by omega)
  have e4 := hg 4 (by omega)
  have e5 := hg 5 (by omega)
  have hb := n_crossings (c := (0, 0)) hg hG hx h1
  have h6 := (sl_at hG h1).2.2.1
  have hct := fb_ct_le (fun p => decide (oth a k p ≠ 0)) (sl a k)
  have hp := n_placeOfCrossing (c := (0, 0)) hg hG hx h1 (i := y) (by omega)
  rw [hq] at hp
  have ho := n_otherAt (c := (0, 0)) hg hG hx (rfl : (q : Int) = (q : Int)) h1 h3
  obtain ⟨zq, hzq⟩ : ∃ zq : Int, zq = (q : Int) := ⟨_, rfl⟩
  rw [← hzq] at hp ho
  obtain ⟨zn, hzn⟩ : ∃ zn : Int, zn = ((fb_ct (fun p => decide (oth a k p ≠ 0)) (sl a k) : Nat) : Int) := ⟨_, rfl⟩
  rw [← hzn] at hb h2
  generalize ((oth a k q : Nat) : Int) - 1 = zo at ho ⊢
  refine xCallW (N := 3) (M2 := m_M_crossingPlace) (pc2 := 2) (ls2 := [some (eR 1), some (eI x), some (eI y)]) (st2 := []) (y := m_M_noSlot) (as := [some (eR 1), some (eI x)]) (w2 := ([eA 0 964 g, mZ P, eA 0 144 mk, eA 0 24 fr], c)) rfl (z_noSlot hg ⟨hG, hV, hO, hT, hM⟩ hx h1) ?_
  refine xEqT (N := 1) (x := 0) (y := 0) (A := ev m_M_crossingPlace 8 [some (eR 1), some (eI x), some (eI y)] [] ([eA 0 964 g, mZ (eUp P 10 0), eA 0 144 mk, eA 0 24 fr], c)) (B := ev m_M_crossingPlace 27 [some (eR 1), some (eI x), some (eI y)] [] ([eA 0 964 g, mZ (eUp P 10 0), eA 0 144 mk, eA 0 24 fr], c)) rfl (show wr 0 = 0 by decide) (show wr 0 = 0 by decide) (by decide) ?_
  refine xCall (N := 7) (M2 := m_M_crossingPlace) (pc2 := 16) (ls2 := [some (eR 1), some (eI x), some (eI y)]) (st2 := [eI 0, eI y, eR 1]) (y := m_M_crossings) (as := [some (eR 0), some (eI x)]) (w2 := ([eA 0 964 g, mZ (eUp P 10 0), eA 0 144 mk, eA 0 24 fr], c)) rfl (rowRd hb rfl rfl) ?_
  refine xCallW (N := 3) (M2 := m_M_crossingPlace) (pc2 := 21) (ls2 := [some (eR 1), some (eI x), some (eI y)]) (st2 := []) (y := m_M_out) (as := [some (eR 1), some (eI y), some (eI 0), some (eI (zn - 1))]) (w2 := ([eA 0 964 g, mZ (eUp P 10 0), eA 0 144 mk, eA 0 24 fr], c)) rfl (z_out (by omega) (by omega) (by omega) (by omega)) ?_
  refine xEqT (N := 1) (x := 0) (y := 0) (A := ev m_M_crossingPlace 29 [some (eR 1), some (eI x), some (eI y)] [] ([eA 0 964 g, mZ (eUp P 10 0), eA 0 144 mk, eA 0 24 fr], c)) (B := ev m_M_crossingPlace 27 [some (eR 1), some (eI x), some (eI y)] [] ([eA 0 964 g, mZ (eUp P 10 0), eA 0 144 mk, eA 0 24 fr], c)) rfl (show wr 0 = 0 by decide) (show wr 0 = 0 by decide) (by decide) ?_
  refine xCall (N := 5) (M2 := m_M_crossingPlace) (pc2 := 35) (ls2 := [some (eR 1), some (eI x), some (eI y)]) (st2 := []) (y := m_M_placeOfCrossing) (as := [some (eR 0), some (eI x), some (eI y)]) (w2 := ([eA 0 964 g, mZ (eUp P 10 0), eA 0 144 mk, eA 0 24 fr], c)) rfl (rowRd hp rfl rfl) ?_
  refine xSeg (N := 1) (r := some (.inl (some (eI zq)), ([eA 0 964 g, mZ (eUp P 10 0), eA 0 144 mk, eA 0 24 fr], c))) rfl ?_
  first | rfl | exact lf hzq
theorem z_crossingPlaceY {g mk fr P : Nat → Int} {a : eRow} {c : Nat × Nat} (hg : rg g a) (hI : iA a) {x : Int} {k : Nat} (hx : x = (k : Int)) (h1 : k < a 3) {y : Int} (by_ : -2147483648 ≤ y ∧ y < 2147483648) (h2 : ¬ (0 ≤ y ∧ y < ((fb_ct (fun p => decide (oth a k p ≠ 0)) (sl a k) : Nat) : Int))) : ev m_M_crossingPlace 0 [some (eR 1), some (eI x), some (eI y)] [] ([eA 0 964 g, mZ P, eA 0 144 mk, eA 0 24 fr], c) = some (.inl (some (eI (0))), ([eA 0 964 g, mZ (eUp P 10 2), eA 0 144 mk, eA 0 24 fr], c)) := by
  obtain ⟨hG, hV, hO, hT, hM⟩ := hI
  have bG := hG.1
  have bV := hV.1
  have b5 := iT_24 bG.2.2.2.2 hT
  have e0 := hg 0 (by omega)
  have e1 := hg 1 (by omega)
  have e2 := hg 2 (by omega)
  have e3 := hg 3 (by omega)
  have e4 := hg 4 (by omega)
  have e5 := hg 5 (by omega)
  have hb := n_crossings (c := (0, 0)) hg hG hx h1
  have h6 := (sl_at hG h1).2.2.1
  have hct := fb_ct_le (fun p => decide (oth a k p ≠ 0)) (sl a k)
  obtain ⟨zn, hzn⟩ : ∃ zn : Int, zn = ((fb_ct (fun p => decide (oth a k p ≠ 0)) (sl a k) : Nat) : Int) := ⟨_, rfl⟩
  rw [← hzn] at hb h2
  refine xCallW (N := 3) (M2 := m_M_crossingPlace) (pc2 := 2) (ls2 := [some (eR 1), some (eI x), some (eI y)]) (st2 := []) (y := m_M_noSlot) (as := [some (eR 1), some (eI x)]) (w2 := ([eA 0 964 g, mZ P, eA 0 144 mk, eA 0 24 fr], c)) rfl (z_noSlot hg ⟨hG, hV, hO, hT, hM⟩ hx h1) ?_
  refine xEqT (N := 1) (x := 0) (y := 0) (A := ev m_M_crossingPlace 8 [some (eR 1), some (eI x), some (eI y)] [] ([eA 0 964 g, mZ (eUp P 10 0), eA 0 144 mk, eA 0 24 fr], c)) (B := ev m_M_crossingPlace 27 [some (eR 1), some (eI x), some (eI y)] [] ([eA 0 964 g, mZ (eUp P 10 0), eA 0 144 mk, eA 0 24 fr], c)) rfl (show wr 0 = 0 by decide) (show wr 0 = 0 by decide) (by decide) ?_
  refine xCall (N := 7) (M2 := m_M_crossingPlace) (pc2 := 16) (ls2 := [some (eR 1), some (eI x), some (eI y)]) (st2 := [eI 0, eI y, eR 1]) (y := m_M_crossings) (as := [some (eR 0), some (eI x)]) (w2 := ([eA 0 964 g, mZ (eUp P 10 0), eA 0 144 mk, eA 0 24 fr], c)) rfl (rowRd hb rfl rfl) ?_
  refine xCallW (N := 3) (M2 := m_M_crossingPlace) (pc2 := 21) (ls2 := [some (eR 1), some (eI x), some (eI y)]) (st2 := []) (y := m_M_out) (as := [some (eR 1), some (eI y), some (eI 0), some (eI (zn - 1))]) (w2 := ([eA 0 964 g, mZ (eUp P 10 0), eA 0 144 mk, eA 0 24 fr], c)) rfl (z_outX (by omega) (by omega) (by omega) (by omega)) ?_
  refine xEqF (N := 1) (x := 1) (y := 0) (A := ev m_M_crossingPlace 29 [some (eR 1), some (eI x), some (eI y)] [] ([eA 0 964 g, mZ (eUp P 10 2), eA 0 144 mk, eA 0 24 fr], c)) (B := ev m_M_crossingPlace 27 [some (eR 1), some (eI x), some (eI y)] [] ([eA 0 964 g, mZ (eUp P 10 2), eA 0 144 mk, eA 0 24 fr], c)) rfl (show wr 1 = 1 by decide) (show wr 0 = 0 by decide) (by decide) ?_
  refine xSeg (N := 2) (r := some (.inl (some (eI 0)), ([eA 0 964 g, mZ (eUp P 10 2), eA 0 144 mk, eA 0 24 fr], c))) rfl ?_
  rfl
theorem z_crossingPlaceX {g mk fr P : Nat → Int} {a : eRow} {c : Nat × Nat} (hg : rg g a) (hI : iA a) {x : Int} (bx : -2147483648 ≤ x ∧ x < 2147483648) (h : ¬ (0 ≤ x ∧ x < (a 3 : Int))) {y : Int} : ev m_M_crossingPlace 0 [some (eR 1), some (eI x), some (eI y)] [] ([eA 0 964 g, mZ P, eA 0 144 mk, eA 0 24 fr], c) = some (.inl (some (eI (0))), ([eA 0 964 g, mZ (eUp P 10 1), eA 0 144 mk, eA 0 24 fr], c)) := by
  obtain ⟨hG, hV, hO, hT, hM⟩ := hI
  have bG := hG.1
  have bV := hV.1
  have b5 := iT_24 bG.2.2.2.2 hT
  have e0 := hg 0 (by omega)
  have e1 := hg 1 (by omega)
  have e2 := hg 2 (by omega)
  have e3 := hg 3 (by omega)
  have e4 := hg 4 (by omega)
  have e5 := hg 5 (by omega)
  refine xCallW (N := 3) (M2 := m_M_crossingPlace) (pc2 := 2) (ls2 := [some (eR 1), some (eI x), some (eI y)]) (st2 := []) (y := m_M_noSlot) (as := [some (eR 1), some (eI x)]) (w2 := ([eA 0 964 g, mZ P, eA 0 144 mk, eA 0 24 fr], c)) rfl (z_noSlotX hg ⟨hG, hV, hO, hT, hM⟩ bx h) ?_
  refine xEqF (N := 1) (x := 1) (y := 0) (A := ev m_M_crossingPlace 8 [some (eR 1), some (eI x), some (eI y)] [] ([eA 0 964 g, mZ (eUp P 10 1), eA 0 144 mk, eA 0 24 fr], c)) (B := ev m_M_crossingPlace 27 [some (eR 1), some (eI x), some (eI y)] [] ([eA 0 964 g, mZ (eUp P 10 1), eA 0 144 mk, eA 0 24 fr], c)) rfl (show wr 1 = 1 by decide) (show wr 0 = 0 by decide) (by decide) ?_
  refine xSeg (N := 2) (r := some (.inl (some (eI 0)), ([eA 0 964 g, mZ (eUp P 10 1), eA 0 144 mk, eA 0 24 fr], c))) rfl ?_
  rfl
theorem z_crossingSlot {g mk fr P : Nat → Int} {a : eRow} {c : Nat × Nat} (hg : rg g a) (hI : iA a) {x : Int} {k : Nat} (hx : x = (k : Int)) (h1 : k < a 3) {y : Int} (by_ : -2147483648 ≤ y ∧ y < 2147483648) {q : Nat} (hq : (fnd (fun p => decide (oth a k p ≠ 0 ∧ ((fb_ct (fun p => decide (oth a k p ≠ 0)) p : Nat) : Int) = y)) (sl a k) 0) = (q : Int)) (h2 : 0 ≤ y ∧ y < ((fb_ct (fun p => decide (oth a k p ≠ 0)) (sl a k) : Nat) : Int)) (h3 : q < sl a k) : ev m_M_crossingSlot 0 [some (eR 1), some (eI x), some (eI y)] [] ([eA 0 964 g, mZ P, eA 0 144 mk, eA 0 24 fr], c) = some (.inl (some (eI (((oth a k q : Nat) : Int) - 1))), ([eA 0 964 g, mZ (eUp P 10 0), eA 0 144 mk, eA 0 24 fr], c)) := by
  obtain ⟨hG, hV, hO, hT, hM⟩ := hI
  have bG := hG.1
  have bV := hV.1
  have b5 := iT_24 bG.2.2.2.2 hT
  have e0 := hg 0 (by omega)
  have e1 := hg 1 (by omega)
  have e2 := hg 2 (by omega)
  have e3 := hg 3 (by omega)
  have e4 := hg 4 (by omega)
  have e5 := hg 5 (by omega)
  have hb := n_crossings (c := (0, 0)) hg hG hx h1
  have h6 := (sl_at hG h1).2.2.1
  have hct := fb_ct_le (fun p => decide (oth a k p ≠ 0)) (sl a k)
  have hp := n_placeOfCrossing (c := (0, 0)) hg hG hx h1 (i := y) (by omega)
  rw [hq] at hp
  have ho := n_otherAt (c := (0, 0)) hg hG hx (rfl : (q : Int) = (q : Int)) h1 h3
  obtain ⟨zq, hzq⟩ : ∃ zq : Int, zq = (q : Int) := ⟨_, rfl⟩
  rw [← hzq] at hp ho
  obtain ⟨zn, hzn⟩ : ∃ zn : Int, zn = ((fb_ct (fun p => decide (oth a k p ≠ 0)) (sl a k) : Nat) : Int) := ⟨_, rfl⟩
  rw [← hzn] at hb h2
  generalize ((oth a k q : Nat) : Int) - 1 = zo at ho ⊢
  refine xCallW (N := 3) (M2 := m_M_crossingSlot) (pc2 := 2) (ls2 := [some (eR 1), some (eI x), some (eI y)]) (st2 := []) (y := m_M_noSlot) (as := [some (eR 1), some (eI x)]) (w2 := ([eA 0 964 g, mZ P, eA 0 144 mk, eA 0 24 fr], c)) rfl (z_noSlot hg ⟨hG, hV, hO, hT, hM⟩ hx h1) ?_
  refine xEqT (N := 1) (x := 0) (y := 0) (A := ev m_M_crossingSlot 8 [some (eR 1), some (eI x), some (eI y)] [] ([eA 0 964 g, mZ (eUp P 10 0), eA 0 144 mk, eA 0 24 fr], c)) (B := ev m_M_crossingSlot 27 [some (eR 1), some (eI x), some (eI y)] [] ([eA 0 964 g, mZ (eUp P 10 0), eA 0 144 mk, eA 0 24 fr], c)) rfl (show wr 0 = 0 by decide) (show wr 0 = 0 by decide) (by decide) ?_
  refine xCall (N := 7) (M2 := m_M_crossingSlot) (pc2 := 16) (ls2 := [some (eR 1), some (eI x), some (eI y)]) (st2 := [eI 0, eI y, eR 1]) (y := m_M_crossings) (as := [some (eR 0), some (eI x)]) (w2 := ([eA 0 964 g, mZ (eUp P 10 0), eA 0 144 mk, eA 0 24 fr], c)) rfl (rowRd hb rfl rfl) ?_
  refine xCallW (N := 3) (M2 := m_M_crossingSlot) (pc2 := 21) (ls2 := [some (eR 1), some (eI x), some (eI y)]) (st2 := []) (y := m_M_out) (as := [some (eR 1), some (eI y), some (eI 0), some (eI (zn - 1))]) (w2 := ([eA 0 964 g, mZ (eUp P 10 0), eA 0 144 mk, eA 0 24 fr], c)) rfl (z_out (by omega) (by omega) (by omega) (by omega)) ?_
  refine xEqT (N := 1) (x := 0) (y := 0) (A := ev m_M_crossingSlot 29 [some (eR 1), some (eI x), some (eI y)] [] ([eA 0 964 g, mZ (eUp P 10 0), eA 0 144 mk, eA 0 24 fr], c)) (B := ev m_M_crossingSlot 27 [some (eR 1), some (eI x), some (eI y)] [] ([eA 0 964 g, mZ (eUp P 10 0), eA 0 144 mk, eA 0 24 fr], c)) rfl (show wr 0 = 0 by decide) (show wr 0 = 0 by decide) (by decide) ?_
  refine xCall (N := 8) (M2 := m_M_crossingSlot) (pc2 := 40) (ls2 := [some (eR 1), some (eI x), some (eI y)]) (st2 := [eI x, eR 0]) (y := m_M_placeOfCrossing) (as := [some (eR 0), some (eI x), some (eI y)]) (w2 := ([eA 0 964 g, mZ (eUp P 10 0), eA 0 144 mk, eA 0 24 fr], c)) rfl (rowRd hp rfl rfl) ?_
  refine xCall (N := 1) (M2 := m_M_crossingSlot) (pc2 := 43) (ls2 := [some (eR 1), some (eI x), some (eI y)]) (st2 := []) (y := m_M_otherAt) (as := [some (eR 0), some (eI x), some (eI zq)]) (w2 := ([eA 0 964 g, mZ (eUp P 10 0), eA 0 144 mk, eA 0 24 fr], c)) rfl (rowRd ho rfl rfl) ?_
  refine xSeg (N := 1) (r := some (.inl (some (eI zo)), ([eA 0 964 g, mZ (eUp P 10 0), eA 0 144 mk, eA 0 24 fr], c))) rfl ?_
  first | rfl | exact lf hzq
theorem z_crossingSlotY {g mk fr P : Nat → Int} {a : eRow} {c : Nat × Nat} (hg : rg g a) (hI : iA a) {x : Int} {k : Nat} (hx : x = (k : Int)) (h1 : k < a 3) {y : Int} (by_ : -2147483648 ≤ y ∧ y < 2147483648) (h2 : ¬ (0 ≤ y ∧ y < ((fb_ct (fun p => decide (oth a k p ≠ 0)) (sl a k) : Nat) : Int))) : ev m_M_crossingSlot 0 [some (eR 1), some (eI x), some (eI y)] [] ([eA 0 964 g, mZ P, eA 0 144 mk, eA 0 24 fr], c) = some (.inl (some (eI (0))), ([eA 0 964 g, mZ (eUp P 10 2), eA 0 144 mk, eA 0 24 fr], c)) := by
  obtain ⟨hG, hV, hO, hT, hM⟩ := hI
  have bG := hG.1
  have bV := hV.1
  have b5 := iT_24 bG.2.2.2.2 hT
  have e0 := hg 0 (by omega)
  have e1 := hg 1 (by omega)
  have e2 := hg 2 (by omega)
  have e3 := hg 3 (by omega)
  have e4 := hg 4 (by omega)
  have e5 := hg 5 (by omega)
  have hb := n_crossings (c := (0, 0)) hg hG hx h1
  have h6 := (sl_at hG h1).2.2.1
  have hct := fb_ct_le (fun p => decide (oth a k p ≠ 0)) (sl a k)
  obtain ⟨zn, hzn⟩ : ∃ zn : Int, zn = ((fb_ct (fun p => decide (oth a k p ≠ 0)) (sl a k) : Nat) : Int) := ⟨_, rfl⟩
  rw [← hzn] at hb h2
  refine xCallW (N := 3) (M2 := m_M_crossingSlot) (pc2 := 2) (ls2 := [some (eR 1), some (eI x), some (eI y)]) (st2 := []) (y := m_M_noSlot) (as := [some (eR 1), some (eI x)]) (w2 := ([eA 0 964 g, mZ P, eA 0 144 mk, eA 0 24 fr], c)) rfl (z_noSlot hg ⟨hG, hV, hO, hT, hM⟩ hx h1) ?_
  refine xEqT (N := 1) (x := 0) (y := 0) (A := ev m_M_crossingSlot 8 [some (eR 1), some (eI x), some (eI y)] [] ([eA 0 964 g, mZ (eUp P 10 0), eA 0 144 mk, eA 0 24 fr], c)) (B := ev m_M_crossingSlot 27 [some (eR 1), some (eI x), some (eI y)] [] ([eA 0 964 g, mZ (eUp P 10 0), eA 0 144 mk, eA 0 24 fr], c)) rfl (show wr 0 = 0 by decide) (show wr 0 = 0 by decide) (by decide) ?_
  refine xCall (N := 7) (M2 := m_M_crossingSlot) (pc2 := 16) (ls2 := [some (eR 1), some (eI x), some (eI y)]) (st2 := [eI 0, eI y, eR 1]) (y := m_M_crossings) (as := [some (eR 0), some (eI x)]) (w2 := ([eA 0 964 g, mZ (eUp P 10 0), eA 0 144 mk, eA 0 24 fr], c)) rfl (rowRd hb rfl rfl) ?_
  refine xCallW (N := 3) (M2 := m_M_crossingSlot) (pc2 := 21) (ls2 := [some (eR 1), some (eI x), some (eI y)]) (st2 := []) (y := m_M_out) (as := [some (eR 1), some (eI y), some (eI 0), some (eI (zn - 1))]) (w2 := ([eA 0 964 g, mZ (eUp P 10 0), eA 0 144 mk, eA 0 24 fr], c)) rfl (z_outX (by omega) (by omega) (by omega) (by omega)) ?_
  refine xEqF (N := 1) (x := 1) (y := 0) (A := ev m_M_crossingSlot 29 [some (eR 1), some (eI x), some (eI y)] [] ([eA 0 964 g, mZ (eUp P 10 2), eA 0 144 mk, eA 0 24 fr], c)) (B := ev m_M_crossingSlot 27 [some (eR 1), some (eI x), some (eI y)] [] ([eA 0 964 g, mZ (eUp P 10 2), eA 0 144 mk, eA 0 24 fr], c)) rfl (show wr 1 = 1 by decide) (show wr 0 = 0 by decide) (by decide) ?_
  refine xSeg (N := 2) (r := some (.inl (some (eI 0)), ([eA 0 964 g, mZ (eUp P 10 2), eA 0 144 mk, eA 0 24 fr], c))) rfl ?_
  rfl
theorem z_crossingSlotX {g mk fr P : Nat → Int} {a : eRow} {c : Nat × Nat} (hg : rg g a) (hI : iA a) {x : Int} (bx : -2147483648 ≤ x ∧ x < 2147483648) (h : ¬ (0 ≤ x ∧ x < (a 3 : Int))) {y : Int} : ev m_M_crossingSlot 0 [some (eR 1), some (eI x), some (eI y)] [] ([eA 0 964 g, mZ P, eA 0 144 mk, eA 0 24 fr], c) = some (.inl (some (eI (0))), ([eA 0 964 g, mZ (eUp P 10 1), eA 0 144 mk, eA 0 24 fr], c)) := by
  obtain ⟨hG, hV, hO, hT, hM⟩ := hI
  have bG := hG.1
  have bV := hV.1
  have b5 := iT_24 bG.2.2.2.2 hT
  have e0 := hg 0 (by omega)
  have e1 := hg 1 (by omega)
  have e2 := hg 2 (by omega)
  have e3 := hg 3 (by omega)
  have e4 := hg 4 (by omega)
  have e5 := hg 5 (by omega)
  refine xCallW (N := 3) (M2 := m_M_crossingSlot) (pc2 := 2) (ls2 := [some (eR 1), some (eI x), some (eI y)]) (st2 := []) (y := m_M_noSlot) (as := [some (eR 1), some (eI x)]) (w2 := ([eA 0 964 g, mZ P, eA 0 144 mk, eA 0 24 fr], c)) rfl (z_noSlotX hg ⟨hG, hV, hO, hT, hM⟩ bx h) ?_
  refine xEqF (N := 1) (x := 1) (y := 0) (A := ev m_M_crossingSlot 8 [some (eR 1), some (eI x), some (eI y)] [] ([eA 0 964 g, mZ (eUp P 10 1), eA 0 144 mk, eA 0 24 fr], c)) (B := ev m_M_crossingSlot 27 [some (eR 1), some (eI x), some (eI y)] [] ([eA 0 964 g, mZ (eUp P 10 1), eA 0 144 mk, eA 0 24 fr], c)) rfl (show wr 1 = 1 by decide) (show wr 0 = 0 by decide) (by decide) ?_
  refine xSeg (N := 2) (r := some (.inl (some (eI 0)), ([eA 0 964 g, mZ (eUp P 10 1), eA 0 144 mk, eA 0 24 fr], c))) rfl ?_
  rfl
theorem z_letterOf {g mk fr P : Nat → Int} {a : eRow} {c : Nat × Nat} (hg : rg g a) (hI : iA a) {x : Int} {w : Nat} (hx : x = (w : Int)) (h1 : w < a 2) {y : Int} {p : Nat} (hy : y = (p : Int)) (h2 : p < wl a w) : ev m_M_letterOf 0 [some (eR 1), some (eI x), some (eI y)] [] ([eA 0 964 g, mZ P, eA 0 144 mk, eA 0 24 fr], c) = some (.inl (some (eI (((97 + lt a w p : Nat) : Int)))), ([eA 0 964 g, mZ (eUp P 10 0), eA 0 144 mk, eA 0 24 fr], c)) := by
  obtain ⟨hG, hV, hO, hT, hM⟩ := hI
  have bG := hG.1
  have bV := hV.1
  have b5 := iT_24 bG.2.2.2.2 hT
  have e0 := hg 0 (by omega)
  have e1 := hg 1 (by omega)
  have e2 := hg 2 (by omega)
  have e3 := hg 3 (by omega)
  have e4 := hg 4 (by omega)
  have e5 := hg 5 (by omega)
  have hw9 : g (118 + w) = ((wl a w : Nat) : Int) := hg (118 + w) (by omega)
  have hv9 := hV.2 w h1
  have hb := n_letter (c := (0, 0)) hg hx hy (by omega) hv9.2.1 h2 hv9.2.2.1.1 (hv9.2.2.2 p h2).1
  obtain ⟨zr, hzr⟩ : ∃ zr : Int, zr = ((lt a w p : Nat) : Int) := ⟨_, rfl⟩
  rw [← hzr] at hb
  refine xCallW (N := 3) (M2 := m_M_letterOf) (pc2 := 2) (ls2 := [some (eR 1), some (eI x), some (eI y)]) (st2 := []) (y := m_M_noWord) (as := [some (eR 1), some (eI x)]) (w2 := ([eA 0 964 g, mZ P, eA 0 144 mk, eA 0 24 fr], c)) rfl (z_noWord hg ⟨hG, hV, hO, hT, hM⟩ hx h1) ?_
  refine xEqT (N := 1) (x := 0) (y := 0) (A := ev m_M_letterOf 8 [some (eR 1), some (eI x), some (eI y)] [] ([eA 0 964 g, mZ (eUp P 10 0), eA 0 144 mk, eA 0 24 fr], c)) (B := ev m_M_letterOf 28 [some (eR 1), some (eI x), some (eI y)] [] ([eA 0 964 g, mZ (eUp P 10 0), eA 0 144 mk, eA 0 24 fr], c)) rfl (show wr 0 = 0 by decide) (show wr 0 = 0 by decide) (by decide) ?_
  refine xLd (N := 9) (n := 964) (i := 118 + x) (F := fun zq => ev m_M_letterOf 20 [some (eR 1), some (eI x), some (eI y)] [eI (g zq), eI 0, eI y, eR 1] ([eA 0 964 g, mZ (eUp P 10 0), eA 0 144 mk, eA 0 24 fr], c)) (k := 118 + w) rfl (wr_nat (by omega) (by omega)) (by omega) ?_
  refine xCallW (N := 3) (M2 := m_M_letterOf) (pc2 := 22) (ls2 := [some (eR 1), some (eI x), some (eI y)]) (st2 := []) (y := m_M_out) (as := [some (eR 1), some (eI y), some (eI 0), some (eI ((g (118 + w)) - 1))]) (w2 := ([eA 0 964 g, mZ (eUp P 10 0), eA 0 144 mk, eA 0 24 fr], c)) rfl (z_out (by omega) (by omega) (by omega) (by omega)) ?_
  refine xEqT (N := 1) (x := 0) (y := 0) (A := ev m_M_letterOf 30 [some (eR 1), some (eI x), some (eI y)] [] ([eA 0 964 g, mZ (eUp P 10 0), eA 0 144 mk, eA 0 24 fr], c)) (B := ev m_M_letterOf 28 [some (eR 1), some (eI x), some (eI y)] [] ([eA 0 964 g, mZ (eUp P 10 0), eA 0 144 mk, eA 0 24 fr], c)) rfl (show wr 0 = 0 by decide) (show wr 0 = 0 by decide) (by decide) ?_
  refine xCall (N := 6) (M2 := m_M_letterOf) (pc2 := 38) (ls2 := [some (eR 1), some (eI x), some (eI y)]) (st2 := [eI 97]) (y := m_M_letter) (as := [some (eR 0), some (eI x), some (eI y)]) (w2 := ([eA 0 964 g, mZ (eUp P 10 0), eA 0 144 mk, eA 0 24 fr], c)) rfl (rowRd hb rfl rfl) ?_
  refine xSeg (N := 2) (r := some (.inl (some (eI (97 + zr))), ([eA 0 964 g, mZ (eUp P 10 0), eA 0 144 mk, eA 0 24 fr], c))) rfl ?_
  exact lf (by omega)
theorem z_letterOfX {g mk fr P : Nat → Int} {a : eRow} {c : Nat × Nat} (hg : rg g a) (hI : iA a) {x : Int} (bx : -2147483648 ≤ x ∧ x < 2147483648) (h : ¬ (0 ≤ x ∧ x < (a 2 : Int))) {y : Int} : ev m_M_letterOf 0 [some (eR 1), some (eI x), some (eI y)] [] ([eA 0 964 g, mZ P, eA 0 144 mk, eA 0 24 fr], c) = some (.inl (some (eI (0))), ([eA 0 964 g, mZ (eUp P 10 1), eA 0 144 mk, eA 0 24 fr], c)) := by
  obtain ⟨hG, hV, hO, hT, hM⟩ := hI
  have bG := hG.1
  have bV := hV.1
  have b5 := iT_24 bG.2.2.2.2 hT
  have e0 := hg 0 (by omega)
  have e1 := hg 1 (by omega)
  have e2 := hg 2 (by omega)
  have e3 := hg 3 (by omega)
  have e4 := hg 4 (by omega)
  have e5 := hg 5 (by omega)
  refine xCallW (N := 3) (M2 := m_M_letterOf) (pc2 := 2) (ls2 := [some (eR 1), some (eI x), some (eI y)]) (st2 := []) (y := m_M_noWord) (as := [some (eR 1), some (eI x)]) (w2 := ([eA 0 964 g, mZ P, eA 0 144 mk, eA 0 24 fr], c)) rfl (z_noWordX hg ⟨hG, hV, hO, hT, hM⟩ bx h) ?_
  refine xEqF (N := 1) (x := 1) (y := 0) (A := ev m_M_letterOf 8 [some (eR 1), some (eI x), some (eI y)] [] ([eA 0 964 g, mZ (eUp P 10 1), eA 0 144 mk, eA 0 24 fr], c)) (B := ev m_M_letterOf 28 [some (eR 1), some (eI x), some (eI y)] [] ([eA 0 964 g, mZ (eUp P 10 1), eA 0 144 mk, eA 0 24 fr], c)) rfl (show wr 1 = 1 by decide) (show wr 0 = 0 by decide) (by decide) ?_
  refine xSeg (N := 2) (r := some (.inl (some (eI 0)), ([eA 0 964 g, mZ (eUp P 10 1), eA 0 144 mk, eA 0 24 fr], c))) rfl ?_
  rfl
theorem z_letterOfY {g mk fr P : Nat → Int} {a : eRow} {c : Nat × Nat} (hg : rg g a) (hI : iA a) {x : Int} {w : Nat} (hx : x = (w : Int)) (h1 : w < a 2) {y : Int} (by_ : -2147483648 ≤ y ∧ y < 2147483648) (h2 : ¬ (0 ≤ y ∧ y < (wl a w : Int))) : ev m_M_letterOf 0 [some (eR 1), some (eI x), some (eI y)] [] ([eA 0 964 g, mZ P, eA 0 144 mk, eA 0 24 fr], c) = some (.inl (some (eI (0))), ([eA 0 964 g, mZ (eUp P 10 2), eA 0 144 mk, eA 0 24 fr], c)) := by
  obtain ⟨hG, hV, hO, hT, hM⟩ := hI
  have bG := hG.1
  have bV := hV.1
  have b5 := iT_24 bG.2.2.2.2 hT
  have e0 := hg 0 (by omega)
  have e1 := hg 1 (by omega)
  have e2 := hg 2 (by omega)
  have e3 := hg 3 (by omega)
  have e4 := hg 4 (by omega)
  have e5 := hg 5 (by omega)
  have hw9 : g (118 + w) = ((wl a w : Nat) : Int) := hg (118 + w) (by omega)
  have hv9 := hV.2 w h1
  refine xCallW (N := 3) (M2 := m_M_letterOf) (pc2 := 2) (ls2 := [some (eR 1), some (eI x), some (eI y)]) (st2 := []) (y := m_M_noWord) (as := [some (eR 1), some (eI x)]) (w2 := ([eA 0 964 g, mZ P, eA 0 144 mk, eA 0 24 fr], c)) rfl (z_noWord hg ⟨hG, hV, hO, hT, hM⟩ hx h1) ?_
  refine xEqT (N := 1) (x := 0) (y := 0) (A := ev m_M_letterOf 8 [some (eR 1), some (eI x), some (eI y)] [] ([eA 0 964 g, mZ (eUp P 10 0), eA 0 144 mk, eA 0 24 fr], c)) (B := ev m_M_letterOf 28 [some (eR 1), some (eI x), some (eI y)] [] ([eA 0 964 g, mZ (eUp P 10 0), eA 0 144 mk, eA 0 24 fr], c)) rfl (show wr 0 = 0 by decide) (show wr 0 = 0 by decide) (by decide) ?_
  refine xLd (N := 9) (n := 964) (i := 118 + x) (F := fun zq => ev m_M_letterOf 20 [some (eR 1), some (eI x), some (eI y)] [eI (g zq), eI 0, eI y, eR 1] ([eA 0 964 g, mZ (eUp P 10 0), eA 0 144 mk, eA 0 24 fr], c)) (k := 118 + w) rfl (wr_nat (by omega) (by omega)) (by omega) ?_
  refine xCallW (N := 3) (M2 := m_M_letterOf) (pc2 := 22) (ls2 := [some (eR 1), some (eI x), some (eI y)]) (st2 := []) (y := m_M_out) (as := [some (eR 1), some (eI y), some (eI 0), some (eI ((g (118 + w)) - 1))]) (w2 := ([eA 0 964 g, mZ (eUp P 10 0), eA 0 144 mk, eA 0 24 fr], c)) rfl (z_outX (by omega) (by omega) (by omega) (by omega)) ?_
  refine xEqF (N := 1) (x := 1) (y := 0) (A := ev m_M_letterOf 30 [some (eR 1), some (eI x), some (eI y)] [] ([eA 0 964 g, mZ (eUp P 10 2), eA 0 144 mk, eA 0 24 fr], c)) (B := ev m_M_letterOf 28 [some (eR 1), some (eI x), some (eI y)] [] ([eA 0 964 g, mZ (eUp P 10 2), eA 0 144 mk, eA 0 24 fr], c)) rfl (show wr 1 = 1 by decide) (show wr 0 = 0 by decide) (by decide) ?_
  refine xSeg (N := 2) (r := some (.inl (some (eI 0)), ([eA 0 964 g, mZ (eUp P 10 2), eA 0 144 mk, eA 0 24 fr], c))) rfl ?_
  rfl
theorem z_candidateAtY {g mk fr P : Nat → Int} {a : eRow} {c : Nat × Nat} (hg : rg g a) (hI : iA a) {x : Int} {k : Nat} (hx : x = (k : Int)) (h1 : k < a 3) {y : Int} (by_ : -2147483648 ≤ y ∧ y < 2147483648) (h2 : ¬ (0 ≤ y ∧ y < ((pc 30 (op a k) : Nat) : Int))) : ev m_M_candidateAt 0 [some (eR 1), some (eI x), some (eI y)] [] ([eA 0 964 g, mZ P, eA 0 144 mk, eA 0 24 fr], c) = some (.inl (some (eI (0))), ([eA 0 964 g, mZ (eUp P 10 2), eA 0 144 mk, eA 0 24 fr], c)) := by
  obtain ⟨hG, hV, hO, hT, hM⟩ := hI
  have bG := hG.1
  have bV := hV.1
  have b5 := iT_24 bG.2.2.2.2 hT
  have e0 := hg 0 (by omega)
  have e1 := hg 1 (by omega)
  have e2 := hg 2 (by omega)
  have e3 := hg 3 (by omega)
  have e4 := hg 4 (by omega)
  have e5 := hg 5 (by omega)
  have hb := n_countOf (c := (0, 0)) hg hx (by omega) (hO k h1).1
  have hct := pc_le 30 (op a k)
  obtain ⟨zn, hzn⟩ : ∃ zn : Int, zn = ((pc 30 (op a k) : Nat) : Int) := ⟨_, rfl⟩
  rw [← hzn] at hb h2
  refine xCallW (N := 3) (M2 := m_M_candidateAt) (pc2 := 2) (ls2 := [some (eR 1), some (eI x), some (eI y)]) (st2 := []) (y := m_M_noSlot) (as := [some (eR 1), some (eI x)]) (w2 := ([eA 0 964 g, mZ P, eA 0 144 mk, eA 0 24 fr], c)) rfl (z_noSlot hg ⟨hG, hV, hO, hT, hM⟩ hx h1) ?_
  refine xEqT (N := 1) (x := 0) (y := 0) (A := ev m_M_candidateAt 8 [some (eR 1), some (eI x), some (eI y)] [] ([eA 0 964 g, mZ (eUp P 10 0), eA 0 144 mk, eA 0 24 fr], c)) (B := ev m_M_candidateAt 27 [some (eR 1), some (eI x), some (eI y)] [] ([eA 0 964 g, mZ (eUp P 10 0), eA 0 144 mk, eA 0 24 fr], c)) rfl (show wr 0 = 0 by decide) (show wr 0 = 0 by decide) (by decide) ?_
  refine xCall (N := 7) (M2 := m_M_candidateAt) (pc2 := 16) (ls2 := [some (eR 1), some (eI x), some (eI y)]) (st2 := [eI 0, eI y, eR 1]) (y := m_M_countOf) (as := [some (eR 0), some (eI x)]) (w2 := ([eA 0 964 g, mZ (eUp P 10 0), eA 0 144 mk, eA 0 24 fr], c)) rfl (rowRd hb rfl rfl) ?_
  refine xCallW (N := 3) (M2 := m_M_candidateAt) (pc2 := 21) (ls2 := [some (eR 1), some (eI x), some (eI y)]) (st2 := []) (y := m_M_out) (as := [some (eR 1), some (eI y), some (eI 0), some (eI (zn - 1))]) (w2 := ([eA 0 964 g, mZ (eUp P 10 0), eA 0 144 mk, eA 0 24 fr], c)) rfl (z_outX (by omega) (by omega) (by omega) (by omega)) ?_
  refine xEqF (N := 1) (x := 1) (y := 0) (A := ev m_M_candidateAt 29 [some (eR 1), some (eI x), some (eI y)] [] ([eA 0 964 g, mZ (eUp P 10 2), eA 0 144 mk, eA 0 24 fr], c)) (B := ev m_M_candidateAt 27 [some (eR 1), some (eI x), some (eI y)] [] ([eA 0 964 g, mZ (eUp P 10 2), eA 0 144 mk, eA 0 24 fr], c)) rfl (show wr 1 = 1 by decide) (show wr 0 = 0 by decide) (by decide) ?_
  refine xSeg (N := 2) (r := some (.inl (some (eI 0)), ([eA 0 964 g, mZ (eUp P 10 2), eA 0 144 mk, eA 0 24 fr], c))) rfl ?_
  rfl
theorem z_candidateAtX {g mk fr P : Nat → Int} {a : eRow} {c : Nat × Nat} (hg : rg g a) (hI : iA a) {x : Int} (bx : -2147483648 ≤ x ∧ x < 2147483648) (h : ¬ (0 ≤ x ∧ x < (a 3 : Int))) {y : Int} : ev m_M_candidateAt 0 [some (eR 1), some (eI x), some (eI y)] [] ([eA 0 964 g, mZ P, eA 0 144 mk, eA 0 24 fr], c) = some (.inl (some (eI (0))), ([eA 0 964 g, mZ (eUp P 10 1), eA 0 144 mk, eA 0 24 fr], c)) := by
  obtain ⟨hG, hV, hO, hT, hM⟩ := hI
  have bG := hG.1
  have bV := hV.1
  have b5 := iT_24 bG.2.2.2.2 hT
  have e0 := hg 0 (by omega)
  have e1 := hg 1 (by omega)
  have e2 := hg 2 (by omega)
  have e3 := hg 3 (by omega)
  have e4 := hg 4 (by omega)
  have e5 := hg 5 (by omega)
  refine xCallW (N := 3) (M2 := m_M_candidateAt) (pc2 := 2) (ls2 := [some (eR 1), some (eI x), some (eI y)]) (st2 := []) (y := m_M_noSlot) (as := [some (eR 1), some (eI x)]) (w2 := ([eA 0 964 g, mZ P, eA 0 144 mk, eA 0 24 fr], c)) rfl (z_noSlotX hg ⟨hG, hV, hO, hT, hM⟩ bx h) ?_
  refine xEqF (N := 1) (x := 1) (y := 0) (A := ev m_M_candidateAt 8 [some (eR 1), some (eI x), some (eI y)] [] ([eA 0 964 g, mZ (eUp P 10 1), eA 0 144 mk, eA 0 24 fr], c)) (B := ev m_M_candidateAt 27 [some (eR 1), some (eI x), some (eI y)] [] ([eA 0 964 g, mZ (eUp P 10 1), eA 0 144 mk, eA 0 24 fr], c)) rfl (show wr 1 = 1 by decide) (show wr 0 = 0 by decide) (by decide) ?_
  refine xSeg (N := 2) (r := some (.inl (some (eI 0)), ([eA 0 964 g, mZ (eUp P 10 1), eA 0 144 mk, eA 0 24 fr], c))) rfl ?_
  rfl
