/-! The model reads a cell; a block, a letter, back, solve. -/
def lcR (B : Nat → Nat) (n : Nat) (a : eRow) : zR Nat → zR Nat
  | .inl z => .inl z
  | .inr e => match celS B n a e with
    | .inl z => .inl z
    | .inr _ => .inr (tkE B n e)
theorem lcR_L {B : Nat → Nat} {n e : Nat} {a : eRow} {z : Nat × Nat} (h : celS B n a e = .inl z) : lcR B n a (.inr e) = .inl z := by unfold lcR; dsimp only; rw [h]
theorem lcR_R {B : Nat → Nat} {n e : Nat} {a : eRow} {q : (Nat × Nat) × Nat} (h : celS B n a e = .inr q) : lcR B n a (.inr e) = .inr (tkE B n e) := by unfold lcR; dsimp only; rw [h]
theorem nuS_lk {B : Nat → Nat} {n e lo hi : Nat} : nuS B n e lo hi 2 = (match lkR B n lo hi (.inr e) with
    | .inl z => .inl z
    | .inr _ => .inr (tkC B n e, tkE B n e)) := by
  unfold nuS lkR
  dsimp only
  split
  · split <;> rfl
  · rfl
theorem lkR_r {B : Nat → Nat} {n lo hi e e' : Nat} (h : lkR B n lo hi (.inr e) = .inr e') : e' = e ∧ tkK B n e = 2 ∧ lo ≤ tkC B n e ∧ tkC B n e < hi := by
  unfold lkR at h
  dsimp only at h
  split at h
  · split at h
    · cases h; rename_i u1 u2; exact ⟨rfl, u1, u2⟩
    · cases h
  · cases h
theorem lc_cases {B : Nat → Nat} {n : Nat} {a : eRow} : ∀ (r : zR Nat), (∃ z, lkR B n 0 (a 1) (nxR B n (lkR B n 0 (a 0) r)) = .inl z ∧ lcR B n a r = .inl z) ∨ (∃ e, r = .inr e ∧ lkR B n 0 (a 1) (nxR B n (lkR B n 0 (a 0) r)) = .inr (tkE B n e) ∧ lkR B n 0 (a 0) r = .inr e ∧ celS B n a e = (if a (16 + (6 * tkC B n (tkE B n e) + tkC B n e)) = 0 then .inr ((tkC B n e, tkC B n (tkE B n e)), tkE B n (tkE B n e)) else .inl (3, tkS B n (tkE B n e))) ∧ tkC B n e < a 0 ∧ tkC B n (tkE B n e) < a 1)
  | .inl z => Or.inl ⟨z, rfl, rfl⟩
  | .inr e => by
    cases h1 : lkR B n 0 (a 0) (.inr e) with
    | inl z =>
      refine Or.inl ⟨z, rfl, ?_⟩
      refine lcR_L ?_
      unfold celS
      rw [nuS_lk, h1]
    | inr e1 =>
      obtain ⟨rfl, a1, a2, a3⟩ := lkR_r h1
      cases h2 : lkR B n 0 (a 1) (.inr (tkE B n e1)) with
      | inl z =>
        refine Or.inl ⟨z, h2, ?_⟩
        refine lcR_L ?_
        unfold celS
        rw [nuS_lk, h1]
        dsimp only
        rw [nuS_lk, h2]
      | inr e2 =>
        obtain ⟨rfl, b1, b2, b3⟩ := lkR_r h2
        refine Or.inr ⟨e1, rfl, h2, rfl, ?_, a3, b3⟩
        unfold celS
        rw [nuS_lk, h1]
        dsimp only
        rw [nuS_lk, h2]
theorem rg_eUp {g : Nat → Int} {a : eRow} {i v : Nat} {x : Int} (hg : rg g a) (hx : x = (v : Int)) : rg (eUp g i x) (up a i v) := fun j hj => by
  by_cases h : j = i
  · subst h; rw [eUp_at, up_at]; exact hx
  · rw [eUp_ne h, up_ne h]; exact hg j hj
/-- the reader's answer to a statement -/
def mE (B : Nat → Nat) (n : Nat) (a : eRow) (P' g' : Nat → Int) : zR (eRow × Nat) → Prop
  | .inl z => mS B n P' (.inl z) ∧ rg g' a
  | .inr (a', e) => mS B n P' (.inr e) ∧ rg g' a'
section
variable {P g mk fr bY : Nat → Int} {B : Nat → Nat} {n : Nat} {c : Nat × Nat} {a : eRow}
set_option maxRecDepth 100000
theorem m_cell {r : zR Nat} (h : mS B n P r) (hn : n ≤ 600) (hby : ∀ i, i < n → bY i = (B i : Int) ∧ B i < 256) (hg : rg g a) (hG : iG a) : ∃ (P' : Nat → Int) (v : Int), mS B n P' (lcR B n a r) ∧ mU P P' ∧ (∀ e x y e2, r = .inr e → celS B n a e = .inr ((x, y), e2) → v = ((6 * y + x : Nat) : Int) ∧ 6 * y + x < 36 ∧ e2 = tkE B n (tkE B n e)) ∧ ev m_M_lookCell 0 [some (eR 0)] [] ([mQ P, eA 0 964 g, eA 0 144 mk, eA 0 24 fr, eA 0 600 bY], c) = some (.inl (some (eI v)), ([mQ P', eA 0 964 g, eA 0 144 mk, eA 0 24 fr, eA 0 600 bY], c)) := by
  have g0 := hG.1
  have r0 := hg 0 (by omega)
  have r1 := hg 1 (by omega)
  obtain ⟨P1, v1, s1, u1, w1, w2, q1⟩ := m_num (g := g) (mk := mk) (fr := fr) (c := c) (lo := 0) (hi := a 0) (l := 0) (h9 := g 0 - 1) h hn hby rfl (by omega) (by omega) (by omega)
  obtain ⟨P2, v2, s2, u2, y1, y2, q2⟩ := m_lk (g := g) (mk := mk) (fr := fr) (c := c) (lo := 0) (hi := a 1) (l := 0) (h9 := g 1 - 1) s1 hn hby rfl (by omega) (by omega) (by omega)
  rcases lc_cases (B := B) (n := n) (a := a) r with ⟨z, k1, k2⟩ | ⟨e, rfl, k1, k2, k3, k4, k5⟩
  · rw [k1] at s2
    rw [k2]
    have hne := mS_L s2
    obtain ⟨_, b18⟩ := mS_at s2
    obtain ⟨P3, v3, s3, u3, q3⟩ := m_chk (g := g) (mk := mk) (fr := fr) (bY := bY) (c := c) (b := true) (k := 3) (x := 1) (z := 3) s2 rfl rfl (by omega)
    refine ⟨P3, 0, s3, mU_tr (mU_tr u1 u2) u3, fun e x y e2 hr hc => ?_, ?_⟩
    · subst hr
      have : lcR B n a (.inr e) = .inr (tkE B n e) := lcR_R hc
      rw [this] at k2
      cases k2
    refine xLd (N := 6) (n := 964) (i := 0) (F := fun zq => ev m_M_lookCell 8 [some (eR 0)] [eI (g zq), eI 0, eR 0] ([mQ P, eA 0 964 g, eA 0 144 mk, eA 0 24 fr, eA 0 600 bY], c)) (k := 0) rfl (show wr 0 = ((0 : Nat) : Int) by decide) (by omega) ?_
    refine xCallW (N := 3) (M2 := m_M_lookCell) (pc2 := 10) (ls2 := [some (eR 0)]) (st2 := []) (y := m_M_number) (as := [some (eR 0), some (eI 0), some (eI ((g 0) - 1))]) (w2 := ([mQ P, eA 0 964 g, eA 0 144 mk, eA 0 24 fr, eA 0 600 bY], c)) rfl q1 ?_
    refine xLd (N := 7) (n := 964) (i := 1) (F := fun zq => ev m_M_lookCell 22 [some (eR 0), some (eI v1)] [eI (g zq), eI 0, eR 0] ([mQ P1, eA 0 964 g, eA 0 144 mk, eA 0 24 fr, eA 0 600 bY], c)) (k := 1) rfl (show wr 1 = ((1 : Nat) : Int) by decide) (by omega) ?_
    refine xCallW (N := 3) (M2 := m_M_lookCell) (pc2 := 24) (ls2 := [some (eR 0), some (eI v1)]) (st2 := []) (y := m_M_look) (as := [some (eR 0), some (eI 0), some (eI ((g 1) - 1))]) (w2 := ([mQ P1, eA 0 964 g, eA 0 144 mk, eA 0 24 fr, eA 0 600 bY], c)) rfl q2 ?_
    refine xEqF (N := 4) (x := P2 18) (y := 0) (A := ev m_M_lookCell 35 [some (eR 0), some (eI v1), some (eI v2)] [] ([mQ P2, eA 0 964 g, eA 0 144 mk, eA 0 24 fr, eA 0 600 bY], c)) (B := ev m_M_lookCell 47 [some (eR 0), some (eI v1), some (eI v2)] [] ([mQ P2, eA 0 964 g, eA 0 144 mk, eA 0 24 fr, eA 0 600 bY], c)) rfl (wr_id (by omega) (by omega)) (show wr 0 = 0 by decide) (by omega) ?_
    refine xEqF (N := 6) (x := P2 18) (y := 0) (A := ev m_M_lookCell 57 [some (eR 0), some (eI v1), some (eI v2), some (eI 0)] [eR 0] ([mQ P2, eA 0 964 g, eA 0 144 mk, eA 0 24 fr, eA 0 600 bY], c)) (B := ev m_M_lookCell 69 [some (eR 0), some (eI v1), some (eI v2), some (eI 0)] [eR 0] ([mQ P2, eA 0 964 g, eA 0 144 mk, eA 0 24 fr, eA 0 600 bY], c)) rfl (wr_id (by omega) (by omega)) (show wr 0 = 0 by decide) (by omega) ?_
    refine xCallW (N := 4) (M2 := m_M_lookCell) (pc2 := 75) (ls2 := [some (eR 0), some (eI v1), some (eI v2), some (eI 0)]) (st2 := []) (y := m_M_check) (as := [some (eR 0), some (eI 1), some (eI 3)]) (w2 := ([mQ P2, eA 0 964 g, eA 0 144 mk, eA 0 24 fr, eA 0 600 bY], c)) rfl q3 ?_
    refine xSeg (N := 3) (r := some (.inl (some (eI 0)), ([mQ P3, eA 0 964 g, eA 0 144 mk, eA 0 24 fr, eA 0 600 bY], c))) rfl ?_
    rfl
  · rw [k1] at s2
    obtain ⟨-, hv1⟩ := w1 e k2
    obtain ⟨-, hv2⟩ := y1 (tkE B n e) k1
    have h18 := s2.2.1
    have hcell : v2 = ((tkC B n (tkE B n e) : Nat) : Int) := hv2
    have r16 := hg (16 + (6 * tkC B n (tkE B n e) + tkC B n e)) (by omega)
    have b16 := (hG.2.1 (6 * tkC B n (tkE B n e) + tkC B n e) (by omega)).1
    generalize hx9 : tkC B n e = x9 at *
    generalize hy9 : tkC B n (tkE B n e) = y9 at *
    by_cases hb : a (16 + (6 * y9 + x9)) = 0
    · rw [if_pos hb] at k3
      obtain ⟨P3, v3, s3, u3, q3⟩ := m_chk (g := g) (mk := mk) (fr := fr) (bY := bY) (c := c) (b := true) (k := 3) (x := 1) (z := 3) s2 rfl rfl (by omega)
      have hL : lcR B n a (.inr e) = .inr (tkE B n e) := lcR_R k3
      rw [hL]
      refine ⟨P3, 6 * v2 + v1, s3, mU_tr (mU_tr u1 u2) u3, fun e' x y e2 hr hc => ?_, ?_⟩
      · cases hr
        rw [k3] at hc
        cases hc
        exact ⟨by omega, by omega, rfl⟩
      refine xLd (N := 6) (n := 964) (i := 0) (F := fun zq => ev m_M_lookCell 8 [some (eR 0)] [eI (g zq), eI 0, eR 0] ([mQ P, eA 0 964 g, eA 0 144 mk, eA 0 24 fr, eA 0 600 bY], c)) (k := 0) rfl (show wr 0 = ((0 : Nat) : Int) by decide) (by omega) ?_
      refine xCallW (N := 3) (M2 := m_M_lookCell) (pc2 := 10) (ls2 := [some (eR 0)]) (st2 := []) (y := m_M_number) (as := [some (eR 0), some (eI 0), some (eI ((g 0) - 1))]) (w2 := ([mQ P, eA 0 964 g, eA 0 144 mk, eA 0 24 fr, eA 0 600 bY], c)) rfl q1 ?_
      refine xLd (N := 7) (n := 964) (i := 1) (F := fun zq => ev m_M_lookCell 22 [some (eR 0), some (eI v1)] [eI (g zq), eI 0, eR 0] ([mQ P1, eA 0 964 g, eA 0 144 mk, eA 0 24 fr, eA 0 600 bY], c)) (k := 1) rfl (show wr 1 = ((1 : Nat) : Int) by decide) (by omega) ?_
      refine xCallW (N := 3) (M2 := m_M_lookCell) (pc2 := 24) (ls2 := [some (eR 0), some (eI v1)]) (st2 := []) (y := m_M_look) (as := [some (eR 0), some (eI 0), some (eI ((g 1) - 1))]) (w2 := ([mQ P1, eA 0 964 g, eA 0 144 mk, eA 0 24 fr, eA 0 600 bY], c)) rfl q2 ?_
      refine xEqT (N := 4) (x := P2 18) (y := 0) (A := ev m_M_lookCell 35 [some (eR 0), some (eI v1), some (eI v2)] [] ([mQ P2, eA 0 964 g, eA 0 144 mk, eA 0 24 fr, eA 0 600 bY], c)) (B := ev m_M_lookCell 47 [some (eR 0), some (eI v1), some (eI v2)] [] ([mQ P2, eA 0 964 g, eA 0 144 mk, eA 0 24 fr, eA 0 600 bY], c)) rfl (wr_id (by omega) (by omega)) (show wr 0 = 0 by decide) (by omega) ?_
      refine xCallI (N := 5) (v := 6 * v2 + v1) (M2 := m_M_lookCell) (pc2 := 41) (ls2 := [some (eR 0), some (eI v1), some (eI v2)]) (st2 := []) (y := m_M_cellOf) (as := [some (eR 1), some (eI v1), some (eI v2)]) (w2 := ([mQ P2, eA 0 964 g, eA 0 144 mk, eA 0 24 fr, eA 0 600 bY], c)) rfl n_cellOf (fun r41 hr41 => ?_)
      refine xEqT (N := 6) (x := P2 18) (y := 0) (A := ev m_M_lookCell 57 [some (eR 0), some (eI v1), some (eI v2), some (eI r41)] [eR 0] ([mQ P2, eA 0 964 g, eA 0 144 mk, eA 0 24 fr, eA 0 600 bY], c)) (B := ev m_M_lookCell 69 [some (eR 0), some (eI v1), some (eI v2), some (eI r41)] [eR 0] ([mQ P2, eA 0 964 g, eA 0 144 mk, eA 0 24 fr, eA 0 600 bY], c)) rfl (wr_id (by omega) (by omega)) (show wr 0 = 0 by decide) (by omega) ?_
      refine xLd (N := 6) (n := 964) (i := 16 + r41) (F := fun zq => ev m_M_lookCell 66 [some (eR 0), some (eI v1), some (eI v2), some (eI r41)] [eI (g zq), eR 0] ([mQ P2, eA 0 964 g, eA 0 144 mk, eA 0 24 fr, eA 0 600 bY], c)) (k := 16 + (6 * y9 + x9)) rfl (wr_nat (by omega) (by omega)) (by omega) ?_
      refine xEqT (N := 1) (x := g (16 + (6 * y9 + x9))) (y := 0) (A := ev m_M_lookCell 69 [some (eR 0), some (eI v1), some (eI v2), some (eI r41)] [eR 0] ([mQ P2, eA 0 964 g, eA 0 144 mk, eA 0 24 fr, eA 0 600 bY], c)) (B := ev m_M_lookCell 73 [some (eR 0), some (eI v1), some (eI v2), some (eI r41)] [eR 0] ([mQ P2, eA 0 964 g, eA 0 144 mk, eA 0 24 fr, eA 0 600 bY], c)) rfl (wr_id (by omega) (by omega)) (show wr 0 = 0 by decide) (by omega) ?_
      refine xCallW (N := 4) (M2 := m_M_lookCell) (pc2 := 75) (ls2 := [some (eR 0), some (eI v1), some (eI v2), some (eI r41)]) (st2 := []) (y := m_M_check) (as := [some (eR 0), some (eI 1), some (eI 3)]) (w2 := ([mQ P2, eA 0 964 g, eA 0 144 mk, eA 0 24 fr, eA 0 600 bY], c)) rfl q3 ?_
      refine xSeg (N := 3) (r := some (.inl (some (eI r41)), ([mQ P3, eA 0 964 g, eA 0 144 mk, eA 0 24 fr, eA 0 600 bY], c))) rfl ?_
      exact lf hr41
    · rw [if_neg hb] at k3
      obtain ⟨P3, v3, s3, u3, q3⟩ := m_chk (g := g) (mk := mk) (fr := fr) (bY := bY) (c := c) (b := false) (k := 3) (x := 0) (z := 3) s2 rfl rfl (by omega)
      have hL : lcR B n a (.inr e) = .inl (3, tkS B n (tkE B n e)) := lcR_L k3
      rw [hL]
      refine ⟨P3, 6 * v2 + v1, s3, mU_tr (mU_tr u1 u2) u3, fun e' x y e2 hr hc => ?_, ?_⟩
      · cases hr
        rw [k3] at hc
        cases hc
      refine xLd (N := 6) (n := 964) (i := 0) (F := fun zq => ev m_M_lookCell 8 [some (eR 0)] [eI (g zq), eI 0, eR 0] ([mQ P, eA 0 964 g, eA 0 144 mk, eA 0 24 fr, eA 0 600 bY], c)) (k := 0) rfl (show wr 0 = ((0 : Nat) : Int) by decide) (by omega) ?_
      refine xCallW (N := 3) (M2 := m_M_lookCell) (pc2 := 10) (ls2 := [some (eR 0)]) (st2 := []) (y := m_M_number) (as := [some (eR 0), some (eI 0), some (eI ((g 0) - 1))]) (w2 := ([mQ P, eA 0 964 g, eA 0 144 mk, eA 0 24 fr, eA 0 600 bY], c)) rfl q1 ?_
      refine xLd (N := 7) (n := 964) (i := 1) (F := fun zq => ev m_M_lookCell 22 [some (eR 0), some (eI v1)] [eI (g zq), eI 0, eR 0] ([mQ P1, eA 0 964 g, eA 0 144 mk, eA 0 24 fr, eA 0 600 bY], c)) (k := 1) rfl (show wr 1 = ((1 : Nat) : Int) by decide) (by omega) ?_
      refine xCallW (N := 3) (M2 := m_M_lookCell) (pc2 := 24) (ls2 := [some (eR 0), some (eI v1)]) (st2 := []) (y := m_M_look) (as := [some (eR 0), some (eI 0), some (eI ((g 1) - 1))]) (w2 := ([mQ P1, eA 0 964 g, eA 0 144 mk, eA 0 24 fr, eA 0 600 bY], c)) rfl q2 ?_
      refine xEqT (N := 4) (x := P2 18) (y := 0) (A := ev m_M_lookCell 35 [some (eR 0), some (eI v1), some (eI v2)] [] ([mQ P2, eA 0 964 g, eA 0 144 mk, eA 0 24 fr, eA 0 600 bY], c)) (B := ev m_M_lookCell 47 [some (eR 0), some (eI v1), some (eI v2)] [] ([mQ P2, eA 0 964 g, eA 0 144 mk, eA 0 24 fr, eA 0 600 bY], c)) rfl (wr_id (by omega) (by omega)) (show wr 0 = 0 by decide) (by omega) ?_
      refine xCallI (N := 5) (v := 6 * v2 + v1) (M2 := m_M_lookCell) (pc2 := 41) (ls2 := [some (eR 0), some (eI v1), some (eI v2)]) (st2 := []) (y := m_M_cellOf) (as := [some (eR 1), some (eI v1), some (eI v2)]) (w2 := ([mQ P2, eA 0 964 g, eA 0 144 mk, eA 0 24 fr, eA 0 600 bY], c)) rfl n_cellOf (fun r41 hr41 => ?_)
      refine xEqT (N := 6) (x := P2 18) (y := 0) (A := ev m_M_lookCell 57 [some (eR 0), some (eI v1), some (eI v2), some (eI r41)] [eR 0] ([mQ P2, eA 0 964 g, eA 0 144 mk, eA 0 24 fr, eA 0 600 bY], c)) (B := ev m_M_lookCell 69 [some (eR 0), some (eI v1), some (eI v2), some (eI r41)] [eR 0] ([mQ P2, eA 0 964 g, eA 0 144 mk, eA 0 24 fr, eA 0 600 bY], c)) rfl (wr_id (by omega) (by omega)) (show wr 0 = 0 by decide) (by omega) ?_
      refine xLd (N := 6) (n := 964) (i := 16 + r41) (F := fun zq => ev m_M_lookCell 66 [some (eR 0), some (eI v1), some (eI v2), some (eI r41)] [eI (g zq), eR 0] ([mQ P2, eA 0 964 g, eA 0 144 mk, eA 0 24 fr, eA 0 600 bY], c)) (k := 16 + (6 * y9 + x9)) rfl (wr_nat (by omega) (by omega)) (by omega) ?_
      refine xEqF (N := 1) (x := g (16 + (6 * y9 + x9))) (y := 0) (A := ev m_M_lookCell 69 [some (eR 0), some (eI v1), some (eI v2), some (eI r41)] [eR 0] ([mQ P2, eA 0 964 g, eA 0 144 mk, eA 0 24 fr, eA 0 600 bY], c)) (B := ev m_M_lookCell 73 [some (eR 0), some (eI v1), some (eI v2), some (eI r41)] [eR 0] ([mQ P2, eA 0 964 g, eA 0 144 mk, eA 0 24 fr, eA 0 600 bY], c)) rfl (wr_id (by omega) (by omega)) (show wr 0 = 0 by decide) (by omega) ?_
      refine xCallW (N := 3) (M2 := m_M_lookCell) (pc2 := 75) (ls2 := [some (eR 0), some (eI v1), some (eI v2), some (eI r41)]) (st2 := []) (y := m_M_check) (as := [some (eR 0), some (eI 0), some (eI 3)]) (w2 := ([mQ P2, eA 0 964 g, eA 0 144 mk, eA 0 24 fr, eA 0 600 bY], c)) rfl q3 ?_
      refine xSeg (N := 3) (r := some (.inl (some (eI r41)), ([mQ P3, eA 0 964 g, eA 0 144 mk, eA 0 24 fr, eA 0 600 bY], c))) rfl ?_
      exact lf hr41
theorem fin_cases {B : Nat → Nat} {n e : Nat} {a' : eRow} : (∃ z, nxR B n (fiR B n (.inr e)) = .inl z ∧ finS B n (.inr (a', e)) = .inl z) ∨ (nxR B n (fiR B n (.inr e)) = .inr (tkE B n e) ∧ finS B n (.inr (a', e)) = .inr (a', tkE B n e)) := by
  unfold fiR finS smS
  dsimp only
  by_cases h : tkK B n e = 3 ∧ B (tkS B n e) = 59
  · rw [if_pos h, if_pos h]; exact Or.inr ⟨rfl, rfl⟩
  · rw [if_neg h, if_neg h]; exact Or.inl ⟨_, rfl, rfl⟩
theorem m_rBlock {e : Nat} (h : mS B n P (.inr e)) (hn : n ≤ 600) (hby : ∀ i, i < n → bY i = (B i : Int) ∧ B i < 256) (hg : rg g a) (hI : iA a) : ∃ P' g' mk' fr' : Nat → Int, mE B n a P' g' (staS B n a (tkS B n e) (tkE B n e) 1) ∧ mU P P' ∧ ev m_M_readBlock 0 [some (eR 0)] [] ([mQ P, eA 0 964 g, eA 0 144 mk, eA 0 24 fr, eA 0 600 bY], c) = some (.inl none, ([mQ P', eA 0 964 g', eA 0 144 mk', eA 0 24 fr', eA 0 600 bY], c)) := by
  obtain ⟨hG, hV, hO, hT, hM⟩ := hI
  have r2 := hg 2 (by omega)
  have b2 := hV.1
  have g0 := hG.1
  obtain ⟨b, hb⟩ : ∃ b : Bool, b = !(decide (0 < a 2) || hvG a) := ⟨_, rfl⟩
  obtain ⟨zb, hzb⟩ : ∃ zb : Int, zb = bI b := ⟨_, rfl⟩
  obtain ⟨P1, v1, s1, u1, q1⟩ := m_chk (g := g) (mk := mk) (fr := fr) (bY := bY) (c := c) (b := b) (k := 6) (x := zb) (z := 6) h hzb rfl (by omega)
  obtain ⟨P2, s2, u2, q2⟩ := m_nx (g := g) (mk := mk) (fr := fr) (c := c) s1 hn hby
  obtain ⟨P3, v3, s3, u3, w3, q3⟩ := m_cell (mk := mk) (fr := fr) (c := c) s2 hn hby hg hG
  obtain ⟨P4, s4, u4, q4⟩ := m_nx (g := g) (mk := mk) (fr := fr) (c := c) s3 hn hby
  obtain ⟨P5, s5, u5, q5⟩ := m_fin (g := g) (mk := mk) (fr := fr) (c := c) s4 hn hby
  have u9 := mU_tr (mU_tr (mU_tr (mU_tr u1 u2) u3) u4) u5
  have hgv := n_noLetters (c := (0, 0)) hg hG
  have hgv2 : anyN (fun e => decide (a (52 + e) ≠ 0)) 36 = hvG a := rfl
  rw [hgv2] at hgv
  have hpre : ∀ R : eRes, (∀ z, z = zb → ev m_M_readBlock 25 [some (eR 0)] [eI z, eR 0] ([mQ P, eA 0 964 g, eA 0 144 mk, eA 0 24 fr, eA 0 600 bY], c) = R) → ev m_M_readBlock 0 [some (eR 0)] [] ([mQ P, eA 0 964 g, eA 0 144 mk, eA 0 24 fr, eA 0 600 bY], c) = R := fun R hR => by
    by_cases h2 : 0 < a 2
    · have hz0 : 0 = zb := by rw [hzb, hb, decide_eq_true h2]; rfl
      refine xLd (N := 5) (n := 964) (i := 2) (F := fun zq => ev m_M_readBlock 7 [some (eR 0)] [eI (g zq), eR 0] ([mQ P, eA 0 964 g, eA 0 144 mk, eA 0 24 fr, eA 0 600 bY], c)) (k := 2) rfl (show wr 2 = ((2 : Nat) : Int) by decide) (by omega) ?_
      refine xEqF (N := 1) (x := g 2) (y := 0) (A := ev m_M_readBlock 10 [some (eR 0)] [eR 0] ([mQ P, eA 0 964 g, eA 0 144 mk, eA 0 24 fr, eA 0 600 bY], c)) (B := ev m_M_readBlock 24 [some (eR 0)] [eR 0] ([mQ P, eA 0 964 g, eA 0 144 mk, eA 0 24 fr, eA 0 600 bY], c)) rfl (wr_id (by omega) (by omega)) (show wr 0 = 0 by decide) (by omega) ?_
      refine xSeg (N := 1) (r := ev m_M_readBlock 25 [some (eR 0)] [eI 0, eR 0] ([mQ P, eA 0 964 g, eA 0 144 mk, eA 0 24 fr, eA 0 600 bY], c)) rfl ?_
      exact hR _ hz0
    · cases hgg : hvG a with
      | true =>
        rw [hgg] at hgv hb
        have hz0 : 0 = zb := by rw [hzb, hb, Bool.or_true]; rfl
        refine xLd (N := 5) (n := 964) (i := 2) (F := fun zq => ev m_M_readBlock 7 [some (eR 0)] [eI (g zq), eR 0] ([mQ P, eA 0 964 g, eA 0 144 mk, eA 0 24 fr, eA 0 600 bY], c)) (k := 2) rfl (show wr 2 = ((2 : Nat) : Int) by decide) (by omega) ?_
        refine xEqT (N := 1) (x := g 2) (y := 0) (A := ev m_M_readBlock 10 [some (eR 0)] [eR 0] ([mQ P, eA 0 964 g, eA 0 144 mk, eA 0 24 fr, eA 0 600 bY], c)) (B := ev m_M_readBlock 24 [some (eR 0)] [eR 0] ([mQ P, eA 0 964 g, eA 0 144 mk, eA 0 24 fr, eA 0 600 bY], c)) rfl (wr_id (by omega) (by omega)) (show wr 0 = 0 by decide) (by omega) ?_
        refine xCall (N := 3) (M2 := m_M_readBlock) (pc2 := 14) (ls2 := [some (eR 0)]) (st2 := [eR 0]) (y := m_M_hasLetters) (as := [some (eR 1)]) (w2 := ([mQ P, eA 0 964 g, eA 0 144 mk, eA 0 24 fr, eA 0 600 bY], c)) rfl (nRd hgv rfl rfl rfl) ?_
        refine xEqF (N := 1) (x := 1) (y := 0) (A := ev m_M_readBlock 20 [some (eR 0)] [eR 0] ([mQ P, eA 0 964 g, eA 0 144 mk, eA 0 24 fr, eA 0 600 bY], c)) (B := ev m_M_readBlock 24 [some (eR 0)] [eR 0] ([mQ P, eA 0 964 g, eA 0 144 mk, eA 0 24 fr, eA 0 600 bY], c)) rfl (show wr 1 = 1 by decide) (show wr 0 = 0 by decide) (by decide) ?_
        refine xSeg (N := 1) (r := ev m_M_readBlock 25 [some (eR 0)] [eI 0, eR 0] ([mQ P, eA 0 964 g, eA 0 144 mk, eA 0 24 fr, eA 0 600 bY], c)) rfl ?_
        exact hR _ hz0
      | false =>
        rw [hgg] at hgv hb
        have hz0 : 1 = zb := by rw [hzb, hb, decide_eq_false h2]; rfl
        refine xLd (N := 5) (n := 964) (i := 2) (F := fun zq => ev m_M_readBlock 7 [some (eR 0)] [eI (g zq), eR 0] ([mQ P, eA 0 964 g, eA 0 144 mk, eA 0 24 fr, eA 0 600 bY], c)) (k := 2) rfl (show wr 2 = ((2 : Nat) : Int) by decide) (by omega) ?_
        refine xEqT (N := 1) (x := g 2) (y := 0) (A := ev m_M_readBlock 10 [some (eR 0)] [eR 0] ([mQ P, eA 0 964 g, eA 0 144 mk, eA 0 24 fr, eA 0 600 bY], c)) (B := ev m_M_readBlock 24 [some (eR 0)] [eR 0] ([mQ P, eA 0 964 g, eA 0 144 mk, eA 0 24 fr, eA 0 600 bY], c)) rfl (wr_id (by omega) (by omega)) (show wr 0 = 0 by decide) (by omega) ?_
        refine xCall (N := 3) (M2 := m_M_readBlock) (pc2 := 14) (ls2 := [some (eR 0)]) (st2 := [eR 0]) (y := m_M_hasLetters) (as := [some (eR 1)]) (w2 := ([mQ P, eA 0 964 g, eA 0 144 mk, eA 0 24 fr, eA 0 600 bY], c)) rfl (nRd hgv rfl rfl rfl) ?_
        refine xEqT (N := 1) (x := 0) (y := 0) (A := ev m_M_readBlock 20 [some (eR 0)] [eR 0] ([mQ P, eA 0 964 g, eA 0 144 mk, eA 0 24 fr, eA 0 600 bY], c)) (B := ev m_M_readBlock 24 [some (eR 0)] [eR 0] ([mQ P, eA 0 964 g, eA 0 144 mk, eA 0 24 fr, eA 0 600 bY], c)) rfl (show wr 0 = 0 by decide) (show wr 0 = 0 by decide) (by decide) ?_
        refine xSeg (N := 2) (r := ev m_M_readBlock 25 [some (eR 0)] [eI 1, eR 0] ([mQ P, eA 0 964 g, eA 0 144 mk, eA 0 24 fr, eA 0 600 bY], c)) rfl ?_
        exact hR _ hz0
  have hmid : ∀ R : eRes, ev m_M_readBlock 48 [some (eR 0), some (eI v3)] [] ([mQ P5, eA 0 964 g, eA 0 144 mk, eA 0 24 fr, eA 0 600 bY], c) = R → ev m_M_readBlock 0 [some (eR 0)] [] ([mQ P, eA 0 964 g, eA 0 144 mk, eA 0 24 fr, eA 0 600 bY], c) = R := fun R hR => by
    refine hpre R (fun z hz => ?_)
    rw [hz]
    refine xCallW (N := 2) (M2 := m_M_readBlock) (pc2 := 27) (ls2 := [some (eR 0)]) (st2 := []) (y := m_M_check) (as := [some (eR 0), some (eI zb), some (eI 6)]) (w2 := ([mQ P, eA 0 964 g, eA 0 144 mk, eA 0 24 fr, eA 0 600 bY], c)) rfl q1 ?_
    refine xCallWV (N := 3) (M2 := m_M_readBlock) (pc2 := 32) (ls2 := [some (eR 0)]) (st2 := []) (y := m_M_next) (as := [some (eR 0)]) (w2 := ([mQ P1, eA 0 964 g, eA 0 144 mk, eA 0 24 fr, eA 0 600 bY], c)) rfl q2 ?_
    refine xCallW (N := 2) (M2 := m_M_readBlock) (pc2 := 36) (ls2 := [some (eR 0)]) (st2 := []) (y := m_M_lookCell) (as := [some (eR 0)]) (w2 := ([mQ P2, eA 0 964 g, eA 0 144 mk, eA 0 24 fr, eA 0 600 bY], c)) rfl q3 ?_
    refine xCallWV (N := 3) (M2 := m_M_readBlock) (pc2 := 41) (ls2 := [some (eR 0), some (eI v3)]) (st2 := []) (y := m_M_next) (as := [some (eR 0)]) (w2 := ([mQ P3, eA 0 964 g, eA 0 144 mk, eA 0 24 fr, eA 0 600 bY], c)) rfl q4 ?_
    refine xCallWV (N := 2) (M2 := m_M_readBlock) (pc2 := 45) (ls2 := [some (eR 0), some (eI v3)]) (st2 := []) (y := m_M_finish) (as := [some (eR 0)]) (w2 := ([mQ P4, eA 0 964 g, eA 0 144 mk, eA 0 24 fr, eA 0 600 bY], c)) rfl q5 ?_
    exact hR
  have hbad : ∀ z, mS B n P5 (.inl z) → staS B n a (tkS B n e) (tkE B n e) 1 = .inl z → ∃ P' g' mk' fr' : Nat → Int, mE B n a P' g' (staS B n a (tkS B n e) (tkE B n e) 1) ∧ mU P P' ∧ ev m_M_readBlock 0 [some (eR 0)] [] ([mQ P, eA 0 964 g, eA 0 144 mk, eA 0 24 fr, eA 0 600 bY], c) = some (.inl none, ([mQ P', eA 0 964 g', eA 0 144 mk', eA 0 24 fr', eA 0 600 bY], c)) := fun z hs hst => by
    have hne := mS_L hs
    obtain ⟨_, b18⟩ := mS_at hs
    rw [hst]
    refine ⟨P5, g, mk, fr, ⟨hs, hg⟩, u9, hmid _ ?_⟩
    refine xEqF (N := 3) (x := P5 18) (y := 0) (A := ev m_M_readBlock 55 [some (eR 0), some (eI v3)] [] ([mQ P5, eA 0 964 g, eA 0 144 mk, eA 0 24 fr, eA 0 600 bY], c)) (B := ev m_M_readBlock 80 [some (eR 0), some (eI v3)] [] ([mQ P5, eA 0 964 g, eA 0 144 mk, eA 0 24 fr, eA 0 600 bY], c)) rfl (wr_id (by omega) (by omega)) (show wr 0 = 0 by decide) (by omega) ?_
    refine xSeg (N := 1) (r := some (.inl none, ([mQ P5, eA 0 964 g, eA 0 144 mk, eA 0 24 fr, eA 0 600 bY], c))) rfl ?_
    rfl
  cases hbb : b with
  | false =>
    rw [hbb] at s5 hb
    refine hbad (6, tkS B n e) s5 ?_
    have hcnd : 0 < a 2 ∨ hvG a = true := by
      cases h1 : decide (0 < a 2) with
      | true => exact Or.inl (of_decide_eq_true h1)
      | false =>
        cases h2 : hvG a with
        | true => exact Or.inr rfl
        | false => rw [h1, h2] at hb; cases hb
    show finS B n (match blkS B n a (tkS B n e) (tkE B n e) with | .inl x => .inl x | .inr ((x, y), e1) => .inr (bkA a (6 * y + x), e1)) = _
    unfold blkS
    rw [if_pos hcnd]
    rfl
  | true =>
    rw [hbb] at s5 hb
    have hcnd : ¬ (0 < a 2 ∨ hvG a = true) := fun h => by
      rcases h with h | h
      · rw [decide_eq_true h] at hb; cases hb
      · rw [h, Bool.or_true] at hb; cases hb
    have hst : ∀ q, celS B n a (tkE B n e) = q → staS B n a (tkS B n e) (tkE B n e) 1 = finS B n (match q with | .inl x => .inl x | .inr ((x, y), e1) => .inr (bkA a (6 * y + x), e1)) := fun q hq => by
      show finS B n (match blkS B n a (tkS B n e) (tkE B n e) with | .inl x => .inl x | .inr ((x, y), e1) => .inr (bkA a (6 * y + x), e1)) = _
      unfold blkS
      rw [if_neg hcnd, hq]
    cases hc : celS B n a (tkE B n e) with
    | inl z =>
      have hl : lcR B n a (.inr (tkE B n e)) = .inl z := lcR_L hc
      have s6 : mS B n P5 (nxR B n (fiR B n (nxR B n (lcR B n a (.inr (tkE B n e)))))) := s5
      rw [hl] at s6
      exact hbad z s6 (hst _ hc)
    | inr q =>
      obtain ⟨⟨x, y⟩, e2⟩ := q
      have hl : lcR B n a (.inr (tkE B n e)) = .inr (tkE B n (tkE B n e)) := lcR_R hc
      have s6 : mS B n P5 (nxR B n (fiR B n (nxR B n (lcR B n a (.inr (tkE B n e)))))) := s5
      rw [hl] at s6
      rw [hbb] at w3
      obtain ⟨hv3, hxy, he2⟩ := w3 (tkE B n e) x y e2 rfl hc
      have s7 : mS B n P5 (nxR B n (fiR B n (.inr e2))) := by rw [he2]; exact s6
      rcases fin_cases (B := B) (n := n) (e := e2) (a' := bkA a (6 * y + x)) with ⟨z, f1, f2⟩ | ⟨f1, f2⟩
      · rw [f1] at s7
        exact hbad z s7 ((hst _ hc).trans f2)
      · rw [f1] at s7
        rw [(hst _ hc).trans f2]
        obtain ⟨k1, k2⟩ := bk_all hG hV hxy
        obtain ⟨g1, n1, n2⟩ := n_makeSlots (g := eUp g (16 + (6 * y + x)) 1) (a := up a (16 + (6 * y + x)) 1) (c := (0, 0)) (rg_eUp hg rfl) (by rw [up_ne (by omega)]; omega) (by rw [up_ne (by omega)]; omega) (fun i hi => by
          by_cases hie : i = 6 * y + x
          · rw [hie, up_at]; exact Nat.le_refl 1
          · rw [up_ne (by omega)]; exact (hG.2.1 i hi).1)
        obtain ⟨g2, mk2, fr2, n3, n4⟩ := n_beginAnew (mk := mk) (fr := fr) (P := P5) (c := (0, 0)) n1 k1 k2
        refine ⟨P5, g2, mk2, fr2, ⟨s7, n3⟩, u9, hmid _ ?_⟩
        have h18 := s7.2.1
        generalize 6 * y + x = ce at *
        refine xEqT (N := 3) (x := P5 18) (y := 0) (A := ev m_M_readBlock 55 [some (eR 0), some (eI v3)] [] ([mQ P5, eA 0 964 g, eA 0 144 mk, eA 0 24 fr, eA 0 600 bY], c)) (B := ev m_M_readBlock 80 [some (eR 0), some (eI v3)] [] ([mQ P5, eA 0 964 g, eA 0 144 mk, eA 0 24 fr, eA 0 600 bY], c)) rfl (wr_id (by omega) (by omega)) (show wr 0 = 0 by decide) (by omega) ?_
        refine xLd (N := 7) (n := 964) (i := 16 + v3) (F := fun zq => ev m_M_readBlock 65 [some (eR 0), some (eI v3)] [] ([mQ P5, eA 0 964 (eUp g zq 1), eA 0 144 mk, eA 0 24 fr, eA 0 600 bY], c)) (k := 16 + ce) rfl (wr_nat (by omega) (by omega)) (by omega) ?_
        refine xCallV (N := 3) (M2 := m_M_readBlock) (pc2 := 69) (ls2 := [some (eR 0), some (eI v3)]) (st2 := []) (y := m_M_makeSlots) (as := [some (eR 1)]) (w2 := ([mQ P5, eA 0 964 (eUp g (16 + ce) 1), eA 0 144 mk, eA 0 24 fr, eA 0 600 bY], c)) rfl (nRd n2 rfl rfl rfl) ?_
        refine xCallWV (N := 4) (M2 := m_M_readBlock) (pc2 := 77) (ls2 := [some (eR 0), some (eI v3)]) (st2 := []) (y := m_M_beginAnew) (as := [some (eR 0), some (eR 1)]) (w2 := ([mQ P5, eA 0 964 g1, eA 0 144 mk, eA 0 24 fr, eA 0 600 bY], c)) rfl (nRow n4 rfl rfl rfl) ?_
        refine xSeg (N := 1) (r := some (.inl none, ([mQ P5, eA 0 964 g2, eA 0 144 mk2, eA 0 24 fr2, eA 0 600 bY], c))) rfl ?_
        rfl
end
