/-! The model reads the text. -/
theorem isB_to {B : Nat → Nat} {K S E : Nat} : isB B K S E 18 = isB B K S E 0 ∧ isB B K S E 12 = isB B K S E 1 ∧ isB B K S E 13 = isB B K S E 2 ∧ isB B K S E 14 = isB B K S E 3 ∧ isB B K S E 15 = isB B K S E 4 ∧ isB B K S E 16 = isB B K S E 5 ∧ isB B K S E 17 = isB B K S E 6 := ⟨isB_m0, isB_m1, isB_m2, isB_m3, isB_m4, isB_m5, isB_m6⟩
theorem celS_b {B : Nat → Nat} {n e e1 x y : Nat} {a : eRow} (h : celS B n a e = .inr ((x, y), e1)) : x < a 0 ∧ y < a 1 := by
  unfold celS at h
  cases hr1 : nuS B n e 0 (a 0) 2 with
  | inl z => rw [hr1] at h; cases h
  | inr z =>
    obtain ⟨x1, e2⟩ := z
    rw [hr1] at h
    dsimp only at h
    cases hr2 : nuS B n e2 0 (a 1) 2 with
    | inl z => rw [hr2] at h; cases h
    | inr z =>
      obtain ⟨x2, e3⟩ := z
      rw [hr2] at h
      dsimp only at h
      split at h
      · cases h; exact ⟨(nuS_b hr1).2.2.1, (nuS_b hr2).2.2.1⟩
      · cases h
theorem finS_b {B : Nat → Nat} {n e' : Nat} {r : zR (eRow × Nat)} {a' : eRow} (h : finS B n r = .inr (a', e')) : ∃ e1, r = .inr (a', e1) := by
  cases r with
  | inl z => cases h
  | inr q =>
    obtain ⟨a1, e1⟩ := q
    cases hs : smS B n e1 with
    | inl z => rw [finS_L hs] at h; cases h
    | inr e2 => rw [finS_R hs] at h; cases h; exact ⟨e1, rfl⟩
theorem staS_iA {B : Nat → Nat} {n s e e' k : Nat} {a a' : eRow} (he : e ≤ n) (hI : iA a) (h : staS B n a s e k = .inr (a', e')) : iA a' := by
  have g0 := hI.1.1
  match k, h with
  | 0, h => cases h
  | 1, h =>
    obtain ⟨e1, hr⟩ := finS_b h
    cases hb : blkS B n a s e with
    | inl z => rw [hb] at hr; cases hr
    | inr q =>
      obtain ⟨⟨x, y⟩, e2⟩ := q
      rw [hb] at hr
      cases hr
      unfold blkS at hb
      split at hb
      · cases hb
      · have m := celS_b hb
        exact iA_bk hI (by omega)
  | 2, h =>
    obtain ⟨e1, hr⟩ := finS_b h
    cases hb : wrdS B n a s e with
    | inl z => rw [hb] at hr; cases hr
    | inr e2 =>
      rw [hb] at hr
      cases hr
      unfold wrdS at hb
      split at hb
      · cases hb
      · split at hb
        · split at hb
          · rename_i u1 u2 u3
            exact iA_ad hI (by omega) (cdF_ok (tk_let he u2) u3.1 u3.2)
          · cases hb
        · cases hb
  | 3, h =>
    obtain ⟨e1, hr⟩ := finS_b h
    cases hb : letS B n a e with
    | inl z => rw [hb] at hr; cases hr
    | inr q =>
      obtain ⟨⟨x, y⟩, ⟨v, e2⟩⟩ := q
      rw [hb] at hr
      cases hr
      unfold letS at hb
      cases hc : celS B n a e with
      | inl z => rw [hc] at hb; cases hb
      | inr q =>
        obtain ⟨⟨x', y'⟩, e3⟩ := q
        rw [hc] at hb
        dsimp only at hb
        have m := celS_b hc
        have m2 := celS_m he hc
        split at hb
        · rename_i u1
          have hl := tk_let m2.2 u1.1 0 (by omega)
          rw [Nat.add_zero] at hl
          cases hb
          exact iA_lv hI (by omega) (Or.inr hl)
        · cases hb
  | 4, h =>
    obtain ⟨e1, hr⟩ := finS_b h
    cases hb : gueS B n a e with
    | inl z => rw [hb] at hr; cases hr
    | inr q =>
      obtain ⟨⟨k9, w9⟩, e2⟩ := q
      rw [hb] at hr
      cases hr
      unfold gueS at hb
      cases hc : nuS B n e 0 (a 3) 4 with
      | inl z => rw [hc] at hb; cases hb
      | inr q =>
        obtain ⟨q, e3⟩ := q
        rw [hc] at hb
        dsimp only at hb
        have m := (nuS_b hc).2.2.1
        split at hb
        · split at hb
          · cases hb
          · split at hb
            · rename_i u3
              cases hb
              obtain ⟨r1, r2, r3⟩ := rfs_0 u3
              exact iA_gs hI m (pc_gt (hI.2.2.1 _ m).1 r2 r3) r2
            · cases hb
        · cases hb
  | 5, h =>
    obtain ⟨e1, hr⟩ := finS_b h
    cases hb : bacS a s e with
    | inl z => rw [hb] at hr; cases hr
    | inr e2 =>
      rw [hb] at hr
      cases hr
      unfold bacS at hb
      split at hb
      · rename_i u1; exact iA_tb hI u1
      · cases hb
  | 6, h =>
    obtain ⟨e1, hr⟩ := finS_b h
    cases hb : nuS B n e 0 201 2 with
    | inl z => rw [hb] at hr; cases hr
    | inr q =>
      obtain ⟨v, e2⟩ := q
      rw [hb] at hr
      cases hr
      exact iA_sv hI
  | k + 7, h => cases h
section
variable {P g mk fr bY : Nat → Int} {B : Nat → Nat} {n : Nat} {c : Nat × Nat} {a : eRow}
set_option maxRecDepth 100000
theorem m_stmt {e : Nat} (h : mS B n P (.inr e)) (hn : n ≤ 600) (hby : ∀ i, i < n → bY i = (B i : Int) ∧ B i < 256) (hg : rg g a) (hI : iA a) : ∃ P' g' mk' fr' : Nat → Int, mE B n a P' g' (staS B n a (tkS B n e) (tkE B n e) (kwS B n e)) ∧ mU P P' ∧ ev m_M_readStatement 0 [some (eR 0)] [] ([mQ P, eA 0 964 g, eA 0 144 mk, eA 0 24 fr, eA 0 600 bY], c) = some (.inl none, ([mQ P', eA 0 964 g', eA 0 144 mk', eA 0 24 fr', eA 0 600 bY], c)) := by
  obtain ⟨⟨-, hen⟩, k14, k13, k15, k16, k17⟩ := h.1
  have t := tk_le (B := B) hen
  have n1 := n_is1 (bY := bY) (c := (0, 0)) k14 k15 k17 (by omega) (by omega) hn (by omega) hby
  have n2 := n_is2 (bY := bY) (c := (0, 0)) k14 k15 k17 (by omega) (by omega) hn (by omega) hby
  have n3 := n_is3 (bY := bY) (c := (0, 0)) k14 k15 k17 (by omega) (by omega) hn (by omega) hby
  have n4 := n_is4 (bY := bY) (c := (0, 0)) k14 k15 k17 (by omega) (by omega) hn (by omega) hby
  have n5 := n_is5 (bY := bY) (c := (0, 0)) k14 k15 k17 (by omega) (by omega) hn (by omega) hby
  have n6 := n_is6 (bY := bY) (c := (0, 0)) k14 k15 k17 (by omega) (by omega) hn (by omega) hby
  obtain ⟨-, i1, i2, i3, i4, i5, i6⟩ := isB_to (B := B) (K := tkK B n e) (S := tkS B n e) (E := tkE B n e)
  rw [i1] at n1
  rw [i2] at n2
  rw [i3] at n3
  rw [i4] at n4
  rw [i5] at n5
  rw [i6] at n6
  obtain ⟨P1, g1, mk1, fr1, a1, u1, q1⟩ := m_rBlock (mk := mk) (fr := fr) (c := c) h hn hby hg hI
  obtain ⟨P2, g2, mk2, fr2, a2, u2, q2⟩ := m_rWord (mk := mk) (fr := fr) (c := c) h hn hby hg hI
  obtain ⟨P3, g3, mk3, fr3, a3, u3, q3⟩ := m_rLetter (mk := mk) (fr := fr) (c := c) h hn hby hg hI
  obtain ⟨P4, g4, mk4, fr4, a4, u4, q4⟩ := m_rGuess (mk := mk) (fr := fr) (c := c) h hn hby hg hI
  obtain ⟨P5, g5, mk5, fr5, a5, u5, q5⟩ := m_rBack (mk := mk) (fr := fr) (c := c) h hn hby hg hI
  obtain ⟨P6, g6, mk6, fr6, a6, u6, q6⟩ := m_rSolve (mk := mk) (fr := fr) (c := c) h hn hby hg hI
  obtain ⟨P7, v7, a7, u7, q7⟩ := m_chk (g := g) (mk := mk) (fr := fr) (bY := bY) (c := c) (b := false) (k := 1) (x := 0) (z := 1) h rfl rfl (by omega)
  have a7 : mE B n a P7 g (staS B n a (tkS B n e) (tkE B n e) 0) := ⟨a7, hg⟩
  have hkw : kwS B n e = bif isB B (tkK B n e) (tkS B n e) (tkE B n e) 1 then 1 else bif isB B (tkK B n e) (tkS B n e) (tkE B n e) 2 then 2 else bif isB B (tkK B n e) (tkS B n e) (tkE B n e) 3 then 3 else bif isB B (tkK B n e) (tkS B n e) (tkE B n e) 4 then 4 else bif isB B (tkK B n e) (tkS B n e) (tkE B n e) 5 then 5 else bif isB B (tkK B n e) (tkS B n e) (tkE B n e) 6 then 6 else 0 := rfl
  generalize isB B (tkK B n e) (tkS B n e) (tkE B n e) 1 = b1 at *
  generalize isB B (tkK B n e) (tkS B n e) (tkE B n e) 2 = b2 at *
  generalize isB B (tkK B n e) (tkS B n e) (tkE B n e) 3 = b3 at *
  generalize isB B (tkK B n e) (tkS B n e) (tkE B n e) 4 = b4 at *
  generalize isB B (tkK B n e) (tkS B n e) (tkE B n e) 5 = b5 at *
  generalize isB B (tkK B n e) (tkS B n e) (tkE B n e) 6 = b6 at *
  cases b1 with
  | true =>
    have hk9 : kwS B n e = 1 := hkw
    rw [hk9]
    refine ⟨P1, g1, mk1, fr1, a1, u1, ?_⟩
    refine xCallW (N := 3) (M2 := m_M_readStatement) (pc2 := 4) (ls2 := [some (eR 0)]) (st2 := []) (y := m_M_is) (as := [some (eR 0), some (eSt 12)]) (w2 := ([mQ P, eA 0 964 g, eA 0 144 mk, eA 0 24 fr, eA 0 600 bY], c)) rfl (nUp n1 rfl rfl rfl) ?_
    refine xEqF (N := 1) (x := 1) (y := 0) (A := ev m_M_readStatement 17 [some (eR 0)] [] ([mQ P, eA 0 964 g, eA 0 144 mk, eA 0 24 fr, eA 0 600 bY], c)) (B := ev m_M_readStatement 10 [some (eR 0)] [] ([mQ P, eA 0 964 g, eA 0 144 mk, eA 0 24 fr, eA 0 600 bY], c)) rfl (show wr 1 = 1 by decide) (show wr 0 = 0 by decide) (by decide) ?_
    refine xCallWV (N := 2) (M2 := m_M_readStatement) (pc2 := 11) (ls2 := [some (eR 0)]) (st2 := []) (y := m_M_readBlock) (as := [some (eR 0)]) (w2 := ([mQ P, eA 0 964 g, eA 0 144 mk, eA 0 24 fr, eA 0 600 bY], c)) rfl q1 ?_
    refine xSeg (N := 2) (r := some (.inl none, ([mQ P1, eA 0 964 g1, eA 0 144 mk1, eA 0 24 fr1, eA 0 600 bY], c))) rfl ?_
    rfl
  | false =>
    cases b2 with
    | true =>
      have hk9 : kwS B n e = 2 := hkw
      rw [hk9]
      refine ⟨P2, g2, mk2, fr2, a2, u2, ?_⟩
      refine xCallW (N := 3) (M2 := m_M_readStatement) (pc2 := 4) (ls2 := [some (eR 0)]) (st2 := []) (y := m_M_is) (as := [some (eR 0), some (eSt 12)]) (w2 := ([mQ P, eA 0 964 g, eA 0 144 mk, eA 0 24 fr, eA 0 600 bY], c)) rfl (nUp n1 rfl rfl rfl) ?_
      refine xEqT (N := 1) (x := 0) (y := 0) (A := ev m_M_readStatement 17 [some (eR 0)] [] ([mQ P, eA 0 964 g, eA 0 144 mk, eA 0 24 fr, eA 0 600 bY], c)) (B := ev m_M_readStatement 10 [some (eR 0)] [] ([mQ P, eA 0 964 g, eA 0 144 mk, eA 0 24 fr, eA 0 600 bY], c)) rfl (show wr 0 = 0 by decide) (show wr 0 = 0 by decide) (by decide) ?_
      refine xCallW (N := 3) (M2 := m_M_readStatement) (pc2 := 21) (ls2 := [some (eR 0)]) (st2 := []) (y := m_M_is) (as := [some (eR 0), some (eSt 13)]) (w2 := ([mQ P, eA 0 964 g, eA 0 144 mk, eA 0 24 fr, eA 0 600 bY], c)) rfl (nUp n2 rfl rfl rfl) ?_
      refine xEqF (N := 1) (x := 1) (y := 0) (A := ev m_M_readStatement 34 [some (eR 0)] [] ([mQ P, eA 0 964 g, eA 0 144 mk, eA 0 24 fr, eA 0 600 bY], c)) (B := ev m_M_readStatement 27 [some (eR 0)] [] ([mQ P, eA 0 964 g, eA 0 144 mk, eA 0 24 fr, eA 0 600 bY], c)) rfl (show wr 1 = 1 by decide) (show wr 0 = 0 by decide) (by decide) ?_
      refine xCallWV (N := 2) (M2 := m_M_readStatement) (pc2 := 28) (ls2 := [some (eR 0)]) (st2 := []) (y := m_M_readWord) (as := [some (eR 0)]) (w2 := ([mQ P, eA 0 964 g, eA 0 144 mk, eA 0 24 fr, eA 0 600 bY], c)) rfl q2 ?_
      refine xSeg (N := 2) (r := some (.inl none, ([mQ P2, eA 0 964 g2, eA 0 144 mk2, eA 0 24 fr2, eA 0 600 bY], c))) rfl ?_
      rfl
    | false =>
      cases b3 with
      | true =>
        have hk9 : kwS B n e = 3 := hkw
        rw [hk9]
        refine ⟨P3, g3, mk3, fr3, a3, u3, ?_⟩
        refine xCallW (N := 3) (M2 := m_M_readStatement) (pc2 := 4) (ls2 := [some (eR 0)]) (st2 := []) (y := m_M_is) (as := [some (eR 0), some (eSt 12)]) (w2 := ([mQ P, eA 0 964 g, eA 0 144 mk, eA 0 24 fr, eA 0 600 bY], c)) rfl (nUp n1 rfl rfl rfl) ?_
        refine xEqT (N := 1) (x := 0) (y := 0) (A := ev m_M_readStatement 17 [some (eR 0)] [] ([mQ P, eA 0 964 g, eA 0 144 mk, eA 0 24 fr, eA 0 600 bY], c)) (B := ev m_M_readStatement 10 [some (eR 0)] [] ([mQ P, eA 0 964 g, eA 0 144 mk, eA 0 24 fr, eA 0 600 bY], c)) rfl (show wr 0 = 0 by decide) (show wr 0 = 0 by decide) (by decide) ?_
        refine xCallW (N := 3) (M2 := m_M_readStatement) (pc2 := 21) (ls2 := [some (eR 0)]) (st2 := []) (y := m_M_is) (as := [some (eR 0), some (eSt 13)]) (w2 := ([mQ P, eA 0 964 g, eA 0 144 mk, eA 0 24 fr, eA 0 600 bY], c)) rfl (nUp n2 rfl rfl rfl) ?_
        refine xEqT (N := 1) (x := 0) (y := 0) (A := ev m_M_readStatement 34 [some (eR 0)] [] ([mQ P, eA 0 964 g, eA 0 144 mk, eA 0 24 fr, eA 0 600 bY], c)) (B := ev m_M_readStatement 27 [some (eR 0)] [] ([mQ P, eA 0 964 g, eA 0 144 mk, eA 0 24 fr, eA 0 600 bY], c)) rfl (show wr 0 = 0 by decide) (show wr 0 = 0 by decide) (by decide) ?_
        refine xCallW (N := 3) (M2 := m_M_readStatement) (pc2 := 38) (ls2 := [some (eR 0)]) (st2 := []) (y := m_M_is) (as := [some (eR 0), some (eSt 14)]) (w2 := ([mQ P, eA 0 964 g, eA 0 144 mk, eA 0 24 fr, eA 0 600 bY], c)) rfl (nUp n3 rfl rfl rfl) ?_
        refine xEqF (N := 1) (x := 1) (y := 0) (A := ev m_M_readStatement 51 [some (eR 0)] [] ([mQ P, eA 0 964 g, eA 0 144 mk, eA 0 24 fr, eA 0 600 bY], c)) (B := ev m_M_readStatement 44 [some (eR 0)] [] ([mQ P, eA 0 964 g, eA 0 144 mk, eA 0 24 fr, eA 0 600 bY], c)) rfl (show wr 1 = 1 by decide) (show wr 0 = 0 by decide) (by decide) ?_
        refine xCallWV (N := 2) (M2 := m_M_readStatement) (pc2 := 45) (ls2 := [some (eR 0)]) (st2 := []) (y := m_M_readLetter) (as := [some (eR 0)]) (w2 := ([mQ P, eA 0 964 g, eA 0 144 mk, eA 0 24 fr, eA 0 600 bY], c)) rfl q3 ?_
        refine xSeg (N := 2) (r := some (.inl none, ([mQ P3, eA 0 964 g3, eA 0 144 mk3, eA 0 24 fr3, eA 0 600 bY], c))) rfl ?_
        rfl
      | false =>
        cases b4 with
        | true =>
          have hk9 : kwS B n e = 4 := hkw
          rw [hk9]
          refine ⟨P4, g4, mk4, fr4, a4, u4, ?_⟩
          refine xCallW (N := 3) (M2 := m_M_readStatement) (pc2 := 4) (ls2 := [some (eR 0)]) (st2 := []) (y := m_M_is) (as := [some (eR 0), some (eSt 12)]) (w2 := ([mQ P, eA 0 964 g, eA 0 144 mk, eA 0 24 fr, eA 0 600 bY], c)) rfl (nUp n1 rfl rfl rfl) ?_
          refine xEqT (N := 1) (x := 0) (y := 0) (A := ev m_M_readStatement 17 [some (eR 0)] [] ([mQ P, eA 0 964 g, eA 0 144 mk, eA 0 24 fr, eA 0 600 bY], c)) (B := ev m_M_readStatement 10 [some (eR 0)] [] ([mQ P, eA 0 964 g, eA 0 144 mk, eA 0 24 fr, eA 0 600 bY], c)) rfl (show wr 0 = 0 by decide) (show wr 0 = 0 by decide) (by decide) ?_
          refine xCallW (N := 3) (M2 := m_M_readStatement) (pc2 := 21) (ls2 := [some (eR 0)]) (st2 := []) (y := m_M_is) (as := [some (eR 0), some (eSt 13)]) (w2 := ([mQ P, eA 0 964 g, eA 0 144 mk, eA 0 24 fr, eA 0 600 bY], c)) rfl (nUp n2 rfl rfl rfl) ?_
          refine xEqT (N := 1) (x := 0) (y := 0) (A := ev m_M_readStatement 34 [some (eR 0)] [] ([mQ P, eA 0 964 g, eA 0 144 mk, eA 0 24 fr, eA 0 600 bY], c)) (B := ev m_M_readStatement 27 [some (eR 0)] [] ([mQ P, eA 0 964 g, eA 0 144 mk, eA 0 24 fr, eA 0 600 bY], c)) rfl (show wr 0 = 0 by decide) (show wr 0 = 0 by decide) (by decide) ?_
          refine xCallW (N := 3) (M2 := m_M_readStatement) (pc2 := 38) (ls2 := [some (eR 0)]) (st2 := []) (y := m_M_is) (as := [some (eR 0), some (eSt 14)]) (w2 := ([mQ P, eA 0 964 g, eA 0 144 mk, eA 0 24 fr, eA 0 600 bY], c)) rfl (nUp n3 rfl rfl rfl) ?_
          refine xEqT (N := 1) (x := 0) (y := 0) (A := ev m_M_readStatement 51 [some (eR 0)] [] ([mQ P, eA 0 964 g, eA 0 144 mk, eA 0 24 fr, eA 0 600 bY], c)) (B := ev m_M_readStatement 44 [some (eR 0)] [] ([mQ P, eA 0 964 g, eA 0 144 mk, eA 0 24 fr, eA 0 600 bY], c)) rfl (show wr 0 = 0 by decide) (show wr 0 = 0 by decide) (by decide) ?_
          refine xCallW (N := 3) (M2 := m_M_readStatement) (pc2 := 55) (ls2 := [some (eR 0)]) (st2 := []) (y := m_M_is) (as := [some (eR 0), some (eSt 15)]) (w2 := ([mQ P, eA 0 964 g, eA 0 144 mk, eA 0 24 fr, eA 0 600 bY], c)) rfl (nUp n4 rfl rfl rfl) ?_
          refine xEqF (N := 1) (x := 1) (y := 0) (A := ev m_M_readStatement 68 [some (eR 0)] [] ([mQ P, eA 0 964 g, eA 0 144 mk, eA 0 24 fr, eA 0 600 bY], c)) (B := ev m_M_readStatement 61 [some (eR 0)] [] ([mQ P, eA 0 964 g, eA 0 144 mk, eA 0 24 fr, eA 0 600 bY], c)) rfl (show wr 1 = 1 by decide) (show wr 0 = 0 by decide) (by decide) ?_
          refine xCallWV (N := 2) (M2 := m_M_readStatement) (pc2 := 62) (ls2 := [some (eR 0)]) (st2 := []) (y := m_M_readGuess) (as := [some (eR 0)]) (w2 := ([mQ P, eA 0 964 g, eA 0 144 mk, eA 0 24 fr, eA 0 600 bY], c)) rfl q4 ?_
          refine xSeg (N := 2) (r := some (.inl none, ([mQ P4, eA 0 964 g4, eA 0 144 mk4, eA 0 24 fr4, eA 0 600 bY], c))) rfl ?_
          rfl
        | false =>
          cases b5 with
          | true =>
            have hk9 : kwS B n e = 5 := hkw
            rw [hk9]
            refine ⟨P5, g5, mk5, fr5, a5, u5, ?_⟩
            refine xCallW (N := 3) (M2 := m_M_readStatement) (pc2 := 4) (ls2 := [some (eR 0)]) (st2 := []) (y := m_M_is) (as := [some (eR 0), some (eSt 12)]) (w2 := ([mQ P, eA 0 964 g, eA 0 144 mk, eA 0 24 fr, eA 0 600 bY], c)) rfl (nUp n1 rfl rfl rfl) ?_
            refine xEqT (N := 1) (x := 0) (y := 0) (A := ev m_M_readStatement 17 [some (eR 0)] [] ([mQ P, eA 0 964 g, eA 0 144 mk, eA 0 24 fr, eA 0 600 bY], c)) (B := ev m_M_readStatement 10 [some (eR 0)] [] ([mQ P, eA 0 964 g, eA 0 144 mk, eA 0 24 fr, eA 0 600 bY], c)) rfl (show wr 0 = 0 by decide) (show wr 0 = 0 by decide) (by decide) ?_
            refine xCallW (N := 3) (M2 := m_M_readStatement) (pc2 := 21) (ls2 := [some (eR 0)]) (st2 := []) (y := m_M_is) (as := [some (eR 0), some (eSt 13)]) (w2 := ([mQ P, eA 0 964 g, eA 0 144 mk, eA 0 24 fr, eA 0 600 bY], c)) rfl (nUp n2 rfl rfl rfl) ?_
            refine xEqT (N := 1) (x := 0) (y := 0) (A := ev m_M_readStatement 34 [some (eR 0)] [] ([mQ P, eA 0 964 g, eA 0 144 mk, eA 0 24 fr, eA 0 600 bY], c)) (B := ev m_M_readStatement 27 [some (eR 0)] [] ([mQ P, eA 0 964 g, eA 0 144 mk, eA 0 24 fr, eA 0 600 bY], c)) rfl (show wr 0 = 0 by decide) (show wr 0 = 0 by decide) (by decide) ?_
            refine xCallW (N := 3) (M2 := m_M_readStatement) (pc2 := 38) (ls2 := [some (eR 0)]) (st2 := []) (y := m_M_is) (as := [some (eR 0), some (eSt 14)]) (w2 := ([mQ P, eA 0 964 g, eA 0 144 mk, eA 0 24 fr, eA 0 600 bY], c)) rfl (nUp n3 rfl rfl rfl) ?_
            refine xEqT (N := 1) (x := 0) (y := 0) (A := ev m_M_readStatement 51 [some (eR 0)] [] ([mQ P, eA 0 964 g, eA 0 144 mk, eA 0 24 fr, eA 0 600 bY], c)) (B := ev m_M_readStatement 44 [some (eR 0)] [] ([mQ P, eA 0 964 g, eA 0 144 mk, eA 0 24 fr, eA 0 600 bY], c)) rfl (show wr 0 = 0 by decide) (show wr 0 = 0 by decide) (by decide) ?_
            refine xCallW (N := 3) (M2 := m_M_readStatement) (pc2 := 55) (ls2 := [some (eR 0)]) (st2 := []) (y := m_M_is) (as := [some (eR 0), some (eSt 15)]) (w2 := ([mQ P, eA 0 964 g, eA 0 144 mk, eA 0 24 fr, eA 0 600 bY], c)) rfl (nUp n4 rfl rfl rfl) ?_
            refine xEqT (N := 1) (x := 0) (y := 0) (A := ev m_M_readStatement 68 [some (eR 0)] [] ([mQ P, eA 0 964 g, eA 0 144 mk, eA 0 24 fr, eA 0 600 bY], c)) (B := ev m_M_readStatement 61 [some (eR 0)] [] ([mQ P, eA 0 964 g, eA 0 144 mk, eA 0 24 fr, eA 0 600 bY], c)) rfl (show wr 0 = 0 by decide) (show wr 0 = 0 by decide) (by decide) ?_
            refine xCallW (N := 3) (M2 := m_M_readStatement) (pc2 := 72) (ls2 := [some (eR 0)]) (st2 := []) (y := m_M_is) (as := [some (eR 0), some (eSt 16)]) (w2 := ([mQ P, eA 0 964 g, eA 0 144 mk, eA 0 24 fr, eA 0 600 bY], c)) rfl (nUp n5 rfl rfl rfl) ?_
            refine xEqF (N := 1) (x := 1) (y := 0) (A := ev m_M_readStatement 85 [some (eR 0)] [] ([mQ P, eA 0 964 g, eA 0 144 mk, eA 0 24 fr, eA 0 600 bY], c)) (B := ev m_M_readStatement 78 [some (eR 0)] [] ([mQ P, eA 0 964 g, eA 0 144 mk, eA 0 24 fr, eA 0 600 bY], c)) rfl (show wr 1 = 1 by decide) (show wr 0 = 0 by decide) (by decide) ?_
            refine xCallWV (N := 2) (M2 := m_M_readStatement) (pc2 := 79) (ls2 := [some (eR 0)]) (st2 := []) (y := m_M_readBack) (as := [some (eR 0)]) (w2 := ([mQ P, eA 0 964 g, eA 0 144 mk, eA 0 24 fr, eA 0 600 bY], c)) rfl q5 ?_
            refine xSeg (N := 2) (r := some (.inl none, ([mQ P5, eA 0 964 g5, eA 0 144 mk5, eA 0 24 fr5, eA 0 600 bY], c))) rfl ?_
            rfl
          | false =>
            cases b6 with
            | true =>
              have hk9 : kwS B n e = 6 := hkw
              rw [hk9]
              refine ⟨P6, g6, mk6, fr6, a6, u6, ?_⟩
              refine xCallW (N := 3) (M2 := m_M_readStatement) (pc2 := 4) (ls2 := [some (eR 0)]) (st2 := []) (y := m_M_is) (as := [some (eR 0), some (eSt 12)]) (w2 := ([mQ P, eA 0 964 g, eA 0 144 mk, eA 0 24 fr, eA 0 600 bY], c)) rfl (nUp n1 rfl rfl rfl) ?_
              refine xEqT (N := 1) (x := 0) (y := 0) (A := ev m_M_readStatement 17 [some (eR 0)] [] ([mQ P, eA 0 964 g, eA 0 144 mk, eA 0 24 fr, eA 0 600 bY], c)) (B := ev m_M_readStatement 10 [some (eR 0)] [] ([mQ P, eA 0 964 g, eA 0 144 mk, eA 0 24 fr, eA 0 600 bY], c)) rfl (show wr 0 = 0 by decide) (show wr 0 = 0 by decide) (by decide) ?_
              refine xCallW (N := 3) (M2 := m_M_readStatement) (pc2 := 21) (ls2 := [some (eR 0)]) (st2 := []) (y := m_M_is) (as := [some (eR 0), some (eSt 13)]) (w2 := ([mQ P, eA 0 964 g, eA 0 144 mk, eA 0 24 fr, eA 0 600 bY], c)) rfl (nUp n2 rfl rfl rfl) ?_
              refine xEqT (N := 1) (x := 0) (y := 0) (A := ev m_M_readStatement 34 [some (eR 0)] [] ([mQ P, eA 0 964 g, eA 0 144 mk, eA 0 24 fr, eA 0 600 bY], c)) (B := ev m_M_readStatement 27 [some (eR 0)] [] ([mQ P, eA 0 964 g, eA 0 144 mk, eA 0 24 fr, eA 0 600 bY], c)) rfl (show wr 0 = 0 by decide) (show wr 0 = 0 by decide) (by decide) ?_
              refine xCallW (N := 3) (M2 := m_M_readStatement) (pc2 := 38) (ls2 := [some (eR 0)]) (st2 := []) (y := m_M_is) (as := [some (eR 0), some (eSt 14)]) (w2 := ([mQ P, eA 0 964 g, eA 0 144 mk, eA 0 24 fr, eA 0 600 bY], c)) rfl (nUp n3 rfl rfl rfl) ?_
              refine xEqT (N := 1) (x := 0) (y := 0) (A := ev m_M_readStatement 51 [some (eR 0)] [] ([mQ P, eA 0 964 g, eA 0 144 mk, eA 0 24 fr, eA 0 600 bY], c)) (B := ev m_M_readStatement 44 [some (eR 0)] [] ([mQ P, eA 0 964 g, eA 0 144 mk, eA 0 24 fr, eA 0 600 bY], c)) rfl (show wr 0 = 0 by decide) (show wr 0 = 0 by decide) (by decide) ?_
              refine xCallW (N := 3) (M2 := m_M_readStatement) (pc2 := 55) (ls2 := [some (eR 0)]) (st2 := []) (y := m_M_is) (as := [some (eR 0), some (eSt 15)]) (w2 := ([mQ P, eA 0 964 g, eA 0 144 mk, eA 0 24 fr, eA 0 600 bY], c)) rfl (nUp n4 rfl rfl rfl) ?_
              refine xEqT (N := 1) (x := 0) (y := 0) (A := ev m_M_readStatement 68 [some (eR 0)] [] ([mQ P, eA 0 964 g, eA 0 144 mk, eA 0 24 fr, eA 0 600 bY], c)) (B := ev m_M_readStatement 61 [some (eR 0)] [] ([mQ P, eA 0 964 g, eA 0 144 mk, eA 0 24 fr, eA 0 600 bY], c)) rfl (show wr 0 = 0 by decide) (show wr 0 = 0 by decide) (by decide) ?_
              refine xCallW (N := 3) (M2 := m_M_readStatement) (pc2 := 72) (ls2 := [some (eR 0)]) (st2 := []) (y := m_M_is) (as := [some (eR 0), some (eSt 16)]) (w2 := ([mQ P, eA 0 964 g, eA 0 144 mk, eA 0 24 fr, eA 0 600 bY], c)) rfl (nUp n5 rfl rfl rfl) ?_
              refine xEqT (N := 1) (x := 0) (y := 0) (A := ev m_M_readStatement 85 [some (eR 0)] [] ([mQ P, eA 0 964 g, eA 0 144 mk, eA 0 24 fr, eA 0 600 bY], c)) (B := ev m_M_readStatement 78 [some (eR 0)] [] ([mQ P, eA 0 964 g, eA 0 144 mk, eA 0 24 fr, eA 0 600 bY], c)) rfl (show wr 0 = 0 by decide) (show wr 0 = 0 by decide) (by decide) ?_
              refine xCallW (N := 3) (M2 := m_M_readStatement) (pc2 := 89) (ls2 := [some (eR 0)]) (st2 := []) (y := m_M_is) (as := [some (eR 0), some (eSt 17)]) (w2 := ([mQ P, eA 0 964 g, eA 0 144 mk, eA 0 24 fr, eA 0 600 bY], c)) rfl (nUp n6 rfl rfl rfl) ?_
              refine xEqF (N := 1) (x := 1) (y := 0) (A := ev m_M_readStatement 102 [some (eR 0)] [] ([mQ P, eA 0 964 g, eA 0 144 mk, eA 0 24 fr, eA 0 600 bY], c)) (B := ev m_M_readStatement 95 [some (eR 0)] [] ([mQ P, eA 0 964 g, eA 0 144 mk, eA 0 24 fr, eA 0 600 bY], c)) rfl (show wr 1 = 1 by decide) (show wr 0 = 0 by decide) (by decide) ?_
              refine xCallWV (N := 2) (M2 := m_M_readStatement) (pc2 := 96) (ls2 := [some (eR 0)]) (st2 := []) (y := m_M_readSolve) (as := [some (eR 0)]) (w2 := ([mQ P, eA 0 964 g, eA 0 144 mk, eA 0 24 fr, eA 0 600 bY], c)) rfl q6 ?_
              refine xSeg (N := 2) (r := some (.inl none, ([mQ P6, eA 0 964 g6, eA 0 144 mk6, eA 0 24 fr6, eA 0 600 bY], c))) rfl ?_
              rfl
            | false =>
              have hk9 : kwS B n e = 0 := hkw
              rw [hk9]
              refine ⟨P7, g, mk, fr, a7, u7, ?_⟩
              refine xCallW (N := 3) (M2 := m_M_readStatement) (pc2 := 4) (ls2 := [some (eR 0)]) (st2 := []) (y := m_M_is) (as := [some (eR 0), some (eSt 12)]) (w2 := ([mQ P, eA 0 964 g, eA 0 144 mk, eA 0 24 fr, eA 0 600 bY], c)) rfl (nUp n1 rfl rfl rfl) ?_
              refine xEqT (N := 1) (x := 0) (y := 0) (A := ev m_M_readStatement 17 [some (eR 0)] [] ([mQ P, eA 0 964 g, eA 0 144 mk, eA 0 24 fr, eA 0 600 bY], c)) (B := ev m_M_readStatement 10 [some (eR 0)] [] ([mQ P, eA 0 964 g, eA 0 144 mk, eA 0 24 fr, eA 0 600 bY], c)) rfl (show wr 0 = 0 by decide) (show wr 0 = 0 by decide) (by decide) ?_
              refine xCallW (N := 3) (M2 := m_M_readStatement) (pc2 := 21) (ls2 := [some (eR 0)]) (st2 := []) (y := m_M_is) (as := [some (eR 0), some (eSt 13)]) (w2 := ([mQ P, eA 0 964 g, eA 0 144 mk, eA 0 24 fr, eA 0 600 bY], c)) rfl (nUp n2 rfl rfl rfl) ?_
              refine xEqT (N := 1) (x := 0) (y := 0) (A := ev m_M_readStatement 34 [some (eR 0)] [] ([mQ P, eA 0 964 g, eA 0 144 mk, eA 0 24 fr, eA 0 600 bY], c)) (B := ev m_M_readStatement 27 [some (eR 0)] [] ([mQ P, eA 0 964 g, eA 0 144 mk, eA 0 24 fr, eA 0 600 bY], c)) rfl (show wr 0 = 0 by decide) (show wr 0 = 0 by decide) (by decide) ?_
              refine xCallW (N := 3) (M2 := m_M_readStatement) (pc2 := 38) (ls2 := [some (eR 0)]) (st2 := []) (y := m_M_is) (as := [some (eR 0), some (eSt 14)]) (w2 := ([mQ P, eA 0 964 g, eA 0 144 mk, eA 0 24 fr, eA 0 600 bY], c)) rfl (nUp n3 rfl rfl rfl) ?_
              refine xEqT (N := 1) (x := 0) (y := 0) (A := ev m_M_readStatement 51 [some (eR 0)] [] ([mQ P, eA 0 964 g, eA 0 144 mk, eA 0 24 fr, eA 0 600 bY], c)) (B := ev m_M_readStatement 44 [some (eR 0)] [] ([mQ P, eA 0 964 g, eA 0 144 mk, eA 0 24 fr, eA 0 600 bY], c)) rfl (show wr 0 = 0 by decide) (show wr 0 = 0 by decide) (by decide) ?_
              refine xCallW (N := 3) (M2 := m_M_readStatement) (pc2 := 55) (ls2 := [some (eR 0)]) (st2 := []) (y := m_M_is) (as := [some (eR 0), some (eSt 15)]) (w2 := ([mQ P, eA 0 964 g, eA 0 144 mk, eA 0 24 fr, eA 0 600 bY], c)) rfl (nUp n4 rfl rfl rfl) ?_
              refine xEqT (N := 1) (x := 0) (y := 0) (A := ev m_M_readStatement 68 [some (eR 0)] [] ([mQ P, eA 0 964 g, eA 0 144 mk, eA 0 24 fr, eA 0 600 bY], c)) (B := ev m_M_readStatement 61 [some (eR 0)] [] ([mQ P, eA 0 964 g, eA 0 144 mk, eA 0 24 fr, eA 0 600 bY], c)) rfl (show wr 0 = 0 by decide) (show wr 0 = 0 by decide) (by decide) ?_
              refine xCallW (N := 3) (M2 := m_M_readStatement) (pc2 := 72) (ls2 := [some (eR 0)]) (st2 := []) (y := m_M_is) (as := [some (eR 0), some (eSt 16)]) (w2 := ([mQ P, eA 0 964 g, eA 0 144 mk, eA 0 24 fr, eA 0 600 bY], c)) rfl (nUp n5 rfl rfl rfl) ?_
              refine xEqT (N := 1) (x := 0) (y := 0) (A := ev m_M_readStatement 85 [some (eR 0)] [] ([mQ P, eA 0 964 g, eA 0 144 mk, eA 0 24 fr, eA 0 600 bY], c)) (B := ev m_M_readStatement 78 [some (eR 0)] [] ([mQ P, eA 0 964 g, eA 0 144 mk, eA 0 24 fr, eA 0 600 bY], c)) rfl (show wr 0 = 0 by decide) (show wr 0 = 0 by decide) (by decide) ?_
              refine xCallW (N := 3) (M2 := m_M_readStatement) (pc2 := 89) (ls2 := [some (eR 0)]) (st2 := []) (y := m_M_is) (as := [some (eR 0), some (eSt 17)]) (w2 := ([mQ P, eA 0 964 g, eA 0 144 mk, eA 0 24 fr, eA 0 600 bY], c)) rfl (nUp n6 rfl rfl rfl) ?_
              refine xEqT (N := 1) (x := 0) (y := 0) (A := ev m_M_readStatement 102 [some (eR 0)] [] ([mQ P, eA 0 964 g, eA 0 144 mk, eA 0 24 fr, eA 0 600 bY], c)) (B := ev m_M_readStatement 95 [some (eR 0)] [] ([mQ P, eA 0 964 g, eA 0 144 mk, eA 0 24 fr, eA 0 600 bY], c)) rfl (show wr 0 = 0 by decide) (show wr 0 = 0 by decide) (by decide) ?_
              refine xCallW (N := 4) (M2 := m_M_readStatement) (pc2 := 105) (ls2 := [some (eR 0)]) (st2 := []) (y := m_M_check) (as := [some (eR 0), some (eI 0), some (eI 1)]) (w2 := ([mQ P, eA 0 964 g, eA 0 144 mk, eA 0 24 fr, eA 0 600 bY], c)) rfl q7 ?_
              refine xSeg (N := 2) (r := some (.inl none, ([mQ P7, eA 0 964 g, eA 0 144 mk, eA 0 24 fr, eA 0 600 bY], c))) rfl ?_
              rfl
/-- what the text has come to -/
def mT (B : Nat → Nat) (n : Nat) (P' g' : Nat → Int) : Option (Nat × Nat) × eRow → Prop
  | (none, a) => (∃ e, mS B n P' (.inr e)) ∧ rg g' a ∧ iA a
  | (some z, a) => mS B n P' (.inl z) ∧ rg g' a ∧ iA a
theorem m_rdL (hn : n ≤ 600) (hby : ∀ i, i < n → bY i = (B i : Int) ∧ B i < 256) : ∀ (d e : Nat) (a : eRow) (P g mk fr : Nat → Int) (y : Int), mS B n P (.inr e) → n < e + d → rg g a → iA a → ∃ P' g' mk' fr' : Nat → Int, mT B n P' g' (runS B n d a e) ∧ mU P P' ∧ ev m_M_read 110 [some (eR 0), some (eI y)] [] ([mQ P, eA 0 964 g, eA 0 144 mk, eA 0 24 fr, eA 0 600 bY], c) = some (.inl none, ([mQ P', eA 0 964 g', eA 0 144 mk', eA 0 24 fr', eA 0 600 bY], c)) := by
  intro d
  induction d with
  | zero => intro e a P g mk fr y h h1; have := h.1.1.2; omega
  | succ d ih =>
    intro e a P g mk fr y h hne hg hI
    have hen := h.1.1.2
    have t := tk_le (B := B) hen
    have h15 := h.1.2.2.2.1
    have hT0 := tkT_0 (k := tkK B n e) (by omega)
    have hT3 := tkT_le (k := tkK B n e)
    have h18 := h.2.1
    by_cases hK : tkK B n e = 0
    · have hr : runS B n (d + 1) a e = (none, a) := if_pos hK
      rw [hr]
      refine ⟨P, g, mk, fr, ⟨⟨e, h⟩, hg, hI⟩, mU_rf, ?_⟩
      refine xEqT (N := 3) (x := P 18) (y := 0) (A := ev m_M_read 117 [some (eR 0), some (eI y)] [] ([mQ P, eA 0 964 g, eA 0 144 mk, eA 0 24 fr, eA 0 600 bY], c)) (B := ev m_M_read 131 [some (eR 0), some (eI y)] [] ([mQ P, eA 0 964 g, eA 0 144 mk, eA 0 24 fr, eA 0 600 bY], c)) rfl (wr_id (by omega) (by omega)) (show wr 0 = 0 by decide) (by omega) ?_
      refine xEqT (N := 3) (x := P 15) (y := 0) (A := ev m_M_read 131 [some (eR 0), some (eI y)] [] ([mQ P, eA 0 964 g, eA 0 144 mk, eA 0 24 fr, eA 0 600 bY], c)) (B := ev m_M_read 124 [some (eR 0), some (eI y)] [] ([mQ P, eA 0 964 g, eA 0 144 mk, eA 0 24 fr, eA 0 600 bY], c)) rfl (wr_id (by omega) (by omega)) (show wr 0 = 0 by decide) (by omega) ?_
      refine xSeg (N := 1) (r := some (.inl none, ([mQ P, eA 0 964 g, eA 0 144 mk, eA 0 24 fr, eA 0 600 bY], c))) rfl ?_
      rfl
    · have hr : runS B n (d + 1) a e = (match staS B n a (tkS B n e) (tkE B n e) (kwS B n e) with
        | .inl x => (some x, a)
        | .inr (a', e') => runS B n d a' e') := if_neg hK
      rw [hr]
      obtain ⟨P1, g1, mk1, fr1, hp, u1, q1⟩ := m_stmt (mk := mk) (fr := fr) (c := c) h hn hby hg hI
      cases hst : staS B n a (tkS B n e) (tkE B n e) (kwS B n e) with
      | inl z =>
        rw [hst] at hp
        obtain ⟨p1, p2⟩ := hp
        have hne1 := mS_L p1
        obtain ⟨_, d18⟩ := mS_at p1
        refine ⟨P1, g1, mk1, fr1, ⟨p1, p2, hI⟩, u1, ?_⟩
        generalize tkT (tkK B n e) = tk9 at *
        refine xEqT (N := 3) (x := P 18) (y := 0) (A := ev m_M_read 117 [some (eR 0), some (eI y)] [] ([mQ P, eA 0 964 g, eA 0 144 mk, eA 0 24 fr, eA 0 600 bY], c)) (B := ev m_M_read 131 [some (eR 0), some (eI y)] [] ([mQ P, eA 0 964 g, eA 0 144 mk, eA 0 24 fr, eA 0 600 bY], c)) rfl (wr_id (by omega) (by omega)) (show wr 0 = 0 by decide) (by omega) ?_
        refine xEqF (N := 3) (x := P 15) (y := 0) (A := ev m_M_read 131 [some (eR 0), some (eI y)] [] ([mQ P, eA 0 964 g, eA 0 144 mk, eA 0 24 fr, eA 0 600 bY], c)) (B := ev m_M_read 124 [some (eR 0), some (eI y)] [] ([mQ P, eA 0 964 g, eA 0 144 mk, eA 0 24 fr, eA 0 600 bY], c)) rfl (wr_id (by omega) (by omega)) (show wr 0 = 0 by decide) (by omega) ?_
        refine xCallWV (N := 2) (M2 := m_M_read) (pc2 := 125) (ls2 := [some (eR 0), some (eI y)]) (st2 := []) (y := m_M_readStatement) (as := [some (eR 0)]) (w2 := ([mQ P, eA 0 964 g, eA 0 144 mk, eA 0 24 fr, eA 0 600 bY], c)) rfl q1 ?_
        refine xSeg (N := 1) (r := ev m_M_read 110 [some (eR 0), some (eI y)] [] ([mQ P1, eA 0 964 g1, eA 0 144 mk1, eA 0 24 fr1, eA 0 600 bY], c)) rfl ?_
        refine xEqF (N := 3) (x := P1 18) (y := 0) (A := ev m_M_read 117 [some (eR 0), some (eI y)] [] ([mQ P1, eA 0 964 g1, eA 0 144 mk1, eA 0 24 fr1, eA 0 600 bY], c)) (B := ev m_M_read 131 [some (eR 0), some (eI y)] [] ([mQ P1, eA 0 964 g1, eA 0 144 mk1, eA 0 24 fr1, eA 0 600 bY], c)) rfl (wr_id (by omega) (by omega)) (show wr 0 = 0 by decide) (by omega) ?_
        refine xSeg (N := 1) (r := some (.inl none, ([mQ P1, eA 0 964 g1, eA 0 144 mk1, eA 0 24 fr1, eA 0 600 bY], c))) rfl ?_
        rfl
      | inr q =>
        obtain ⟨a', e'⟩ := q
        rw [hst] at hp
        obtain ⟨p1, p2⟩ := hp
        have hm := staS_m (tkE_le hen) hst
        obtain ⟨P', g', mk', fr', j1, j2, j3⟩ := ih e' a' P1 g1 mk1 fr1 y p1 (by omega) p2 (staS_iA (tkE_le hen) hI hst)
        refine ⟨P', g', mk', fr', j1, mU_tr u1 j2, ?_⟩
        generalize tkT (tkK B n e) = tk9 at *
        refine xEqT (N := 3) (x := P 18) (y := 0) (A := ev m_M_read 117 [some (eR 0), some (eI y)] [] ([mQ P, eA 0 964 g, eA 0 144 mk, eA 0 24 fr, eA 0 600 bY], c)) (B := ev m_M_read 131 [some (eR 0), some (eI y)] [] ([mQ P, eA 0 964 g, eA 0 144 mk, eA 0 24 fr, eA 0 600 bY], c)) rfl (wr_id (by omega) (by omega)) (show wr 0 = 0 by decide) (by omega) ?_
        refine xEqF (N := 3) (x := P 15) (y := 0) (A := ev m_M_read 131 [some (eR 0), some (eI y)] [] ([mQ P, eA 0 964 g, eA 0 144 mk, eA 0 24 fr, eA 0 600 bY], c)) (B := ev m_M_read 124 [some (eR 0), some (eI y)] [] ([mQ P, eA 0 964 g, eA 0 144 mk, eA 0 24 fr, eA 0 600 bY], c)) rfl (wr_id (by omega) (by omega)) (show wr 0 = 0 by decide) (by omega) ?_
        refine xCallWV (N := 2) (M2 := m_M_read) (pc2 := 125) (ls2 := [some (eR 0), some (eI y)]) (st2 := []) (y := m_M_readStatement) (as := [some (eR 0)]) (w2 := ([mQ P, eA 0 964 g, eA 0 144 mk, eA 0 24 fr, eA 0 600 bY], c)) rfl q1 ?_
        refine xSeg (N := 1) (r := ev m_M_read 110 [some (eR 0), some (eI y)] [] ([mQ P1, eA 0 964 g1, eA 0 144 mk1, eA 0 24 fr1, eA 0 600 bY], c)) rfl ?_
        exact j3
end
