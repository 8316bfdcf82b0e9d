/-! The model reads a guess. -/
section
variable {P g mk fr bY : Nat → Int} {B : Nat → Nat} {n : Nat} {c : Nat × Nat} {a : eRow}
set_option maxRecDepth 100000
theorem m_rGuess {e : Nat} (h : mS B n P (.inr e)) (hn : n ≤ 600) (hby : ∀ i, i < n → bY i = (B i : Int) ∧ B i < 256) (hg : rg g a) (hI : iA a) : ∃ P' g' mk' fr' : Nat → Int, mE B n a P' g' (staS B n a (tkS B n e) (tkE B n e) 4) ∧ mU P P' ∧ ev m_M_readGuess 0 [some (eR 0)] [] ([mQ P, eA 0 964 g, eA 0 144 mk, eA 0 24 fr, eA 0 600 bY], c) = some (.inl none, ([mQ P', eA 0 964 g', eA 0 144 mk', eA 0 24 fr', eA 0 600 bY], c)) := by
  obtain ⟨hG, hV, hO, hT, hM⟩ := hI
  have hI : iA a := ⟨hG, hV, hO, hT, hM⟩
  have r3 := hg 3 (by omega)
  have g3 := hG.1.2.2.2.2
  have b2 := hV.1
  obtain ⟨P1, s1, u1, q1⟩ := m_nx (g := g) (mk := mk) (fr := fr) (c := c) h hn hby
  have s1 : mS B n P1 (.inr (tkE B n e)) := s1
  obtain ⟨b, hb⟩ : ∃ b : Bool, b = decide (tkK B n (tkE B n e) = 2) := ⟨_, rfl⟩
  obtain ⟨zb, hzb⟩ : ∃ zb : Int, zb = bI b := ⟨_, rfl⟩
  obtain ⟨P2, v2, s2, u2, q2⟩ := m_chk (g := g) (mk := mk) (fr := fr) (bY := bY) (c := c) (b := b) (k := 1) (x := zb) (z := 1) s1 hzb rfl (by omega)
  have u9 := mU_tr u1 u2
  have hmid : ∀ R : eRes, ev m_M_readGuess 23 [some (eR 0)] [] ([mQ P2, eA 0 964 g, eA 0 144 mk, eA 0 24 fr, eA 0 600 bY], c) = R → ev m_M_readGuess 0 [some (eR 0)] [] ([mQ P, eA 0 964 g, eA 0 144 mk, eA 0 24 fr, eA 0 600 bY], c) = R := fun R hR => by
    have e15 := s1.1.2.2.2.1
    have t15 := tkT_le (k := tkK B n (tkE B n e))
    have hT2 := tkT_2 (k := tkK B n (tkE B n e))
    have h0 : ¬ (P1 15 = 2) → 0 = zb := fun hh => by rw [hzb, hb, decide_eq_false (by omega)]; rfl
    have h1 : (P1 15 = 2) → 1 = zb := fun hh => by rw [hzb, hb, decide_eq_true (by omega)]; rfl
    have ht : ∀ z, z = zb → ev m_M_readGuess 18 [some (eR 0)] [eI z, eR 0] ([mQ P1, eA 0 964 g, eA 0 144 mk, eA 0 24 fr, eA 0 600 bY], c) = R := fun z hz => by
      rw [hz]
      refine xCallW (N := 2) (M2 := m_M_readGuess) (pc2 := 19) (ls2 := [some (eR 0)]) (st2 := []) (y := m_M_check) (as := [some (eR 0), some (eI zb), some (eI 1)]) (w2 := ([mQ P1, eA 0 964 g, eA 0 144 mk, eA 0 24 fr, eA 0 600 bY], c)) rfl q2 ?_
      refine xSeg (N := 1) (r := ev m_M_readGuess 23 [some (eR 0)] [] ([mQ P2, eA 0 964 g, eA 0 144 mk, eA 0 24 fr, eA 0 600 bY], c)) rfl ?_
      exact hR
    generalize tkT (tkK B n (tkE B n e)) = tk9 at *
    refine xCallWV (N := 2) (M2 := m_M_readGuess) (pc2 := 1) (ls2 := [some (eR 0)]) (st2 := []) (y := m_M_next) (as := [some (eR 0)]) (w2 := ([mQ P, eA 0 964 g, eA 0 144 mk, eA 0 24 fr, eA 0 600 bY], c)) rfl q1 ?_
    refine xEq (N := 5) (x := P1 15) (y := 2) (A := ev m_M_readGuess 13 [some (eR 0)] [eR 0] ([mQ P1, eA 0 964 g, eA 0 144 mk, eA 0 24 fr, eA 0 600 bY], c)) (B := ev m_M_readGuess 17 [some (eR 0)] [eR 0] ([mQ P1, eA 0 964 g, eA 0 144 mk, eA 0 24 fr, eA 0 600 bY], c)) rfl (wr_id (by omega) (by omega)) (show wr 2 = 2 by decide) (fun h10 => ?_) (fun h10 => ?_)
    · refine xSeg (N := 2) (r := ev m_M_readGuess 18 [some (eR 0)] [eI 1, eR 0] ([mQ P1, eA 0 964 g, eA 0 144 mk, eA 0 24 fr, eA 0 600 bY], c)) rfl ?_
      exact ht _ (h1 (by omega))
    · refine xSeg (N := 1) (r := ev m_M_readGuess 18 [some (eR 0)] [eI 0, eR 0] ([mQ P1, eA 0 964 g, eA 0 144 mk, eA 0 24 fr, eA 0 600 bY], c)) rfl ?_
      exact ht _ (h0 (by omega))
  have hbad : ∀ z Q, mS B n Q (.inl z) → mU P Q → staS B n a (tkS B n e) (tkE B n e) 4 = .inl z → (∀ R : eRes, some (.inl none, ([mQ Q, eA 0 964 g, eA 0 144 mk, eA 0 24 fr, eA 0 600 bY], c)) = R → ev m_M_readGuess 0 [some (eR 0)] [] ([mQ P, eA 0 964 g, eA 0 144 mk, eA 0 24 fr, eA 0 600 bY], c) = R) → ∃ P' g' mk' fr' : Nat → Int, mE B n a P' g' (staS B n a (tkS B n e) (tkE B n e) 4) ∧ mU P P' ∧ ev m_M_readGuess 0 [some (eR 0)] [] ([mQ P, eA 0 964 g, eA 0 144 mk, eA 0 24 fr, eA 0 600 bY], c) = some (.inl none, ([mQ P', eA 0 964 g', eA 0 144 mk', eA 0 24 fr', eA 0 600 bY], c)) := fun z Q hs hu hst hq => by
    rw [hst]
    exact ⟨Q, g, mk, fr, ⟨hs, hg⟩, hu, hq _ rfl⟩
  have herr150 : ∀ (z : Nat × Nat) (Q : Nat → Int) (x1 x2 x3 : Int), mS B n Q (.inl z) → ∃ Q' : Nat → Int, mS B n Q' (.inl z) ∧ mU Q Q' ∧ ev m_M_readGuess 150 [some (eR 0), some (eI x1), some (eI x2), some (eI x3)] [] ([mQ Q, eA 0 964 g, eA 0 144 mk, eA 0 24 fr, eA 0 600 bY], c) = some (.inl none, ([mQ Q', eA 0 964 g, eA 0 144 mk, eA 0 24 fr, eA 0 600 bY], c)) := fun z Q x1 x2 x3 hs => by
    obtain ⟨P5, v5, s5, u5, q5⟩ := m_chk (g := g) (mk := mk) (fr := fr) (bY := bY) (c := c) (b := true) (k := 6) (x := 1) (z := 6) hs rfl rfl (by omega)
    obtain ⟨P6, s6, u6, q6⟩ := m_nx (g := g) (mk := mk) (fr := fr) (c := c) s5 hn hby
    obtain ⟨P7, s7, u7, q7⟩ := m_fin (g := g) (mk := mk) (fr := fr) (c := c) s6 hn hby
    have hne := mS_L hs
    obtain ⟨_, c18⟩ := mS_at hs
    have hne7 := mS_L (z := z) s7
    obtain ⟨_, d18⟩ := mS_at s7
    refine ⟨P7, s7, mU_tr (mU_tr u5 u6) u7, ?_⟩
    refine xEqF (N := 4) (x := Q 18) (y := 0) (A := ev m_M_readGuess 158 [some (eR 0), some (eI x1), some (eI x2), some (eI x3)] [eR 0] ([mQ Q, eA 0 964 g, eA 0 144 mk, eA 0 24 fr, eA 0 600 bY], c)) (B := ev m_M_readGuess 170 [some (eR 0), some (eI x1), some (eI x2), some (eI x3)] [eR 0] ([mQ Q, eA 0 964 g, eA 0 144 mk, eA 0 24 fr, eA 0 600 bY], c)) rfl (wr_id (by omega) (by omega)) (show wr 0 = 0 by decide) (by omega) ?_
    refine xCallW (N := 4) (M2 := m_M_readGuess) (pc2 := 177) (ls2 := [some (eR 0), some (eI x1), some (eI x2), some (eI x3)]) (st2 := []) (y := m_M_check) (as := [some (eR 0), some (eI 1), some (eI 6)]) (w2 := ([mQ Q, eA 0 964 g, eA 0 144 mk, eA 0 24 fr, eA 0 600 bY], c)) rfl q5 ?_
    refine xCallWV (N := 3) (M2 := m_M_readGuess) (pc2 := 182) (ls2 := [some (eR 0), some (eI x1), some (eI x2), some (eI x3)]) (st2 := []) (y := m_M_next) (as := [some (eR 0)]) (w2 := ([mQ P5, eA 0 964 g, eA 0 144 mk, eA 0 24 fr, eA 0 600 bY], c)) rfl q6 ?_
    refine xCallWV (N := 2) (M2 := m_M_readGuess) (pc2 := 186) (ls2 := [some (eR 0), some (eI x1), some (eI x2), some (eI x3)]) (st2 := []) (y := m_M_finish) (as := [some (eR 0)]) (w2 := ([mQ P6, eA 0 964 g, eA 0 144 mk, eA 0 24 fr, eA 0 600 bY], c)) rfl q7 ?_
    refine xEqF (N := 3) (x := P7 18) (y := 0) (A := ev m_M_readGuess 196 [some (eR 0), some (eI x1), some (eI x2), some (eI x3)] [] ([mQ P7, eA 0 964 g, eA 0 144 mk, eA 0 24 fr, eA 0 600 bY], c)) (B := ev m_M_readGuess 214 [some (eR 0), some (eI x1), some (eI x2), some (eI x3)] [] ([mQ P7, eA 0 964 g, eA 0 144 mk, eA 0 24 fr, eA 0 600 bY], c)) rfl (wr_id (by omega) (by omega)) (show wr 0 = 0 by decide) (by omega) ?_
    refine xSeg (N := 1) (r := some (.inl none, ([mQ P7, eA 0 964 g, eA 0 144 mk, eA 0 24 fr, eA 0 600 bY], c))) rfl ?_
    rfl
  have herr93 : ∀ (z : Nat × Nat) (Q : Nat → Int) (x1 : Int), mS B n Q (.inl z) → ∃ Q' : Nat → Int, mS B n Q' (.inl z) ∧ mU Q Q' ∧ ev m_M_readGuess 93 [some (eR 0), some (eI x1)] [] ([mQ Q, eA 0 964 g, eA 0 144 mk, eA 0 24 fr, eA 0 600 bY], c) = some (.inl none, ([mQ Q', eA 0 964 g, eA 0 144 mk, eA 0 24 fr, eA 0 600 bY], c)) := fun z Q x1 hs => by
    obtain ⟨P5, v5, s5, u5, q5⟩ := m_chk (g := g) (mk := mk) (fr := fr) (bY := bY) (c := c) (b := false) (k := 4) (x := 0) (z := 4) hs rfl rfl (by omega)
    obtain ⟨P6, s6, u6, q6⟩ := herr150 z P5 x1 0 (-1) s5
    have hne := mS_L hs
    obtain ⟨_, c18⟩ := mS_at hs
    refine ⟨P6, s6, mU_tr u5 u6, ?_⟩
    refine xEqF (N := 3) (x := Q 18) (y := 0) (A := ev m_M_readGuess 100 [some (eR 0), some (eI x1)] [] ([mQ Q, eA 0 964 g, eA 0 144 mk, eA 0 24 fr, eA 0 600 bY], c)) (B := ev m_M_readGuess 115 [some (eR 0), some (eI x1)] [] ([mQ Q, eA 0 964 g, eA 0 144 mk, eA 0 24 fr, eA 0 600 bY], c)) rfl (wr_id (by omega) (by omega)) (show wr 0 = 0 by decide) (by omega) ?_
    refine xEqT (N := 4) (x := 0) (y := 0) (A := ev m_M_readGuess 121 [some (eR 0), some (eI x1), some (eI 0)] [] ([mQ Q, eA 0 964 g, eA 0 144 mk, eA 0 24 fr, eA 0 600 bY], c)) (B := ev m_M_readGuess 125 [some (eR 0), some (eI x1), some (eI 0)] [] ([mQ Q, eA 0 964 g, eA 0 144 mk, eA 0 24 fr, eA 0 600 bY], c)) rfl (show wr 0 = 0 by decide) (show wr 0 = 0 by decide) (by decide) ?_
    refine xEqT (N := 7) (x := (-1)) (y := (-1)) (A := ev m_M_readGuess 144 [some (eR 0), some (eI x1), some (eI 0), some (eI (-1))] [eR 0] ([mQ Q, eA 0 964 g, eA 0 144 mk, eA 0 24 fr, eA 0 600 bY], c)) (B := ev m_M_readGuess 140 [some (eR 0), some (eI x1), some (eI 0), some (eI (-1))] [eR 0] ([mQ Q, eA 0 964 g, eA 0 144 mk, eA 0 24 fr, eA 0 600 bY], c)) rfl (show wr (-1) = (-1) by decide) (show wr (-1) = (-1) by decide) (by decide) ?_
    refine xCallW (N := 3) (M2 := m_M_readGuess) (pc2 := 146) (ls2 := [some (eR 0), some (eI x1), some (eI 0), some (eI (-1))]) (st2 := []) (y := m_M_check) (as := [some (eR 0), some (eI 0), some (eI 4)]) (w2 := ([mQ Q, eA 0 964 g, eA 0 144 mk, eA 0 24 fr, eA 0 600 bY], c)) rfl q5 ?_
    refine xSeg (N := 1) (r := ev m_M_readGuess 150 [some (eR 0), some (eI x1), some (eI 0), some (eI (-1))] [] ([mQ P5, eA 0 964 g, eA 0 144 mk, eA 0 24 fr, eA 0 600 bY], c)) rfl ?_
    exact q6
  have herr70 : ∀ (z : Nat × Nat) (Q : Nat → Int) (x1 : Int), mS B n Q (.inl z) → ∃ Q' : Nat → Int, mS B n Q' (.inl z) ∧ mU Q Q' ∧ ev m_M_readGuess 70 [some (eR 0), some (eI x1)] [] ([mQ Q, eA 0 964 g, eA 0 144 mk, eA 0 24 fr, eA 0 600 bY], c) = some (.inl none, ([mQ Q', eA 0 964 g, eA 0 144 mk, eA 0 24 fr, eA 0 600 bY], c)) := fun z Q x1 hs => by
    obtain ⟨P5, s5, u5, q5⟩ := m_nx (g := g) (mk := mk) (fr := fr) (c := c) hs hn hby
    obtain ⟨⟨e0, hk0⟩, c18⟩ := mS_at s5
    have t15 := tkT_le (k := tkK B n e0)
    have k15 := hk0.2.2.2.1
    generalize tkT (tkK B n e0) = tk9 at *
    by_cases h3 : P5 15 = 3
    · obtain ⟨P6, v6, s6, u6, q6⟩ := m_chk (g := g) (mk := mk) (fr := fr) (bY := bY) (c := c) (b := true) (k := 1) (x := 1) (z := 1) s5 rfl rfl (by omega)
      obtain ⟨P7, s7, u7, q7⟩ := herr93 z P6 x1 s6
      refine ⟨P7, s7, mU_tr u5 (mU_tr u6 u7), ?_⟩
      refine xCallWV (N := 2) (M2 := m_M_readGuess) (pc2 := 71) (ls2 := [some (eR 0), some (eI x1)]) (st2 := []) (y := m_M_next) (as := [some (eR 0)]) (w2 := ([mQ Q, eA 0 964 g, eA 0 144 mk, eA 0 24 fr, eA 0 600 bY], c)) rfl q5 ?_
      refine xEqT (N := 5) (x := P5 15) (y := 3) (A := ev m_M_readGuess 83 [some (eR 0), some (eI x1)] [eR 0] ([mQ P5, eA 0 964 g, eA 0 144 mk, eA 0 24 fr, eA 0 600 bY], c)) (B := ev m_M_readGuess 87 [some (eR 0), some (eI x1)] [eR 0] ([mQ P5, eA 0 964 g, eA 0 144 mk, eA 0 24 fr, eA 0 600 bY], c)) rfl (wr_id (by omega) (by omega)) (show wr 3 = 3 by decide) (by omega) ?_
      refine xCallW (N := 4) (M2 := m_M_readGuess) (pc2 := 89) (ls2 := [some (eR 0), some (eI x1)]) (st2 := []) (y := m_M_check) (as := [some (eR 0), some (eI 1), some (eI 1)]) (w2 := ([mQ P5, eA 0 964 g, eA 0 144 mk, eA 0 24 fr, eA 0 600 bY], c)) rfl q6 ?_
      refine xSeg (N := 1) (r := ev m_M_readGuess 93 [some (eR 0), some (eI x1)] [] ([mQ P6, eA 0 964 g, eA 0 144 mk, eA 0 24 fr, eA 0 600 bY], c)) rfl ?_
      exact q7
    · obtain ⟨P6, v6, s6, u6, q6⟩ := m_chk (g := g) (mk := mk) (fr := fr) (bY := bY) (c := c) (b := false) (k := 1) (x := 0) (z := 1) s5 rfl rfl (by omega)
      obtain ⟨P7, s7, u7, q7⟩ := herr93 z P6 x1 s6
      refine ⟨P7, s7, mU_tr u5 (mU_tr u6 u7), ?_⟩
      refine xCallWV (N := 2) (M2 := m_M_readGuess) (pc2 := 71) (ls2 := [some (eR 0), some (eI x1)]) (st2 := []) (y := m_M_next) (as := [some (eR 0)]) (w2 := ([mQ Q, eA 0 964 g, eA 0 144 mk, eA 0 24 fr, eA 0 600 bY], c)) rfl q5 ?_
      refine xEqF (N := 5) (x := P5 15) (y := 3) (A := ev m_M_readGuess 83 [some (eR 0), some (eI x1)] [eR 0] ([mQ P5, eA 0 964 g, eA 0 144 mk, eA 0 24 fr, eA 0 600 bY], c)) (B := ev m_M_readGuess 87 [some (eR 0), some (eI x1)] [eR 0] ([mQ P5, eA 0 964 g, eA 0 144 mk, eA 0 24 fr, eA 0 600 bY], c)) rfl (wr_id (by omega) (by omega)) (show wr 3 = 3 by decide) (by omega) ?_
      refine xCallW (N := 3) (M2 := m_M_readGuess) (pc2 := 89) (ls2 := [some (eR 0), some (eI x1)]) (st2 := []) (y := m_M_check) (as := [some (eR 0), some (eI 0), some (eI 1)]) (w2 := ([mQ P5, eA 0 964 g, eA 0 144 mk, eA 0 24 fr, eA 0 600 bY], c)) rfl q6 ?_
      refine xSeg (N := 1) (r := ev m_M_readGuess 93 [some (eR 0), some (eI x1)] [] ([mQ P6, eA 0 964 g, eA 0 144 mk, eA 0 24 fr, eA 0 600 bY], c)) rfl ?_
      exact q7
  have hst : ∀ q, gueS B n a (tkE B n e) = q → staS B n a (tkS B n e) (tkE B n e) 4 = finS B n (match q with | .inl x => .inl x | .inr ((k, w), e1) => .inr (gsA a k w, e1)) := fun q hq => by
    show finS B n (match gueS B n a (tkE B n e) with | .inl x => .inl x | .inr ((k, w), e1) => .inr (gsA a k w, e1)) = _
    rw [hq]
  by_cases hK : tkK B n (tkE B n e) = 2
  · rw [decide_eq_true hK] at hb
    rw [hb] at s2
    have s2' : mS B n P2 (.inr (tkE B n e)) := s2
    have h218 := s2'.2.1
    have h216 := s2'.1.2.2.2.2.1
    have hvl := tkV_lt (B := B) s2'.1.1.2 (fun i hi => (hby i hi).2)
    have hVC := tkV_C s2'.1.1.2 hK
    by_cases hk : tkC B n (tkE B n e) < a 3
    · have hve : tkV B n (tkE B n e) = tkC B n (tkE B n e) := by omega
      rw [hve] at h216
      have hnu : nuS B n (tkE B n e) 0 (a 3) 4 = .inr (tkC B n (tkE B n e), tkE B n (tkE B n e)) := by
        unfold nuS
        rw [if_pos hK, if_pos ⟨by omega, hk⟩]
      obtain ⟨P3, v3, s3, u3, q3⟩ := m_chk (g := g) (mk := mk) (fr := fr) (bY := bY) (c := c) (b := true) (k := 4) (x := 1) (z := 4) s2' rfl rfl (by omega)
      have s3 : mS B n P3 (.inr (tkE B n e)) := s3
      have h318 := s3.2.1
      have h316 := s3.1.2.2.2.2.1
      rw [hve] at h316
      generalize hkq : tkC B n (tkE B n e) = k at *
      obtain ⟨P4, s4, u4, q4⟩ := m_nx (g := g) (mk := mk) (fr := fr) (c := c) s3 hn hby
      have s4 : mS B n P4 (.inr (tkE B n (tkE B n e))) := s4
      have hgu : gueS B n a (tkE B n e) = (if tkK B n (tkE B n (tkE B n e)) = 1 then (if fwS a B (tkS B n (tkE B n (tkE B n e))) (tkE B n (tkE B n (tkE B n e)) - tkS B n (tkE B n (tkE B n e))) = -1 then .inl (4, tkS B n (tkE B n (tkE B n e))) else (if rfs (a 4) ((op a k).testBit (fwS a B (tkS B n (tkE B n (tkE B n e))) (tkE B n (tkE B n (tkE B n e)) - tkS B n (tkE B n (tkE B n e)))).toNat) (decide (pc 30 (op a k) = 1)) = 0 then .inr ((k, (fwS a B (tkS B n (tkE B n (tkE B n e))) (tkE B n (tkE B n (tkE B n e)) - tkS B n (tkE B n (tkE B n e)))).toNat), tkE B n (tkE B n (tkE B n e))) else .inl (6, tkS B n (tkE B n (tkE B n e))))) else .inl (1, tkS B n (tkE B n (tkE B n e)))) := by
        unfold gueS
        rw [hnu]
      generalize he2 : tkE B n (tkE B n e) = e2 at *
      have hmid70 : ∀ R : eRes, ev m_M_readGuess 70 [some (eR 0), some (eI (P3 16))] [] ([mQ P3, eA 0 964 g, eA 0 144 mk, eA 0 24 fr, eA 0 600 bY], c) = R → ev m_M_readGuess 0 [some (eR 0)] [] ([mQ P, eA 0 964 g, eA 0 144 mk, eA 0 24 fr, eA 0 600 bY], c) = R := fun R hR => by
        refine hmid R ?_
        refine xEqT (N := 4) (x := P2 18) (y := 0) (A := ev m_M_readGuess 31 [some (eR 0)] [eR 0] ([mQ P2, eA 0 964 g, eA 0 144 mk, eA 0 24 fr, eA 0 600 bY], c)) (B := ev m_M_readGuess 44 [some (eR 0)] [eR 0] ([mQ P2, eA 0 964 g, eA 0 144 mk, eA 0 24 fr, eA 0 600 bY], c)) rfl (wr_id (by omega) (by omega)) (show wr 0 = 0 by decide) (by omega) ?_
        refine xLd (N := 6) (n := 964) (i := 3) (F := fun zq => ev m_M_readGuess 41 [some (eR 0)] [eI (g zq), eI (P2 16), eR 0] ([mQ P2, eA 0 964 g, eA 0 144 mk, eA 0 24 fr, eA 0 600 bY], c)) (k := 3) rfl (show wr 3 = ((3 : Nat) : Int) by decide) (by omega) ?_
        refine xLtT (N := 1) (x := P2 16) (y := g 3) (A := ev m_M_readGuess 44 [some (eR 0)] [eR 0] ([mQ P2, eA 0 964 g, eA 0 144 mk, eA 0 24 fr, eA 0 600 bY], c)) (B := ev m_M_readGuess 48 [some (eR 0)] [eR 0] ([mQ P2, eA 0 964 g, eA 0 144 mk, eA 0 24 fr, eA 0 600 bY], c)) rfl (wr_id (by omega) (by omega)) (wr_id (by omega) (by omega)) (by omega) ?_
        refine xCallW (N := 4) (M2 := m_M_readGuess) (pc2 := 50) (ls2 := [some (eR 0)]) (st2 := []) (y := m_M_check) (as := [some (eR 0), some (eI 1), some (eI 4)]) (w2 := ([mQ P2, eA 0 964 g, eA 0 144 mk, eA 0 24 fr, eA 0 600 bY], c)) rfl q3 ?_
        refine xEqT (N := 4) (x := P3 18) (y := 0) (A := ev m_M_readGuess 61 [some (eR 0)] [] ([mQ P3, eA 0 964 g, eA 0 144 mk, eA 0 24 fr, eA 0 600 bY], c)) (B := ev m_M_readGuess 68 [some (eR 0)] [] ([mQ P3, eA 0 964 g, eA 0 144 mk, eA 0 24 fr, eA 0 600 bY], c)) rfl (wr_id (by omega) (by omega)) (show wr 0 = 0 by decide) (by omega) ?_
        refine xSeg (N := 4) (r := ev m_M_readGuess 70 [some (eR 0), some (eI (P3 16))] [] ([mQ P3, eA 0 964 g, eA 0 144 mk, eA 0 24 fr, eA 0 600 bY], c)) rfl ?_
        exact hR
      have h415 := s4.1.2.2.2.1
      have t15 := tkT_le (k := tkK B n e2)
      have hT3 := tkT_3 (k := tkK B n e2)
      have u4' := mU_tr u9 (mU_tr u3 u4)
      by_cases hK2 : tkK B n e2 = 1
      · rw [if_pos hK2] at hgu
        obtain ⟨P5, v5, s5, u5, q5⟩ := m_chk (g := g) (mk := mk) (fr := fr) (bY := bY) (c := c) (b := true) (k := 1) (x := 1) (z := 1) s4 rfl rfl (by omega)
        have s5 : mS B n P5 (.inr e2) := s5
        have hcf := m_code (g := g) (mk := mk) (fr := fr) (c := c) s5 hn hby hK2
        have h518 := s5.2.1
        generalize tkT (tkK B n e2) = tk9 at *
        have hmid93 : ∀ R : eRes, ev m_M_readGuess 93 [some (eR 0), some (eI (P3 16))] [] ([mQ P5, eA 0 964 g, eA 0 144 mk, eA 0 24 fr, eA 0 600 bY], c) = R → ev m_M_readGuess 0 [some (eR 0)] [] ([mQ P, eA 0 964 g, eA 0 144 mk, eA 0 24 fr, eA 0 600 bY], c) = R := fun R hR => by
          refine hmid70 R ?_
          refine xCallWV (N := 2) (M2 := m_M_readGuess) (pc2 := 71) (ls2 := [some (eR 0), some (eI (P3 16))]) (st2 := []) (y := m_M_next) (as := [some (eR 0)]) (w2 := ([mQ P3, eA 0 964 g, eA 0 144 mk, eA 0 24 fr, eA 0 600 bY], c)) rfl q4 ?_
          refine xEqT (N := 5) (x := P4 15) (y := 3) (A := ev m_M_readGuess 83 [some (eR 0), some (eI (P3 16))] [eR 0] ([mQ P4, eA 0 964 g, eA 0 144 mk, eA 0 24 fr, eA 0 600 bY], c)) (B := ev m_M_readGuess 87 [some (eR 0), some (eI (P3 16))] [eR 0] ([mQ P4, eA 0 964 g, eA 0 144 mk, eA 0 24 fr, eA 0 600 bY], c)) rfl (wr_id (by omega) (by omega)) (show wr 3 = 3 by decide) (by omega) ?_
          refine xCallW (N := 4) (M2 := m_M_readGuess) (pc2 := 89) (ls2 := [some (eR 0), some (eI (P3 16))]) (st2 := []) (y := m_M_check) (as := [some (eR 0), some (eI 1), some (eI 1)]) (w2 := ([mQ P4, eA 0 964 g, eA 0 144 mk, eA 0 24 fr, eA 0 600 bY], c)) rfl q5 ?_
          refine xSeg (N := 1) (r := ev m_M_readGuess 93 [some (eR 0), some (eI (P3 16))] [] ([mQ P5, eA 0 964 g, eA 0 144 mk, eA 0 24 fr, eA 0 600 bY], c)) rfl ?_
          exact hR
        by_cases hL : 2 ≤ tkE B n e2 - tkS B n e2 ∧ tkE B n e2 - tkS B n e2 ≤ 6
        · rw [if_pos hL] at hcf
          have hlet := tk_let s5.1.1.2 hK2
          have hok := cdF_ok hlet hL.1 hL.2
          obtain ⟨hlo, hc0⟩ := loN_L hok
          have hfw := fw_cd hV hlet hL.1 hL.2
          generalize hcdq : cdF B (tkS B n e2) (tkE B n e2 - tkS B n e2) = cd at *
          obtain ⟨zd, hzd⟩ : ∃ zd : Int, zd = (cd : Int) := ⟨_, rfl⟩
          rw [← hzd] at hcf
          have hcl := hok.2.2.1.1
          have hwo := n_wordOf (c := (0, 0)) hg hV hzd (by omega)
          rw [hfw] at hwo
          have hfb := fwS_b (a := a) (B := B) (S := tkS B n e2) (L := tkE B n e2 - tkS B n e2)
          generalize fwS a B (tkS B n e2) (tkE B n e2 - tkS B n e2) = fi at *
          by_cases hf : fi = -1
          · rw [if_pos hf] at hgu
            obtain ⟨P6, v6, s6, u6, q6⟩ := m_chk (g := g) (mk := mk) (fr := fr) (bY := bY) (c := c) (b := false) (k := 4) (x := 0) (z := 4) s5 rfl rfl (by omega)
            obtain ⟨P7, s7, u7, q7⟩ := herr150 (4, tkS B n e2) P6 (P3 16) zd fi s6
            refine hbad _ P7 s7 (mU_tr u4' (mU_tr u5 (mU_tr u6 u7))) (hst _ hgu) (fun R hR => hmid93 R ?_)
            refine xEqT (N := 3) (x := P5 18) (y := 0) (A := ev m_M_readGuess 100 [some (eR 0), some (eI (P3 16))] [] ([mQ P5, eA 0 964 g, eA 0 144 mk, eA 0 24 fr, eA 0 600 bY], c)) (B := ev m_M_readGuess 115 [some (eR 0), some (eI (P3 16))] [] ([mQ P5, eA 0 964 g, eA 0 144 mk, eA 0 24 fr, eA 0 600 bY], c)) rfl (wr_id (by omega) (by omega)) (show wr 0 = 0 by decide) (by omega) ?_
            refine xCallW (N := 6) (M2 := m_M_readGuess) (pc2 := 109) (ls2 := [some (eR 0), some (eI (P3 16))]) (st2 := []) (y := m_M_codeFrom) (as := [some (eR 0), some (eI (P5 14)), some (eI (P5 17))]) (w2 := ([mQ P5, eA 0 964 g, eA 0 144 mk, eA 0 24 fr, eA 0 600 bY], c)) rfl hcf ?_
            refine xEqF (N := 4) (x := zd) (y := 0) (A := ev m_M_readGuess 121 [some (eR 0), some (eI (P3 16)), some (eI zd)] [] ([mQ P5, eA 0 964 g, eA 0 144 mk, eA 0 24 fr, eA 0 600 bY], c)) (B := ev m_M_readGuess 125 [some (eR 0), some (eI (P3 16)), some (eI zd)] [] ([mQ P5, eA 0 964 g, eA 0 144 mk, eA 0 24 fr, eA 0 600 bY], c)) rfl (wr_id (by omega) (by omega)) (show wr 0 = 0 by decide) (by omega) ?_
            refine xCall (N := 4) (M2 := m_M_readGuess) (pc2 := 130) (ls2 := [some (eR 0), some (eI (P3 16)), some (eI zd)]) (st2 := []) (y := m_M_wordOf) (as := [some (eR 1), some (eI zd)]) (w2 := ([mQ P5, eA 0 964 g, eA 0 144 mk, eA 0 24 fr, eA 0 600 bY], c)) rfl (nRd hwo rfl rfl rfl) ?_
            refine xEqT (N := 5) (x := fi) (y := (-1)) (A := ev m_M_readGuess 144 [some (eR 0), some (eI (P3 16)), some (eI zd), some (eI fi)] [eR 0] ([mQ P5, eA 0 964 g, eA 0 144 mk, eA 0 24 fr, eA 0 600 bY], c)) (B := ev m_M_readGuess 140 [some (eR 0), some (eI (P3 16)), some (eI zd), some (eI fi)] [eR 0] ([mQ P5, eA 0 964 g, eA 0 144 mk, eA 0 24 fr, eA 0 600 bY], c)) rfl (wr_id (by omega) (by omega)) (show wr (-1) = (-1) by decide) (by omega) ?_
            refine xCallW (N := 3) (M2 := m_M_readGuess) (pc2 := 146) (ls2 := [some (eR 0), some (eI (P3 16)), some (eI zd), some (eI fi)]) (st2 := []) (y := m_M_check) (as := [some (eR 0), some (eI 0), some (eI 4)]) (w2 := ([mQ P5, eA 0 964 g, eA 0 144 mk, eA 0 24 fr, eA 0 600 bY], c)) rfl q6 ?_
            refine xSeg (N := 1) (r := ev m_M_readGuess 150 [some (eR 0), some (eI (P3 16)), some (eI zd), some (eI fi)] [] ([mQ P6, eA 0 964 g, eA 0 144 mk, eA 0 24 fr, eA 0 600 bY], c)) rfl ?_
            exact q7.trans hR
          · rw [if_neg hf] at hgu
            obtain ⟨P6, v6, s6, u6, q6⟩ := m_chk (g := g) (mk := mk) (fr := fr) (bY := bY) (c := c) (b := true) (k := 4) (x := 1) (z := 4) s5 rfl rfl (by omega)
            have s6 : mS B n P6 (.inr e2) := s6
            have h618 := s6.2.1
            have hO1 := (hO k hk).1
            have hrf := n_whyNotGuess (c := (0, 0)) (x := P3 16) (y := fi) (k := k) (w := fi.toNat) hg (by omega) (by omega) (by omega) hO1 (by omega) hM.1
            have hr0 := fun h => rfs_0 (md := a 4) (b := (op a k).testBit fi.toNat) (s := decide (pc 30 (op a k) = 1)) h
            have hrb : rfs (a 4) ((op a k).testBit fi.toNat) (decide (pc 30 (op a k) = 1)) ≤ 3 := by
              unfold rfs
              split
              · omega
              · cases (op a k).testBit fi.toNat <;> cases decide (pc 30 (op a k) = 1) <;> decide
            have hst2 := hst _ hgu
            generalize rfs (a 4) ((op a k).testBit fi.toNat) (decide (pc 30 (op a k) = 1)) = rf at *
            obtain ⟨rz, hrz⟩ : ∃ rz : Int, rz = (rf : Int) := ⟨_, rfl⟩
            rw [← hrz] at hrf
            by_cases hz : rf = 0
            · rw [if_pos hz] at hst2
              obtain ⟨rr1, rr2, rr3⟩ := hr0 hz
              obtain ⟨P7, v7, s7, u7, q7⟩ := m_chk (g := g) (mk := mk) (fr := fr) (bY := bY) (c := c) (b := true) (k := 6) (x := 1) (z := 6) s6 rfl rfl (by omega)
              have s7 : mS B n P7 (.inr e2) := s7
              obtain ⟨P8, s8, u8, q8⟩ := m_nx (g := g) (mk := mk) (fr := fr) (c := c) s7 hn hby
              obtain ⟨P9, s9, u10, q9⟩ := m_fin (g := g) (mk := mk) (fr := fr) (c := c) s8 hn hby
              have s9 : mS B n P9 (nxR B n (fiR B n (.inr (tkE B n e2)))) := s9
              have uf := mU_tr u4' (mU_tr u5 (mU_tr u6 (mU_tr u7 (mU_tr u8 u10))))
              rcases fin_cases (B := B) (n := n) (e := tkE B n e2) (a' := gsA a k fi.toNat) with ⟨z, f1, f2⟩ | ⟨f1, f2⟩
              · rw [f1] at s9
                have hne9 := mS_L s9
                obtain ⟨_, d18⟩ := mS_at s9
                refine hbad z P9 s9 uf (hst2.trans f2) (fun R hR => hmid93 R ?_)
                refine xEqT (N := 3) (x := P5 18) (y := 0) (A := ev m_M_readGuess 100 [some (eR 0), some (eI (P3 16))] [] ([mQ P5, eA 0 964 g, eA 0 144 mk, eA 0 24 fr, eA 0 600 bY], c)) (B := ev m_M_readGuess 115 [some (eR 0), some (eI (P3 16))] [] ([mQ P5, eA 0 964 g, eA 0 144 mk, eA 0 24 fr, eA 0 600 bY], c)) rfl (wr_id (by omega) (by omega)) (show wr 0 = 0 by decide) (by omega) ?_
                refine xCallW (N := 6) (M2 := m_M_readGuess) (pc2 := 109) (ls2 := [some (eR 0), some (eI (P3 16))]) (st2 := []) (y := m_M_codeFrom) (as := [some (eR 0), some (eI (P5 14)), some (eI (P5 17))]) (w2 := ([mQ P5, eA 0 964 g, eA 0 144 mk, eA 0 24 fr, eA 0 600 bY], c)) rfl hcf ?_
                refine xEqF (N := 4) (x := zd) (y := 0) (A := ev m_M_readGuess 121 [some (eR 0), some (eI (P3 16)), some (eI zd)] [] ([mQ P5, eA 0 964 g, eA 0 144 mk, eA 0 24 fr, eA 0 600 bY], c)) (B := ev m_M_readGuess 125 [some (eR 0), some (eI (P3 16)), some (eI zd)] [] ([mQ P5, eA 0 964 g, eA 0 144 mk, eA 0 24 fr, eA 0 600 bY], c)) rfl (wr_id (by omega) (by omega)) (show wr 0 = 0 by decide) (by omega) ?_
                refine xCall (N := 4) (M2 := m_M_readGuess) (pc2 := 130) (ls2 := [some (eR 0), some (eI (P3 16)), some (eI zd)]) (st2 := []) (y := m_M_wordOf) (as := [some (eR 1), some (eI zd)]) (w2 := ([mQ P5, eA 0 964 g, eA 0 144 mk, eA 0 24 fr, eA 0 600 bY], c)) rfl (nRd hwo rfl rfl rfl) ?_
                refine xEqF (N := 5) (x := fi) (y := (-1)) (A := ev m_M_readGuess 144 [some (eR 0), some (eI (P3 16)), some (eI zd), some (eI fi)] [eR 0] ([mQ P5, eA 0 964 g, eA 0 144 mk, eA 0 24 fr, eA 0 600 bY], c)) (B := ev m_M_readGuess 140 [some (eR 0), some (eI (P3 16)), some (eI zd), some (eI fi)] [eR 0] ([mQ P5, eA 0 964 g, eA 0 144 mk, eA 0 24 fr, eA 0 600 bY], c)) rfl (wr_id (by omega) (by omega)) (show wr (-1) = (-1) by decide) (by omega) ?_
                refine xCallW (N := 4) (M2 := m_M_readGuess) (pc2 := 146) (ls2 := [some (eR 0), some (eI (P3 16)), some (eI zd), some (eI fi)]) (st2 := []) (y := m_M_check) (as := [some (eR 0), some (eI 1), some (eI 4)]) (w2 := ([mQ P5, eA 0 964 g, eA 0 144 mk, eA 0 24 fr, eA 0 600 bY], c)) rfl q6 ?_
                refine xEqT (N := 5) (x := P6 18) (y := 0) (A := ev m_M_readGuess 158 [some (eR 0), some (eI (P3 16)), some (eI zd), some (eI fi)] [eR 0] ([mQ P6, eA 0 964 g, eA 0 144 mk, eA 0 24 fr, eA 0 600 bY], c)) (B := ev m_M_readGuess 170 [some (eR 0), some (eI (P3 16)), some (eI zd), some (eI fi)] [eR 0] ([mQ P6, eA 0 964 g, eA 0 144 mk, eA 0 24 fr, eA 0 600 bY], c)) rfl (wr_id (by omega) (by omega)) (show wr 0 = 0 by decide) (by omega) ?_
                refine xCall (N := 5) (M2 := m_M_readGuess) (pc2 := 164) (ls2 := [some (eR 0), some (eI (P3 16)), some (eI zd), some (eI fi)]) (st2 := [eR 0]) (y := m_M_whyNotGuess) (as := [some (eR 1), some (eI (P3 16)), some (eI fi)]) (w2 := ([mQ P6, eA 0 964 g, eA 0 144 mk, eA 0 24 fr, eA 0 600 bY], c)) rfl (nRd hrf rfl rfl rfl) ?_
                refine xEqT (N := 1) (x := rz) (y := 0) (A := ev m_M_readGuess 170 [some (eR 0), some (eI (P3 16)), some (eI zd), some (eI fi)] [eR 0] ([mQ P6, eA 0 964 g, eA 0 144 mk, eA 0 24 fr, eA 0 600 bY], c)) (B := ev m_M_readGuess 174 [some (eR 0), some (eI (P3 16)), some (eI zd), some (eI fi)] [eR 0] ([mQ P6, eA 0 964 g, eA 0 144 mk, eA 0 24 fr, eA 0 600 bY], c)) rfl (wr_id (by omega) (by omega)) (show wr 0 = 0 by decide) (by omega) ?_
                refine xCallW (N := 4) (M2 := m_M_readGuess) (pc2 := 177) (ls2 := [some (eR 0), some (eI (P3 16)), some (eI zd), some (eI fi)]) (st2 := []) (y := m_M_check) (as := [some (eR 0), some (eI 1), some (eI 6)]) (w2 := ([mQ P6, eA 0 964 g, eA 0 144 mk, eA 0 24 fr, eA 0 600 bY], c)) rfl q7 ?_
                refine xCallWV (N := 3) (M2 := m_M_readGuess) (pc2 := 182) (ls2 := [some (eR 0), some (eI (P3 16)), some (eI zd), some (eI fi)]) (st2 := []) (y := m_M_next) (as := [some (eR 0)]) (w2 := ([mQ P7, eA 0 964 g, eA 0 144 mk, eA 0 24 fr, eA 0 600 bY], c)) rfl q8 ?_
                refine xCallWV (N := 2) (M2 := m_M_readGuess) (pc2 := 186) (ls2 := [some (eR 0), some (eI (P3 16)), some (eI zd), some (eI fi)]) (st2 := []) (y := m_M_finish) (as := [some (eR 0)]) (w2 := ([mQ P8, eA 0 964 g, eA 0 144 mk, eA 0 24 fr, eA 0 600 bY], c)) rfl q9 ?_
                refine xEqF (N := 3) (x := P9 18) (y := 0) (A := ev m_M_readGuess 196 [some (eR 0), some (eI (P3 16)), some (eI zd), some (eI fi)] [] ([mQ P9, eA 0 964 g, eA 0 144 mk, eA 0 24 fr, eA 0 600 bY], c)) (B := ev m_M_readGuess 214 [some (eR 0), some (eI (P3 16)), some (eI zd), some (eI fi)] [] ([mQ P9, eA 0 964 g, eA 0 144 mk, eA 0 24 fr, eA 0 600 bY], c)) rfl (wr_id (by omega) (by omega)) (show wr 0 = 0 by decide) (by omega) ?_
                refine xSeg (N := 1) (r := some (.inl none, ([mQ P9, eA 0 964 g, eA 0 144 mk, eA 0 24 fr, eA 0 600 bY], c))) rfl ?_
                exact hR
              · rw [f1] at s9
                rw [hst2.trans f2]
                have h1p := pc_gt hO1 rr2 rr3
                obtain ⟨g2, mk2, fr2, n3, n4⟩ := n_takesGuess (mk := mk) (fr := fr) (P := P9) (x := P3 16) (y := fi) (k := k) (w := fi.toNat) (c := (0, 0)) hg hI (by omega) (by omega) hk h1p rr2
                refine ⟨P9, g2, mk2, fr2, ⟨s9, n3⟩, uf, hmid93 _ ?_⟩
                have h918 := s9.2.1
                have h4 := (iA_gs hI hk h1p rr2).2.2.2.2.1
                obtain ⟨zl, hzl⟩ : ∃ zl : Int, zl = ((gsA a k fi.toNat 4 : Nat) : Int) := ⟨_, rfl⟩
                rw [← hzl] at n4
                refine xEqT (N := 3) (x := P5 18) (y := 0) (A := ev m_M_readGuess 100 [some (eR 0), some (eI (P3 16))] [] ([mQ P5, eA 0 964 g, eA 0 144 mk, eA 0 24 fr, eA 0 600 bY], c)) (B := ev m_M_readGuess 115 [some (eR 0), some (eI (P3 16))] [] ([mQ P5, eA 0 964 g, eA 0 144 mk, eA 0 24 fr, eA 0 600 bY], c)) rfl (wr_id (by omega) (by omega)) (show wr 0 = 0 by decide) (by omega) ?_
                refine xCallW (N := 6) (M2 := m_M_readGuess) (pc2 := 109) (ls2 := [some (eR 0), some (eI (P3 16))]) (st2 := []) (y := m_M_codeFrom) (as := [some (eR 0), some (eI (P5 14)), some (eI (P5 17))]) (w2 := ([mQ P5, eA 0 964 g, eA 0 144 mk, eA 0 24 fr, eA 0 600 bY], c)) rfl hcf ?_
                refine xEqF (N := 4) (x := zd) (y := 0) (A := ev m_M_readGuess 121 [some (eR 0), some (eI (P3 16)), some (eI zd)] [] ([mQ P5, eA 0 964 g, eA 0 144 mk, eA 0 24 fr, eA 0 600 bY], c)) (B := ev m_M_readGuess 125 [some (eR 0), some (eI (P3 16)), some (eI zd)] [] ([mQ P5, eA 0 964 g, eA 0 144 mk, eA 0 24 fr, eA 0 600 bY], c)) rfl (wr_id (by omega) (by omega)) (show wr 0 = 0 by decide) (by omega) ?_
                refine xCall (N := 4) (M2 := m_M_readGuess) (pc2 := 130) (ls2 := [some (eR 0), some (eI (P3 16)), some (eI zd)]) (st2 := []) (y := m_M_wordOf) (as := [some (eR 1), some (eI zd)]) (w2 := ([mQ P5, eA 0 964 g, eA 0 144 mk, eA 0 24 fr, eA 0 600 bY], c)) rfl (nRd hwo rfl rfl rfl) ?_
                refine xEqF (N := 5) (x := fi) (y := (-1)) (A := ev m_M_readGuess 144 [some (eR 0), some (eI (P3 16)), some (eI zd), some (eI fi)] [eR 0] ([mQ P5, eA 0 964 g, eA 0 144 mk, eA 0 24 fr, eA 0 600 bY], c)) (B := ev m_M_readGuess 140 [some (eR 0), some (eI (P3 16)), some (eI zd), some (eI fi)] [eR 0] ([mQ P5, eA 0 964 g, eA 0 144 mk, eA 0 24 fr, eA 0 600 bY], c)) rfl (wr_id (by omega) (by omega)) (show wr (-1) = (-1) by decide) (by omega) ?_
                refine xCallW (N := 4) (M2 := m_M_readGuess) (pc2 := 146) (ls2 := [some (eR 0), some (eI (P3 16)), some (eI zd), some (eI fi)]) (st2 := []) (y := m_M_check) (as := [some (eR 0), some (eI 1), some (eI 4)]) (w2 := ([mQ P5, eA 0 964 g, eA 0 144 mk, eA 0 24 fr, eA 0 600 bY], c)) rfl q6 ?_
                refine xEqT (N := 5) (x := P6 18) (y := 0) (A := ev m_M_readGuess 158 [some (eR 0), some (eI (P3 16)), some (eI zd), some (eI fi)] [eR 0] ([mQ P6, eA 0 964 g, eA 0 144 mk, eA 0 24 fr, eA 0 600 bY], c)) (B := ev m_M_readGuess 170 [some (eR 0), some (eI (P3 16)), some (eI zd), some (eI fi)] [eR 0] ([mQ P6, eA 0 964 g, eA 0 144 mk, eA 0 24 fr, eA 0 600 bY], c)) rfl (wr_id (by omega) (by omega)) (show wr 0 = 0 by decide) (by omega) ?_
                refine xCall (N := 5) (M2 := m_M_readGuess) (pc2 := 164) (ls2 := [some (eR 0), some (eI (P3 16)), some (eI zd), some (eI fi)]) (st2 := [eR 0]) (y := m_M_whyNotGuess) (as := [some (eR 1), some (eI (P3 16)), some (eI fi)]) (w2 := ([mQ P6, eA 0 964 g, eA 0 144 mk, eA 0 24 fr, eA 0 600 bY], c)) rfl (nRd hrf rfl rfl rfl) ?_
                refine xEqT (N := 1) (x := rz) (y := 0) (A := ev m_M_readGuess 170 [some (eR 0), some (eI (P3 16)), some (eI zd), some (eI fi)] [eR 0] ([mQ P6, eA 0 964 g, eA 0 144 mk, eA 0 24 fr, eA 0 600 bY], c)) (B := ev m_M_readGuess 174 [some (eR 0), some (eI (P3 16)), some (eI zd), some (eI fi)] [eR 0] ([mQ P6, eA 0 964 g, eA 0 144 mk, eA 0 24 fr, eA 0 600 bY], c)) rfl (wr_id (by omega) (by omega)) (show wr 0 = 0 by decide) (by omega) ?_
                refine xCallW (N := 4) (M2 := m_M_readGuess) (pc2 := 177) (ls2 := [some (eR 0), some (eI (P3 16)), some (eI zd), some (eI fi)]) (st2 := []) (y := m_M_check) (as := [some (eR 0), some (eI 1), some (eI 6)]) (w2 := ([mQ P6, eA 0 964 g, eA 0 144 mk, eA 0 24 fr, eA 0 600 bY], c)) rfl q7 ?_
                refine xCallWV (N := 3) (M2 := m_M_readGuess) (pc2 := 182) (ls2 := [some (eR 0), some (eI (P3 16)), some (eI zd), some (eI fi)]) (st2 := []) (y := m_M_next) (as := [some (eR 0)]) (w2 := ([mQ P7, eA 0 964 g, eA 0 144 mk, eA 0 24 fr, eA 0 600 bY], c)) rfl q8 ?_
                refine xCallWV (N := 2) (M2 := m_M_readGuess) (pc2 := 186) (ls2 := [some (eR 0), some (eI (P3 16)), some (eI zd), some (eI fi)]) (st2 := []) (y := m_M_finish) (as := [some (eR 0)]) (w2 := ([mQ P8, eA 0 964 g, eA 0 144 mk, eA 0 24 fr, eA 0 600 bY], c)) rfl q9 ?_
                refine xEqT (N := 3) (x := P9 18) (y := 0) (A := ev m_M_readGuess 196 [some (eR 0), some (eI (P3 16)), some (eI zd), some (eI fi)] [] ([mQ P9, eA 0 964 g, eA 0 144 mk, eA 0 24 fr, eA 0 600 bY], c)) (B := ev m_M_readGuess 214 [some (eR 0), some (eI (P3 16)), some (eI zd), some (eI fi)] [] ([mQ P9, eA 0 964 g, eA 0 144 mk, eA 0 24 fr, eA 0 600 bY], c)) rfl (wr_id (by omega) (by omega)) (show wr 0 = 0 by decide) (by omega) ?_
                refine xCallW (N := 6) (M2 := m_M_readGuess) (pc2 := 203) (ls2 := [some (eR 0), some (eI (P3 16)), some (eI zd), some (eI fi)]) (st2 := []) (y := m_M_takesGuess) (as := [some (eR 0), some (eR 1), some (eI (P3 16)), some (eI fi)]) (w2 := ([mQ P9, eA 0 964 g, eA 0 144 mk, eA 0 24 fr, eA 0 600 bY], c)) rfl (nRow n4 rfl rfl rfl) ?_
                refine xLtF (N := 1) (x := zl) (y := 0) (A := ev m_M_readGuess 209 [some (eR 0), some (eI (P3 16)), some (eI zd), some (eI fi)] [] ([mQ P9, eA 0 964 g2, eA 0 144 mk2, eA 0 24 fr2, eA 0 600 bY], c)) (B := ev m_M_readGuess 214 [some (eR 0), some (eI (P3 16)), some (eI zd), some (eI fi)] [] ([mQ P9, eA 0 964 g2, eA 0 144 mk2, eA 0 24 fr2, eA 0 600 bY], c)) rfl (wr_id (by omega) (by omega)) (show wr 0 = 0 by decide) (by omega) ?_
                refine xSeg (N := 1) (r := some (.inl none, ([mQ P9, eA 0 964 g2, eA 0 144 mk2, eA 0 24 fr2, eA 0 600 bY], c))) rfl ?_
                rfl
            · rw [if_neg hz] at hst2
              obtain ⟨P7, v7, s7, u7, q7⟩ := m_chk (g := g) (mk := mk) (fr := fr) (bY := bY) (c := c) (b := false) (k := 6) (x := 0) (z := 6) s6 rfl rfl (by omega)
              obtain ⟨P8, s8, u8, q8⟩ := m_nx (g := g) (mk := mk) (fr := fr) (c := c) s7 hn hby
              obtain ⟨P9, s9, u10, q9⟩ := m_fin (g := g) (mk := mk) (fr := fr) (c := c) s8 hn hby
              have s9 : mS B n P9 (.inl (6, tkS B n e2)) := s9
              have hne9 := mS_L s9
              obtain ⟨_, d18⟩ := mS_at s9
              refine hbad _ P9 s9 (mU_tr u4' (mU_tr u5 (mU_tr u6 (mU_tr u7 (mU_tr u8 u10))))) hst2 (fun R hR => hmid93 R ?_)
              refine xEqT (N := 3) (x := P5 18) (y := 0) (A := ev m_M_readGuess 100 [some (eR 0), some (eI (P3 16))] [] ([mQ P5, eA 0 964 g, eA 0 144 mk, eA 0 24 fr, eA 0 600 bY], c)) (B := ev m_M_readGuess 115 [some (eR 0), some (eI (P3 16))] [] ([mQ P5, eA 0 964 g, eA 0 144 mk, eA 0 24 fr, eA 0 600 bY], c)) rfl (wr_id (by omega) (by omega)) (show wr 0 = 0 by decide) (by omega) ?_
              refine xCallW (N := 6) (M2 := m_M_readGuess) (pc2 := 109) (ls2 := [some (eR 0), some (eI (P3 16))]) (st2 := []) (y := m_M_codeFrom) (as := [some (eR 0), some (eI (P5 14)), some (eI (P5 17))]) (w2 := ([mQ P5, eA 0 964 g, eA 0 144 mk, eA 0 24 fr, eA 0 600 bY], c)) rfl hcf ?_
              refine xEqF (N := 4) (x := zd) (y := 0) (A := ev m_M_readGuess 121 [some (eR 0), some (eI (P3 16)), some (eI zd)] [] ([mQ P5, eA 0 964 g, eA 0 144 mk, eA 0 24 fr, eA 0 600 bY], c)) (B := ev m_M_readGuess 125 [some (eR 0), some (eI (P3 16)), some (eI zd)] [] ([mQ P5, eA 0 964 g, eA 0 144 mk, eA 0 24 fr, eA 0 600 bY], c)) rfl (wr_id (by omega) (by omega)) (show wr 0 = 0 by decide) (by omega) ?_
              refine xCall (N := 4) (M2 := m_M_readGuess) (pc2 := 130) (ls2 := [some (eR 0), some (eI (P3 16)), some (eI zd)]) (st2 := []) (y := m_M_wordOf) (as := [some (eR 1), some (eI zd)]) (w2 := ([mQ P5, eA 0 964 g, eA 0 144 mk, eA 0 24 fr, eA 0 600 bY], c)) rfl (nRd hwo rfl rfl rfl) ?_
              refine xEqF (N := 5) (x := fi) (y := (-1)) (A := ev m_M_readGuess 144 [some (eR 0), some (eI (P3 16)), some (eI zd), some (eI fi)] [eR 0] ([mQ P5, eA 0 964 g, eA 0 144 mk, eA 0 24 fr, eA 0 600 bY], c)) (B := ev m_M_readGuess 140 [some (eR 0), some (eI (P3 16)), some (eI zd), some (eI fi)] [eR 0] ([mQ P5, eA 0 964 g, eA 0 144 mk, eA 0 24 fr, eA 0 600 bY], c)) rfl (wr_id (by omega) (by omega)) (show wr (-1) = (-1) by decide) (by omega) ?_
              refine xCallW (N := 4) (M2 := m_M_readGuess) (pc2 := 146) (ls2 := [some (eR 0), some (eI (P3 16)), some (eI zd), some (eI fi)]) (st2 := []) (y := m_M_check) (as := [some (eR 0), some (eI 1), some (eI 4)]) (w2 := ([mQ P5, eA 0 964 g, eA 0 144 mk, eA 0 24 fr, eA 0 600 bY], c)) rfl q6 ?_
              refine xEqT (N := 5) (x := P6 18) (y := 0) (A := ev m_M_readGuess 158 [some (eR 0), some (eI (P3 16)), some (eI zd), some (eI fi)] [eR 0] ([mQ P6, eA 0 964 g, eA 0 144 mk, eA 0 24 fr, eA 0 600 bY], c)) (B := ev m_M_readGuess 170 [some (eR 0), some (eI (P3 16)), some (eI zd), some (eI fi)] [eR 0] ([mQ P6, eA 0 964 g, eA 0 144 mk, eA 0 24 fr, eA 0 600 bY], c)) rfl (wr_id (by omega) (by omega)) (show wr 0 = 0 by decide) (by omega) ?_
              refine xCall (N := 5) (M2 := m_M_readGuess) (pc2 := 164) (ls2 := [some (eR 0), some (eI (P3 16)), some (eI zd), some (eI fi)]) (st2 := [eR 0]) (y := m_M_whyNotGuess) (as := [some (eR 1), some (eI (P3 16)), some (eI fi)]) (w2 := ([mQ P6, eA 0 964 g, eA 0 144 mk, eA 0 24 fr, eA 0 600 bY], c)) rfl (nRd hrf rfl rfl rfl) ?_
              refine xEqF (N := 1) (x := rz) (y := 0) (A := ev m_M_readGuess 170 [some (eR 0), some (eI (P3 16)), some (eI zd), some (eI fi)] [eR 0] ([mQ P6, eA 0 964 g, eA 0 144 mk, eA 0 24 fr, eA 0 600 bY], c)) (B := ev m_M_readGuess 174 [some (eR 0), some (eI (P3 16)), some (eI zd), some (eI fi)] [eR 0] ([mQ P6, eA 0 964 g, eA 0 144 mk, eA 0 24 fr, eA 0 600 bY], c)) rfl (wr_id (by omega) (by omega)) (show wr 0 = 0 by decide) (by omega) ?_
              refine xCallW (N := 3) (M2 := m_M_readGuess) (pc2 := 177) (ls2 := [some (eR 0), some (eI (P3 16)), some (eI zd), some (eI fi)]) (st2 := []) (y := m_M_check) (as := [some (eR 0), some (eI 0), some (eI 6)]) (w2 := ([mQ P6, eA 0 964 g, eA 0 144 mk, eA 0 24 fr, eA 0 600 bY], c)) rfl q7 ?_
              refine xCallWV (N := 3) (M2 := m_M_readGuess) (pc2 := 182) (ls2 := [some (eR 0), some (eI (P3 16)), some (eI zd), some (eI fi)]) (st2 := []) (y := m_M_next) (as := [some (eR 0)]) (w2 := ([mQ P7, eA 0 964 g, eA 0 144 mk, eA 0 24 fr, eA 0 600 bY], c)) rfl q8 ?_
              refine xCallWV (N := 2) (M2 := m_M_readGuess) (pc2 := 186) (ls2 := [some (eR 0), some (eI (P3 16)), some (eI zd), some (eI fi)]) (st2 := []) (y := m_M_finish) (as := [some (eR 0)]) (w2 := ([mQ P8, eA 0 964 g, eA 0 144 mk, eA 0 24 fr, eA 0 600 bY], c)) rfl q9 ?_
              refine xEqF (N := 3) (x := P9 18) (y := 0) (A := ev m_M_readGuess 196 [some (eR 0), some (eI (P3 16)), some (eI zd), some (eI fi)] [] ([mQ P9, eA 0 964 g, eA 0 144 mk, eA 0 24 fr, eA 0 600 bY], c)) (B := ev m_M_readGuess 214 [some (eR 0), some (eI (P3 16)), some (eI zd), some (eI fi)] [] ([mQ P9, eA 0 964 g, eA 0 144 mk, eA 0 24 fr, eA 0 600 bY], c)) rfl (wr_id (by omega) (by omega)) (show wr 0 = 0 by decide) (by omega) ?_
              refine xSeg (N := 1) (r := some (.inl none, ([mQ P9, eA 0 964 g, eA 0 144 mk, eA 0 24 fr, eA 0 600 bY], c))) rfl ?_
              exact hR
        · rw [if_neg hL] at hcf
          have hno := fw_no (B := B) (S := tkS B n e2) hV hL
          rw [if_pos hno] at hgu
          obtain ⟨P6, v6, s6, u6, q6⟩ := m_chk (g := g) (mk := mk) (fr := fr) (bY := bY) (c := c) (b := false) (k := 4) (x := 0) (z := 4) s5 rfl rfl (by omega)
          obtain ⟨P7, s7, u7, q7⟩ := herr150 (4, tkS B n e2) P6 (P3 16) 0 (-1) s6
          refine hbad _ P7 s7 (mU_tr u4' (mU_tr u5 (mU_tr u6 u7))) (hst _ hgu) (fun R hR => hmid93 R ?_)
          refine xEqT (N := 3) (x := P5 18) (y := 0) (A := ev m_M_readGuess 100 [some (eR 0), some (eI (P3 16))] [] ([mQ P5, eA 0 964 g, eA 0 144 mk, eA 0 24 fr, eA 0 600 bY], c)) (B := ev m_M_readGuess 115 [some (eR 0), some (eI (P3 16))] [] ([mQ P5, eA 0 964 g, eA 0 144 mk, eA 0 24 fr, eA 0 600 bY], c)) rfl (wr_id (by omega) (by omega)) (show wr 0 = 0 by decide) (by omega) ?_
          refine xCallW (N := 6) (M2 := m_M_readGuess) (pc2 := 109) (ls2 := [some (eR 0), some (eI (P3 16))]) (st2 := []) (y := m_M_codeFrom) (as := [some (eR 0), some (eI (P5 14)), some (eI (P5 17))]) (w2 := ([mQ P5, eA 0 964 g, eA 0 144 mk, eA 0 24 fr, eA 0 600 bY], c)) rfl hcf ?_
          refine xEqT (N := 4) (x := 0) (y := 0) (A := ev m_M_readGuess 121 [some (eR 0), some (eI (P3 16)), some (eI 0)] [] ([mQ P5, eA 0 964 g, eA 0 144 mk, eA 0 24 fr, eA 0 600 bY], c)) (B := ev m_M_readGuess 125 [some (eR 0), some (eI (P3 16)), some (eI 0)] [] ([mQ P5, eA 0 964 g, eA 0 144 mk, eA 0 24 fr, eA 0 600 bY], c)) rfl (show wr 0 = 0 by decide) (show wr 0 = 0 by decide) (by decide) ?_
          refine xEqT (N := 7) (x := (-1)) (y := (-1)) (A := ev m_M_readGuess 144 [some (eR 0), some (eI (P3 16)), some (eI 0), some (eI (-1))] [eR 0] ([mQ P5, eA 0 964 g, eA 0 144 mk, eA 0 24 fr, eA 0 600 bY], c)) (B := ev m_M_readGuess 140 [some (eR 0), some (eI (P3 16)), some (eI 0), some (eI (-1))] [eR 0] ([mQ P5, eA 0 964 g, eA 0 144 mk, eA 0 24 fr, eA 0 600 bY], c)) rfl (show wr (-1) = (-1) by decide) (show wr (-1) = (-1) by decide) (by decide) ?_
          refine xCallW (N := 3) (M2 := m_M_readGuess) (pc2 := 146) (ls2 := [some (eR 0), some (eI (P3 16)), some (eI 0), some (eI (-1))]) (st2 := []) (y := m_M_check) (as := [some (eR 0), some (eI 0), some (eI 4)]) (w2 := ([mQ P5, eA 0 964 g, eA 0 144 mk, eA 0 24 fr, eA 0 600 bY], c)) rfl q6 ?_
          refine xSeg (N := 1) (r := ev m_M_readGuess 150 [some (eR 0), some (eI (P3 16)), some (eI 0), some (eI (-1))] [] ([mQ P6, eA 0 964 g, eA 0 144 mk, eA 0 24 fr, eA 0 600 bY], c)) rfl ?_
          exact q7.trans hR
      · rw [if_neg hK2] at hgu
        obtain ⟨P5, v5, s5, u5, q5⟩ := m_chk (g := g) (mk := mk) (fr := fr) (bY := bY) (c := c) (b := false) (k := 1) (x := 0) (z := 1) s4 rfl rfl (by omega)
        obtain ⟨P7, s7, u7, q7⟩ := herr93 (1, tkS B n e2) P5 (P3 16) s5
        generalize tkT (tkK B n e2) = tk9 at *
        refine hbad _ P7 s7 (mU_tr u4' (mU_tr u5 u7)) (hst _ hgu) (fun R hR => hmid70 R ?_)
        refine xCallWV (N := 2) (M2 := m_M_readGuess) (pc2 := 71) (ls2 := [some (eR 0), some (eI (P3 16))]) (st2 := []) (y := m_M_next) (as := [some (eR 0)]) (w2 := ([mQ P3, eA 0 964 g, eA 0 144 mk, eA 0 24 fr, eA 0 600 bY], c)) rfl q4 ?_
        refine xEqF (N := 5) (x := P4 15) (y := 3) (A := ev m_M_readGuess 83 [some (eR 0), some (eI (P3 16))] [eR 0] ([mQ P4, eA 0 964 g, eA 0 144 mk, eA 0 24 fr, eA 0 600 bY], c)) (B := ev m_M_readGuess 87 [some (eR 0), some (eI (P3 16))] [eR 0] ([mQ P4, eA 0 964 g, eA 0 144 mk, eA 0 24 fr, eA 0 600 bY], c)) rfl (wr_id (by omega) (by omega)) (show wr 3 = 3 by decide) (by omega) ?_
        refine xCallW (N := 3) (M2 := m_M_readGuess) (pc2 := 89) (ls2 := [some (eR 0), some (eI (P3 16))]) (st2 := []) (y := m_M_check) (as := [some (eR 0), some (eI 0), some (eI 1)]) (w2 := ([mQ P4, eA 0 964 g, eA 0 144 mk, eA 0 24 fr, eA 0 600 bY], c)) rfl q5 ?_
        refine xSeg (N := 1) (r := ev m_M_readGuess 93 [some (eR 0), some (eI (P3 16))] [] ([mQ P5, eA 0 964 g, eA 0 144 mk, eA 0 24 fr, eA 0 600 bY], c)) rfl ?_
        exact q7.trans hR
    · have hgu : gueS B n a (tkE B n e) = .inl (4, tkS B n (tkE B n e)) := by
        unfold gueS nuS
        rw [if_pos hK, if_neg (fun h => hk h.2)]
      obtain ⟨P3, v3, s3, u3, q3⟩ := m_chk (g := g) (mk := mk) (fr := fr) (bY := bY) (c := c) (b := false) (k := 4) (x := 0) (z := 4) s2' rfl rfl (by omega)
      have s3 : mS B n P3 (.inl (4, tkS B n (tkE B n e))) := s3
      have hne3 := mS_L s3
      obtain ⟨_, d18⟩ := mS_at s3
      obtain ⟨P7, s7, u7, q7⟩ := herr70 _ P3 0 s3
      generalize tkV B n (tkE B n e) = vv at *
      generalize tkC B n (tkE B n e) = vc at *
      refine hbad _ P7 s7 (mU_tr u9 (mU_tr u3 u7)) (hst _ hgu) (fun R hR => hmid R ?_)
      refine xEqT (N := 4) (x := P2 18) (y := 0) (A := ev m_M_readGuess 31 [some (eR 0)] [eR 0] ([mQ P2, eA 0 964 g, eA 0 144 mk, eA 0 24 fr, eA 0 600 bY], c)) (B := ev m_M_readGuess 44 [some (eR 0)] [eR 0] ([mQ P2, eA 0 964 g, eA 0 144 mk, eA 0 24 fr, eA 0 600 bY], c)) rfl (wr_id (by omega) (by omega)) (show wr 0 = 0 by decide) (by omega) ?_
      refine xLd (N := 6) (n := 964) (i := 3) (F := fun zq => ev m_M_readGuess 41 [some (eR 0)] [eI (g zq), eI (P2 16), eR 0] ([mQ P2, eA 0 964 g, eA 0 144 mk, eA 0 24 fr, eA 0 600 bY], c)) (k := 3) rfl (show wr 3 = ((3 : Nat) : Int) by decide) (by omega) ?_
      refine xLtF (N := 1) (x := P2 16) (y := g 3) (A := ev m_M_readGuess 44 [some (eR 0)] [eR 0] ([mQ P2, eA 0 964 g, eA 0 144 mk, eA 0 24 fr, eA 0 600 bY], c)) (B := ev m_M_readGuess 48 [some (eR 0)] [eR 0] ([mQ P2, eA 0 964 g, eA 0 144 mk, eA 0 24 fr, eA 0 600 bY], c)) rfl (wr_id (by omega) (by omega)) (wr_id (by omega) (by omega)) (by omega) ?_
      refine xCallW (N := 3) (M2 := m_M_readGuess) (pc2 := 50) (ls2 := [some (eR 0)]) (st2 := []) (y := m_M_check) (as := [some (eR 0), some (eI 0), some (eI 4)]) (w2 := ([mQ P2, eA 0 964 g, eA 0 144 mk, eA 0 24 fr, eA 0 600 bY], c)) rfl q3 ?_
      refine xEqF (N := 4) (x := P3 18) (y := 0) (A := ev m_M_readGuess 61 [some (eR 0)] [] ([mQ P3, eA 0 964 g, eA 0 144 mk, eA 0 24 fr, eA 0 600 bY], c)) (B := ev m_M_readGuess 68 [some (eR 0)] [] ([mQ P3, eA 0 964 g, eA 0 144 mk, eA 0 24 fr, eA 0 600 bY], c)) rfl (wr_id (by omega) (by omega)) (show wr 0 = 0 by decide) (by omega) ?_
      refine xSeg (N := 2) (r := ev m_M_readGuess 70 [some (eR 0), some (eI 0)] [] ([mQ P3, eA 0 964 g, eA 0 144 mk, eA 0 24 fr, eA 0 600 bY], c)) rfl ?_
      exact q7.trans hR
  · rw [decide_eq_false hK] at hb
    rw [hb] at s2
    have s2 : mS B n P2 (.inl (1, tkS B n (tkE B n e))) := s2
    have hgu : gueS B n a (tkE B n e) = .inl (1, tkS B n (tkE B n e)) := by
      unfold gueS nuS
      rw [if_neg hK]
    obtain ⟨P3, v3, s3, u3, q3⟩ := m_chk (g := g) (mk := mk) (fr := fr) (bY := bY) (c := c) (b := true) (k := 4) (x := 1) (z := 4) s2 rfl rfl (by omega)
    have s3 : mS B n P3 (.inl (1, tkS B n (tkE B n e))) := s3
    have hne2 := mS_L s2
    obtain ⟨_, c18⟩ := mS_at s2
    have hne3 := mS_L s3
    obtain ⟨_, d18⟩ := mS_at s3
    obtain ⟨P7, s7, u7, q7⟩ := herr70 _ P3 0 s3
    refine hbad _ P7 s7 (mU_tr u9 (mU_tr u3 u7)) (hst _ hgu) (fun R hR => hmid R ?_)
    refine xEqF (N := 4) (x := P2 18) (y := 0) (A := ev m_M_readGuess 31 [some (eR 0)] [eR 0] ([mQ P2, eA 0 964 g, eA 0 144 mk, eA 0 24 fr, eA 0 600 bY], c)) (B := ev m_M_readGuess 44 [some (eR 0)] [eR 0] ([mQ P2, eA 0 964 g, eA 0 144 mk, eA 0 24 fr, eA 0 600 bY], c)) rfl (wr_id (by omega) (by omega)) (show wr 0 = 0 by decide) (by omega) ?_
    refine xCallW (N := 4) (M2 := m_M_readGuess) (pc2 := 50) (ls2 := [some (eR 0)]) (st2 := []) (y := m_M_check) (as := [some (eR 0), some (eI 1), some (eI 4)]) (w2 := ([mQ P2, eA 0 964 g, eA 0 144 mk, eA 0 24 fr, eA 0 600 bY], c)) rfl q3 ?_
    refine xEqF (N := 4) (x := P3 18) (y := 0) (A := ev m_M_readGuess 61 [some (eR 0)] [] ([mQ P3, eA 0 964 g, eA 0 144 mk, eA 0 24 fr, eA 0 600 bY], c)) (B := ev m_M_readGuess 68 [some (eR 0)] [] ([mQ P3, eA 0 964 g, eA 0 144 mk, eA 0 24 fr, eA 0 600 bY], c)) rfl (wr_id (by omega) (by omega)) (show wr 0 = 0 by decide) (by omega) ?_
    refine xSeg (N := 2) (r := ev m_M_readGuess 70 [some (eR 0), some (eI 0)] [] ([mQ P3, eA 0 964 g, eA 0 144 mk, eA 0 24 fr, eA 0 600 bY], c)) rfl ?_
    exact q7.trans hR
end
