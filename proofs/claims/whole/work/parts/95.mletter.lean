/-! The model reads a letter, back, solve. -/
section
variable {P g mk fr bY : Nat → Int} {B : Nat → Nat} {n : Nat} {c : Nat × Nat} {a : eRow}
set_option maxRecDepth 100000
theorem m_rLetter {e : Nat} (h : mS B n P (.inr e)) (hn : n ≤ 600) (hby : ∀ i, i < n → bY i = (B i : Int) ∧ B i < 256) (hg : rg g a) (hI : iA a) : ∃ P' g' mk' fr' : Nat → Int, mE B n a P' g' (staS B n a (tkS B n e) (tkE B n e) 3) ∧ mU P P' ∧ ev m_M_readLetter 0 [some (eR 0)] [] ([mQ P, eA 0 964 g, eA 0 144 mk, eA 0 24 fr, eA 0 600 bY], c) = some (.inl none, ([mQ P', eA 0 964 g', eA 0 144 mk', eA 0 24 fr', eA 0 600 bY], c)) := by
  obtain ⟨hG, hV, hO, hT, hM⟩ := hI
  have hI : iA a := ⟨hG, hV, hO, hT, hM⟩
  obtain ⟨P1, s1, u1, q1⟩ := m_nx (g := g) (mk := mk) (fr := fr) (c := c) h hn hby
  obtain ⟨P2, v2, s2, u2, w2, q2⟩ := m_cell (mk := mk) (fr := fr) (c := c) s1 hn hby hg hG
  obtain ⟨P3, s3, u3, q3⟩ := m_nx (g := g) (mk := mk) (fr := fr) (c := c) s2 hn hby
  obtain ⟨⟨e0, hk0⟩, b18⟩ := mS_at s3
  have t15 := tkT_le (k := tkK B n e0)
  have k15 := hk0.2.2.2.1
  have k17 := hk0.2.2.2.2.2
  have t17 : tkL B n e0 ≤ 600 := by
    have t := tk_le (B := B) hk0.1.2
    unfold tkL
    split <;> omega
  obtain ⟨b, hb⟩ : ∃ b : Bool, b = decide (P3 15 = 3 ∧ P3 17 = 1) := ⟨_, rfl⟩
  obtain ⟨zb, hzb⟩ : ∃ zb : Int, zb = bI b := ⟨_, rfl⟩
  obtain ⟨P4, v4, s4, u4, q4⟩ := m_chk (g := g) (mk := mk) (fr := fr) (bY := bY) (c := c) (b := b) (k := 1) (x := zb) (z := 1) s3 hzb rfl (by omega)
  have u9 := mU_tr (mU_tr (mU_tr u1 u2) u3) u4
  have hpre : ∀ R : eRes, (∀ z, z = zb → ev m_M_readLetter 35 [some (eR 0), some (eI v2)] [eI z, eR 0] ([mQ P3, eA 0 964 g, eA 0 144 mk, eA 0 24 fr, eA 0 600 bY], c) = R) → ev m_M_readLetter 0 [some (eR 0)] [] ([mQ P, eA 0 964 g, eA 0 144 mk, eA 0 24 fr, eA 0 600 bY], c) = R := fun R hR => by
    have h0 : ¬ (P3 15 = 3 ∧ P3 17 = 1) → 0 = zb := fun hh => by rw [hzb, hb, decide_eq_false hh]; rfl
    have h1 : (P3 15 = 3 ∧ P3 17 = 1) → 1 = zb := fun hh => by rw [hzb, hb, decide_eq_true hh]; rfl
    generalize tkT (tkK B n e0) = tk9 at *
    generalize tkL B n e0 = tl9 at *
    refine xCallWV (N := 2) (M2 := m_M_readLetter) (pc2 := 1) (ls2 := [some (eR 0)]) (st2 := []) (y := m_M_next) (as := [some (eR 0)]) (w2 := ([mQ P, eA 0 964 g, eA 0 144 mk, eA 0 24 fr, eA 0 600 bY], c)) rfl q1 ?_
    refine xCallW (N := 2) (M2 := m_M_readLetter) (pc2 := 5) (ls2 := [some (eR 0)]) (st2 := []) (y := m_M_lookCell) (as := [some (eR 0)]) (w2 := ([mQ P1, eA 0 964 g, eA 0 144 mk, eA 0 24 fr, eA 0 600 bY], c)) rfl q2 ?_
    refine xCallWV (N := 3) (M2 := m_M_readLetter) (pc2 := 10) (ls2 := [some (eR 0), some (eI v2)]) (st2 := []) (y := m_M_next) (as := [some (eR 0)]) (w2 := ([mQ P2, eA 0 964 g, eA 0 144 mk, eA 0 24 fr, eA 0 600 bY], c)) rfl q3 ?_
    refine xEq (N := 5) (x := P3 15) (y := 3) (A := ev m_M_readLetter 22 [some (eR 0), some (eI v2)] [eR 0] ([mQ P3, eA 0 964 g, eA 0 144 mk, eA 0 24 fr, eA 0 600 bY], c)) (B := ev m_M_readLetter 34 [some (eR 0), some (eI v2)] [eR 0] ([mQ P3, eA 0 964 g, eA 0 144 mk, eA 0 24 fr, eA 0 600 bY], c)) rfl (wr_id (by omega) (by omega)) (show wr 3 = 3 by decide) (fun h19 => ?_) (fun h19 => ?_)
    · refine xEq (N := 4) (x := P3 17) (y := 1) (A := ev m_M_readLetter 30 [some (eR 0), some (eI v2)] [eR 0] ([mQ P3, eA 0 964 g, eA 0 144 mk, eA 0 24 fr, eA 0 600 bY], c)) (B := ev m_M_readLetter 34 [some (eR 0), some (eI v2)] [eR 0] ([mQ P3, eA 0 964 g, eA 0 144 mk, eA 0 24 fr, eA 0 600 bY], c)) rfl (wr_id (by omega) (by omega)) (show wr 1 = 1 by decide) (fun h27 => ?_) (fun h27 => ?_)
      · refine xSeg (N := 2) (r := ev m_M_readLetter 35 [some (eR 0), some (eI v2)] [eI 1, eR 0] ([mQ P3, eA 0 964 g, eA 0 144 mk, eA 0 24 fr, eA 0 600 bY], c)) rfl ?_
        exact hR _ (h1 (by omega))
      · refine xSeg (N := 1) (r := ev m_M_readLetter 35 [some (eR 0), some (eI v2)] [eI 0, eR 0] ([mQ P3, eA 0 964 g, eA 0 144 mk, eA 0 24 fr, eA 0 600 bY], c)) rfl ?_
        exact hR _ (h0 (by omega))
    · refine xSeg (N := 1) (r := ev m_M_readLetter 35 [some (eR 0), some (eI v2)] [eI 0, eR 0] ([mQ P3, eA 0 964 g, eA 0 144 mk, eA 0 24 fr, eA 0 600 bY], c)) rfl ?_
      exact hR _ (h0 (by omega))
  have hmid : ∀ R : eRes, ev m_M_readLetter 40 [some (eR 0), some (eI v2)] [] ([mQ P4, eA 0 964 g, eA 0 144 mk, eA 0 24 fr, eA 0 600 bY], c) = R → ev m_M_readLetter 0 [some (eR 0)] [] ([mQ P, eA 0 964 g, eA 0 144 mk, eA 0 24 fr, eA 0 600 bY], c) = R := fun R hR => by
    refine hpre R (fun z hz => ?_)
    rw [hz]
    refine xCallW (N := 2) (M2 := m_M_readLetter) (pc2 := 36) (ls2 := [some (eR 0), some (eI v2)]) (st2 := []) (y := m_M_check) (as := [some (eR 0), some (eI zb), some (eI 1)]) (w2 := ([mQ P3, eA 0 964 g, eA 0 144 mk, eA 0 24 fr, eA 0 600 bY], c)) rfl q4 ?_
    refine xSeg (N := 1) (r := ev m_M_readLetter 40 [some (eR 0), some (eI v2)] [] ([mQ P4, eA 0 964 g, eA 0 144 mk, eA 0 24 fr, eA 0 600 bY], c)) rfl ?_
    exact hR
  have hbad : ∀ z Q, mS B n Q (.inl z) → mU P Q → staS B n a (tkS B n e) (tkE B n e) 3 = .inl z → (∀ R : eRes, some (.inl none, ([mQ Q, eA 0 964 g, eA 0 144 mk, eA 0 24 fr, eA 0 600 bY], c)) = R → ev m_M_readLetter 0 [some (eR 0)] [] ([mQ P, eA 0 964 g, eA 0 144 mk, eA 0 24 fr, eA 0 600 bY], c) = R) → ∃ P' g' mk' fr' : Nat → Int, mE B n a P' g' (staS B n a (tkS B n e) (tkE B n e) 3) ∧ mU P P' ∧ ev m_M_readLetter 0 [some (eR 0)] [] ([mQ P, eA 0 964 g, eA 0 144 mk, eA 0 24 fr, eA 0 600 bY], c) = some (.inl none, ([mQ P', eA 0 964 g', eA 0 144 mk', eA 0 24 fr', eA 0 600 bY], c)) := fun z Q hs hu hst hq => by
    rw [hst]
    exact ⟨Q, g, mk, fr, ⟨hs, hg⟩, hu, hq _ rfl⟩
  have hbad4 : ∀ z, mS B n P4 (.inl z) → staS B n a (tkS B n e) (tkE B n e) 3 = .inl z → ∃ P' g' mk' fr' : Nat → Int, mE B n a P' g' (staS B n a (tkS B n e) (tkE B n e) 3) ∧ mU P P' ∧ ev m_M_readLetter 0 [some (eR 0)] [] ([mQ P, eA 0 964 g, eA 0 144 mk, eA 0 24 fr, eA 0 600 bY], c) = some (.inl none, ([mQ P', eA 0 964 g', eA 0 144 mk', eA 0 24 fr', eA 0 600 bY], c)) := fun z hs hst => by
    obtain ⟨P5, s5, u5, q5⟩ := m_nx (g := g) (mk := mk) (fr := fr) (c := c) hs hn hby
    obtain ⟨P6, s6, u6, q6⟩ := m_fin (g := g) (mk := mk) (fr := fr) (c := c) s5 hn hby
    have hne := mS_L hs
    obtain ⟨_, c18⟩ := mS_at hs
    have hne6 := mS_L (z := z) s6
    obtain ⟨_, d18⟩ := mS_at s6
    refine hbad z P6 s6 (mU_tr u9 (mU_tr u5 u6)) hst (fun R hR => hmid R ?_)
    refine xEqF (N := 3) (x := P4 18) (y := 0) (A := ev m_M_readLetter 47 [some (eR 0), some (eI v2)] [] ([mQ P4, eA 0 964 g, eA 0 144 mk, eA 0 24 fr, eA 0 600 bY], c)) (B := ev m_M_readLetter 59 [some (eR 0), some (eI v2)] [] ([mQ P4, eA 0 964 g, eA 0 144 mk, eA 0 24 fr, eA 0 600 bY], c)) rfl (wr_id (by omega) (by omega)) (show wr 0 = 0 by decide) (by omega) ?_
    refine xCallWV (N := 4) (M2 := m_M_readLetter) (pc2 := 62) (ls2 := [some (eR 0), some (eI v2), some (eI 0)]) (st2 := []) (y := m_M_next) (as := [some (eR 0)]) (w2 := ([mQ P4, eA 0 964 g, eA 0 144 mk, eA 0 24 fr, eA 0 600 bY], c)) rfl q5 ?_
    refine xCallWV (N := 2) (M2 := m_M_readLetter) (pc2 := 66) (ls2 := [some (eR 0), some (eI v2), some (eI 0)]) (st2 := []) (y := m_M_finish) (as := [some (eR 0)]) (w2 := ([mQ P5, eA 0 964 g, eA 0 144 mk, eA 0 24 fr, eA 0 600 bY], c)) rfl q6 ?_
    refine xEqF (N := 3) (x := P6 18) (y := 0) (A := ev m_M_readLetter 76 [some (eR 0), some (eI v2), some (eI 0)] [] ([mQ P6, eA 0 964 g, eA 0 144 mk, eA 0 24 fr, eA 0 600 bY], c)) (B := ev m_M_readLetter 94 [some (eR 0), some (eI v2), some (eI 0)] [] ([mQ P6, eA 0 964 g, eA 0 144 mk, eA 0 24 fr, eA 0 600 bY], c)) rfl (wr_id (by omega) (by omega)) (show wr 0 = 0 by decide) (by omega) ?_
    refine xSeg (N := 1) (r := some (.inl none, ([mQ P6, eA 0 964 g, eA 0 144 mk, eA 0 24 fr, eA 0 600 bY], c))) rfl ?_
    exact hR
  have hst : ∀ q, letS B n a (tkE B n e) = q → staS B n a (tkS B n e) (tkE B n e) 3 = finS B n (match q with | .inl x => .inl x | .inr ((x, y), (v, e1)) => .inr (lvA a (6 * y + x) v, e1)) := fun q hq => by
    show finS B n (match letS B n a (tkE B n e) with | .inl x => .inl x | .inr ((x, y), (v, e1)) => .inr (lvA a (6 * y + x) v, e1)) = _
    rw [hq]
  cases hc : celS B n a (tkE B n e) with
  | inl z =>
    have hl : lcR B n a (.inr (tkE B n e)) = .inl z := lcR_L hc
    have s6 : mS B n P4 (ckR B n b 1 (nxR B n (lcR B n a (.inr (tkE B n e))))) := s4
    rw [hl] at s6
    have hlt : letS B n a (tkE B n e) = .inl z := by unfold letS; rw [hc]
    exact hbad4 z s6 (hst _ hlt)
  | inr q =>
    obtain ⟨⟨x, y⟩, e2⟩ := q
    have hl : lcR B n a (.inr (tkE B n e)) = .inr (tkE B n (tkE B n e)) := lcR_R hc
    obtain ⟨hv2, hxy, he2⟩ := w2 (tkE B n e) x y e2 rfl hc
    have s3' : mS B n P3 (nxR B n (lcR B n a (.inr (tkE B n e)))) := s3
    have s4' : mS B n P4 (ckR B n b 1 (nxR B n (lcR B n a (.inr (tkE B n e))))) := s4
    rw [hl] at s3' s4'
    have s3' : mS B n P3 (.inr e2) := by rw [he2]; exact s3'
    have s4' : mS B n P4 (ckR B n b 1 (.inr e2)) := by rw [he2]; exact s4'
    have f15 := s3'.1.2.2.2.1
    have f17 := s3'.1.2.2.2.2.2
    have hT3 := tkT_3 (k := tkK B n e2)
    have hbq : b = decide (tkK B n e2 = 1 ∧ tkE B n e2 - tkS B n e2 = 1) := by
      rw [hb]
      refine decide_eq_decide.mpr ⟨fun hh => ?_, fun hh => ?_⟩
      · have hK : tkK B n e2 = 1 := by omega
        have : tkL B n e2 = tkE B n e2 - tkS B n e2 := if_pos hK
        omega
      · have : tkL B n e2 = tkE B n e2 - tkS B n e2 := if_pos hh.1
        omega
    by_cases hK : tkK B n e2 = 1 ∧ tkE B n e2 - tkS B n e2 = 1
    · have hb1 : b = true := by rw [hbq]; exact decide_eq_true hK
      rw [hb1] at s4'
      have s4' : mS B n P4 (.inr e2) := s4'
      have hlt : letS B n a (tkE B n e) = .inr ((x, y), (B (tkS B n e2), tkE B n e2)) := by unfold letS; rw [hc]; exact if_pos hK
      obtain ⟨P5, s5, u5, q5⟩ := m_nx (g := g) (mk := mk) (fr := fr) (c := c) s4' hn hby
      obtain ⟨P6, s6, u6, q6⟩ := m_fin (g := g) (mk := mk) (fr := fr) (c := c) s5 hn hby
      have u10 := mU_tr u9 (mU_tr u5 u6)
      have h18 := s4'.2.1
      have h14 := s4'.1.2.1
      obtain ⟨t1, t2, t3, t4, t5⟩ := tk_le (B := B) s4'.1.1.2
      obtain ⟨t6, t7, t8⟩ := t5 (by omega)
      have hbS := hby (tkS B n e2) t7
      have h97 := kd_1.mp (t8.symm.trans hK.1)
      have hst2 := hst _ hlt
      have s6' : mS B n P6 (nxR B n (fiR B n (.inr (tkE B n e2)))) := s6
      rcases fin_cases (B := B) (n := n) (e := tkE B n e2) (a' := lvA a (6 * y + x) (B (tkS B n e2))) with ⟨z, f1, f2⟩ | ⟨f1, f2⟩
      · rw [f1] at s6'
        have hne6 := mS_L s6'
        obtain ⟨_, d18⟩ := mS_at s6'
        refine hbad z P6 s6' u10 (hst2.trans f2) (fun R hR => hmid R ?_)
        generalize tkS B n e2 = S9 at *
        refine xEqT (N := 3) (x := P4 18) (y := 0) (A := ev m_M_readLetter 47 [some (eR 0), some (eI v2)] [] ([mQ P4, eA 0 964 g, eA 0 144 mk, eA 0 24 fr, eA 0 600 bY], c)) (B := ev m_M_readLetter 59 [some (eR 0), some (eI v2)] [] ([mQ P4, eA 0 964 g, eA 0 144 mk, eA 0 24 fr, eA 0 600 bY], c)) rfl (wr_id (by omega) (by omega)) (show wr 0 = 0 by decide) (by omega) ?_
        refine xLd (N := 5) (n := 600) (i := P4 14) (F := fun zq => ev m_M_readLetter 56 [some (eR 0), some (eI v2)] [eI (bY zq)] ([mQ P4, eA 0 964 g, eA 0 144 mk, eA 0 24 fr, eA 0 600 bY], c)) (k := S9) rfl (wr_nat (by omega) (by omega)) (by omega) ?_
        refine xCallWV (N := 4) (M2 := m_M_readLetter) (pc2 := 62) (ls2 := [some (eR 0), some (eI v2), some (eI (bY S9))]) (st2 := []) (y := m_M_next) (as := [some (eR 0)]) (w2 := ([mQ P4, eA 0 964 g, eA 0 144 mk, eA 0 24 fr, eA 0 600 bY], c)) rfl q5 ?_
        refine xCallWV (N := 2) (M2 := m_M_readLetter) (pc2 := 66) (ls2 := [some (eR 0), some (eI v2), some (eI (bY S9))]) (st2 := []) (y := m_M_finish) (as := [some (eR 0)]) (w2 := ([mQ P5, eA 0 964 g, eA 0 144 mk, eA 0 24 fr, eA 0 600 bY], c)) rfl q6 ?_
        refine xEqF (N := 3) (x := P6 18) (y := 0) (A := ev m_M_readLetter 76 [some (eR 0), some (eI v2), some (eI (bY S9))] [] ([mQ P6, eA 0 964 g, eA 0 144 mk, eA 0 24 fr, eA 0 600 bY], c)) (B := ev m_M_readLetter 94 [some (eR 0), some (eI v2), some (eI (bY S9))] [] ([mQ P6, eA 0 964 g, eA 0 144 mk, eA 0 24 fr, eA 0 600 bY], c)) rfl (wr_id (by omega) (by omega)) (show wr 0 = 0 by decide) (by omega) ?_
        refine xSeg (N := 1) (r := some (.inl none, ([mQ P6, eA 0 964 g, eA 0 144 mk, eA 0 24 fr, eA 0 600 bY], c))) rfl ?_
        exact hR
      · rw [f1] at s6'
        rw [hst2.trans f2]
        obtain ⟨g2, mk2, fr2, n3, n4⟩ := n_gives (mk := mk) (fr := fr) (P := P6) (x := v2) (y := bY (tkS B n e2)) (e := 6 * y + x) (v := B (tkS B n e2)) (c := (0, 0)) hg hI hv2 hbS.1 hxy (Or.inr h97)
        refine ⟨P6, g2, mk2, fr2, ⟨s6', n3⟩, u10, hmid _ ?_⟩
        have h618 := s6'.2.1
        have hlo := (hG.2.1 (6 * y + x) hxy).2.1
        obtain ⟨zl, hzl⟩ : ∃ zl : Int, zl = ((a (52 + (6 * y + x)) : Nat) : Int) := ⟨_, rfl⟩
        rw [← hzl] at n4
        generalize tkS B n e2 = S9 at *
        refine xEqT (N := 3) (x := P4 18) (y := 0) (A := ev m_M_readLetter 47 [some (eR 0), some (eI v2)] [] ([mQ P4, eA 0 964 g, eA 0 144 mk, eA 0 24 fr, eA 0 600 bY], c)) (B := ev m_M_readLetter 59 [some (eR 0), some (eI v2)] [] ([mQ P4, eA 0 964 g, eA 0 144 mk, eA 0 24 fr, eA 0 600 bY], c)) rfl (wr_id (by omega) (by omega)) (show wr 0 = 0 by decide) (by omega) ?_
        refine xLd (N := 5) (n := 600) (i := P4 14) (F := fun zq => ev m_M_readLetter 56 [some (eR 0), some (eI v2)] [eI (bY zq)] ([mQ P4, eA 0 964 g, eA 0 144 mk, eA 0 24 fr, eA 0 600 bY], c)) (k := S9) rfl (wr_nat (by omega) (by omega)) (by omega) ?_
        refine xCallWV (N := 4) (M2 := m_M_readLetter) (pc2 := 62) (ls2 := [some (eR 0), some (eI v2), some (eI (bY S9))]) (st2 := []) (y := m_M_next) (as := [some (eR 0)]) (w2 := ([mQ P4, eA 0 964 g, eA 0 144 mk, eA 0 24 fr, eA 0 600 bY], c)) rfl q5 ?_
        refine xCallWV (N := 2) (M2 := m_M_readLetter) (pc2 := 66) (ls2 := [some (eR 0), some (eI v2), some (eI (bY S9))]) (st2 := []) (y := m_M_finish) (as := [some (eR 0)]) (w2 := ([mQ P5, eA 0 964 g, eA 0 144 mk, eA 0 24 fr, eA 0 600 bY], c)) rfl q6 ?_
        refine xEqT (N := 3) (x := P6 18) (y := 0) (A := ev m_M_readLetter 76 [some (eR 0), some (eI v2), some (eI (bY S9))] [] ([mQ P6, eA 0 964 g, eA 0 144 mk, eA 0 24 fr, eA 0 600 bY], c)) (B := ev m_M_readLetter 94 [some (eR 0), some (eI v2), some (eI (bY S9))] [] ([mQ P6, eA 0 964 g, eA 0 144 mk, eA 0 24 fr, eA 0 600 bY], c)) rfl (wr_id (by omega) (by omega)) (show wr 0 = 0 by decide) (by omega) ?_
        refine xCallW (N := 6) (M2 := m_M_readLetter) (pc2 := 83) (ls2 := [some (eR 0), some (eI v2), some (eI (bY S9))]) (st2 := []) (y := m_M_gives) (as := [some (eR 0), some (eR 1), some (eI v2), some (eI (bY S9))]) (w2 := ([mQ P6, eA 0 964 g, eA 0 144 mk, eA 0 24 fr, eA 0 600 bY], c)) rfl (nRow n4 rfl rfl rfl) ?_
        refine xLtF (N := 1) (x := zl) (y := 0) (A := ev m_M_readLetter 89 [some (eR 0), some (eI v2), some (eI (bY S9))] [] ([mQ P6, eA 0 964 g2, eA 0 144 mk2, eA 0 24 fr2, eA 0 600 bY], c)) (B := ev m_M_readLetter 94 [some (eR 0), some (eI v2), some (eI (bY S9))] [] ([mQ P6, eA 0 964 g2, eA 0 144 mk2, eA 0 24 fr2, eA 0 600 bY], c)) rfl (wr_id (by omega) (by omega)) (show wr 0 = 0 by decide) (by omega) ?_
        refine xSeg (N := 1) (r := some (.inl none, ([mQ P6, eA 0 964 g2, eA 0 144 mk2, eA 0 24 fr2, eA 0 600 bY], c))) rfl ?_
        rfl
    · have hb1 : b = false := by rw [hbq]; exact decide_eq_false hK
      rw [hb1] at s4'
      have hlt : letS B n a (tkE B n e) = .inl (1, tkS B n e2) := by unfold letS; rw [hc]; exact if_neg hK
      exact hbad4 _ s4' (hst _ hlt)
theorem m_rBack {e : Nat} (h : mS B n P (.inr e)) (hn : n ≤ 600) (hby : ∀ i, i < n → bY i = (B i : Int) ∧ B i < 256) (hg : rg g a) (hI : iA a) : ∃ P' g' mk' fr' : Nat → Int, mE B n a P' g' (staS B n a (tkS B n e) (tkE B n e) 5) ∧ mU P P' ∧ ev m_M_readBack 0 [some (eR 0)] [] ([mQ P, eA 0 964 g, eA 0 144 mk, eA 0 24 fr, eA 0 600 bY], c) = some (.inl none, ([mQ P', eA 0 964 g', eA 0 144 mk', eA 0 24 fr', eA 0 600 bY], c)) := by
  obtain ⟨hG, hV, hO, hT, hM⟩ := hI
  have hI : iA a := ⟨hG, hV, hO, hT, hM⟩
  have r5 := hg 5 (by omega)
  have b5 := iT_24 hG.1.2.2.2.2 hT
  obtain ⟨b, hb⟩ : ∃ b : Bool, b = decide (0 < a 5) := ⟨_, rfl⟩
  obtain ⟨zb, hzb⟩ : ∃ zb : Int, zb = bI b := ⟨_, rfl⟩
  obtain ⟨P1, v1, s1, u1, q1⟩ := m_chk (g := g) (mk := mk) (fr := fr) (bY := bY) (c := c) (b := b) (k := 6) (x := zb) (z := 6) h hzb rfl (by omega)
  obtain ⟨P2, s2, u2, q2⟩ := m_nx (g := g) (mk := mk) (fr := fr) (c := c) s1 hn hby
  obtain ⟨P3, s3, u3, q3⟩ := m_fin (g := g) (mk := mk) (fr := fr) (c := c) s2 hn hby
  have u9 := mU_tr (mU_tr u1 u2) u3
  have hpre : ∀ R : eRes, (∀ z, z = zb → ev m_M_readBack 15 [some (eR 0)] [eI z, eR 0] ([mQ P, eA 0 964 g, eA 0 144 mk, eA 0 24 fr, eA 0 600 bY], c) = R) → ev m_M_readBack 0 [some (eR 0)] [] ([mQ P, eA 0 964 g, eA 0 144 mk, eA 0 24 fr, eA 0 600 bY], c) = R := fun R hR => by
    have h0 : ¬ (0 < a 5) → 0 = zb := fun hh => by rw [hzb, hb, decide_eq_false hh]; rfl
    have h1 : (0 < a 5) → 1 = zb := fun hh => by rw [hzb, hb, decide_eq_true hh]; rfl
    refine xLd (N := 5) (n := 964) (i := 5) (F := fun zq => ev m_M_readBack 7 [some (eR 0)] [eI (g zq), eR 0] ([mQ P, eA 0 964 g, eA 0 144 mk, eA 0 24 fr, eA 0 600 bY], c)) (k := 5) rfl (show wr 5 = ((5 : Nat) : Int) by decide) (by omega) ?_
    refine xLt (N := 1) (x := 0) (y := g 5) (A := ev m_M_readBack 10 [some (eR 0)] [eR 0] ([mQ P, eA 0 964 g, eA 0 144 mk, eA 0 24 fr, eA 0 600 bY], c)) (B := ev m_M_readBack 14 [some (eR 0)] [eR 0] ([mQ P, eA 0 964 g, eA 0 144 mk, eA 0 24 fr, eA 0 600 bY], c)) rfl (show wr 0 = 0 by decide) (wr_id (by omega) (by omega)) (fun h7 => ?_) (fun h7 => ?_)
    · refine xSeg (N := 2) (r := ev m_M_readBack 15 [some (eR 0)] [eI 1, eR 0] ([mQ P, eA 0 964 g, eA 0 144 mk, eA 0 24 fr, eA 0 600 bY], c)) rfl ?_
      exact hR _ (h1 (by omega))
    · refine xSeg (N := 1) (r := ev m_M_readBack 15 [some (eR 0)] [eI 0, eR 0] ([mQ P, eA 0 964 g, eA 0 144 mk, eA 0 24 fr, eA 0 600 bY], c)) rfl ?_
      exact hR _ (h0 (by omega))
  have hmid : ∀ R : eRes, ev m_M_readBack 29 [some (eR 0)] [] ([mQ P3, eA 0 964 g, eA 0 144 mk, eA 0 24 fr, eA 0 600 bY], c) = R → ev m_M_readBack 0 [some (eR 0)] [] ([mQ P, eA 0 964 g, eA 0 144 mk, eA 0 24 fr, eA 0 600 bY], c) = R := fun R hR => by
    refine hpre R (fun z hz => ?_)
    rw [hz]
    refine xCallW (N := 2) (M2 := m_M_readBack) (pc2 := 17) (ls2 := [some (eR 0)]) (st2 := []) (y := m_M_check) (as := [some (eR 0), some (eI zb), some (eI 6)]) (w2 := ([mQ P, eA 0 964 g, eA 0 144 mk, eA 0 24 fr, eA 0 600 bY], c)) rfl q1 ?_
    refine xCallWV (N := 3) (M2 := m_M_readBack) (pc2 := 22) (ls2 := [some (eR 0)]) (st2 := []) (y := m_M_next) (as := [some (eR 0)]) (w2 := ([mQ P1, eA 0 964 g, eA 0 144 mk, eA 0 24 fr, eA 0 600 bY], c)) rfl q2 ?_
    refine xCallWV (N := 2) (M2 := m_M_readBack) (pc2 := 26) (ls2 := [some (eR 0)]) (st2 := []) (y := m_M_finish) (as := [some (eR 0)]) (w2 := ([mQ P2, eA 0 964 g, eA 0 144 mk, eA 0 24 fr, eA 0 600 bY], c)) rfl q3 ?_
    exact hR
  have hbad : ∀ z Q, mS B n Q (.inl z) → mU P Q → staS B n a (tkS B n e) (tkE B n e) 5 = .inl z → (∀ R : eRes, some (.inl none, ([mQ Q, eA 0 964 g, eA 0 144 mk, eA 0 24 fr, eA 0 600 bY], c)) = R → ev m_M_readBack 0 [some (eR 0)] [] ([mQ P, eA 0 964 g, eA 0 144 mk, eA 0 24 fr, eA 0 600 bY], c) = R) → ∃ P' g' mk' fr' : Nat → Int, mE B n a P' g' (staS B n a (tkS B n e) (tkE B n e) 5) ∧ mU P P' ∧ ev m_M_readBack 0 [some (eR 0)] [] ([mQ P, eA 0 964 g, eA 0 144 mk, eA 0 24 fr, eA 0 600 bY], c) = some (.inl none, ([mQ P', eA 0 964 g', eA 0 144 mk', eA 0 24 fr', eA 0 600 bY], c)) := fun z Q hs hu hst hq => by
    rw [hst]
    exact ⟨Q, g, mk, fr, ⟨hs, hg⟩, hu, hq _ rfl⟩
  have hbad4 : ∀ z, mS B n P3 (.inl z) → staS B n a (tkS B n e) (tkE B n e) 5 = .inl z → ∃ P' g' mk' fr' : Nat → Int, mE B n a P' g' (staS B n a (tkS B n e) (tkE B n e) 5) ∧ mU P P' ∧ ev m_M_readBack 0 [some (eR 0)] [] ([mQ P, eA 0 964 g, eA 0 144 mk, eA 0 24 fr, eA 0 600 bY], c) = some (.inl none, ([mQ P', eA 0 964 g', eA 0 144 mk', eA 0 24 fr', eA 0 600 bY], c)) := fun z hs hst => by
    have hne := mS_L hs
    obtain ⟨_, c18⟩ := mS_at hs
    refine hbad z P3 hs u9 hst (fun R hR => hmid R ?_)
    refine xEqF (N := 3) (x := P3 18) (y := 0) (A := ev m_M_readBack 36 [some (eR 0)] [] ([mQ P3, eA 0 964 g, eA 0 144 mk, eA 0 24 fr, eA 0 600 bY], c)) (B := ev m_M_readBack 52 [some (eR 0)] [] ([mQ P3, eA 0 964 g, eA 0 144 mk, eA 0 24 fr, eA 0 600 bY], c)) rfl (wr_id (by omega) (by omega)) (show wr 0 = 0 by decide) (by omega) ?_
    refine xSeg (N := 1) (r := some (.inl none, ([mQ P3, eA 0 964 g, eA 0 144 mk, eA 0 24 fr, eA 0 600 bY], c))) rfl ?_
    exact hR
  have hst : ∀ q, bacS a (tkS B n e) (tkE B n e) = q → staS B n a (tkS B n e) (tkE B n e) 5 = finS B n (match q with | .inl x => .inl x | .inr e1 => .inr (tbA a, e1)) := fun q hq => by
    show finS B n (match bacS a (tkS B n e) (tkE B n e) with | .inl x => .inl x | .inr e1 => .inr (tbA a, e1)) = _
    rw [hq]
  by_cases h5 : 0 < a 5
  · have hb1 : b = true := by rw [hb]; exact decide_eq_true h5
    rw [hb1] at s3
    have s3' : mS B n P3 (nxR B n (fiR B n (.inr (tkE B n e)))) := s3
    have hst2 := hst _ (if_pos h5)
    rcases fin_cases (B := B) (n := n) (e := tkE B n e) (a' := tbA a) with ⟨z, f1, f2⟩ | ⟨f1, f2⟩
    · rw [f1] at s3'
      exact hbad4 z s3' (hst2.trans f2)
    · rw [f1] at s3'
      rw [hst2.trans f2]
      obtain ⟨g2, mk2, fr2, n3, n4⟩ := n_takesBack (mk := mk) (fr := fr) (P := P3) (c := (0, 0)) hg hI h5
      refine ⟨P3, g2, mk2, fr2, ⟨s3', n3⟩, u9, hmid _ ?_⟩
      have h618 := s3'.2.1
      have h4 := (iA_tb hI h5).2.2.2.2.1
      obtain ⟨zl, hzl⟩ : ∃ zl : Int, zl = ((tbA a 4 : Nat) : Int) := ⟨_, rfl⟩
      rw [← hzl] at n4
      refine xEqT (N := 3) (x := P3 18) (y := 0) (A := ev m_M_readBack 36 [some (eR 0)] [] ([mQ P3, eA 0 964 g, eA 0 144 mk, eA 0 24 fr, eA 0 600 bY], c)) (B := ev m_M_readBack 52 [some (eR 0)] [] ([mQ P3, eA 0 964 g, eA 0 144 mk, eA 0 24 fr, eA 0 600 bY], c)) rfl (wr_id (by omega) (by omega)) (show wr 0 = 0 by decide) (by omega) ?_
      refine xCallW (N := 4) (M2 := m_M_readBack) (pc2 := 41) (ls2 := [some (eR 0)]) (st2 := []) (y := m_M_takesBack) (as := [some (eR 0), some (eR 1)]) (w2 := ([mQ P3, eA 0 964 g, eA 0 144 mk, eA 0 24 fr, eA 0 600 bY], c)) rfl (nRow n4 rfl rfl rfl) ?_
      refine xLtF (N := 1) (x := zl) (y := 0) (A := ev m_M_readBack 47 [some (eR 0)] [] ([mQ P3, eA 0 964 g2, eA 0 144 mk2, eA 0 24 fr2, eA 0 600 bY], c)) (B := ev m_M_readBack 52 [some (eR 0)] [] ([mQ P3, eA 0 964 g2, eA 0 144 mk2, eA 0 24 fr2, eA 0 600 bY], c)) rfl (wr_id (by omega) (by omega)) (show wr 0 = 0 by decide) (by omega) ?_
      refine xSeg (N := 1) (r := some (.inl none, ([mQ P3, eA 0 964 g2, eA 0 144 mk2, eA 0 24 fr2, eA 0 600 bY], c))) rfl ?_
      rfl
  · have hb1 : b = false := by rw [hb]; exact decide_eq_false h5
    rw [hb1] at s3
    exact hbad4 _ s3 (hst _ (if_neg h5))
theorem m_rSolve {e : Nat} (h : mS B n P (.inr e)) (hn : n ≤ 600) (hby : ∀ i, i < n → bY i = (B i : Int) ∧ B i < 256) (hg : rg g a) (hI : iA a) : ∃ P' g' mk' fr' : Nat → Int, mE B n a P' g' (staS B n a (tkS B n e) (tkE B n e) 6) ∧ mU P P' ∧ ev m_M_readSolve 0 [some (eR 0)] [] ([mQ P, eA 0 964 g, eA 0 144 mk, eA 0 24 fr, eA 0 600 bY], c) = some (.inl none, ([mQ P', eA 0 964 g', eA 0 144 mk', eA 0 24 fr', eA 0 600 bY], c)) := by
  obtain ⟨hG, hV, hO, hT, hM⟩ := hI
  have hI : iA a := ⟨hG, hV, hO, hT, hM⟩
  obtain ⟨P1, s1, u1, q1⟩ := m_nx (g := g) (mk := mk) (fr := fr) (c := c) h hn hby
  obtain ⟨P2, v2, s2, u2, w2, x2, q2⟩ := m_num (g := g) (mk := mk) (fr := fr) (c := c) (lo := 0) (hi := 201) (l := 0) (h9 := 200) s1 hn hby rfl rfl (by omega) (by omega)
  obtain ⟨P3, s3, u3, q3⟩ := m_fin (g := g) (mk := mk) (fr := fr) (c := c) s2 hn hby
  have u9 := mU_tr (mU_tr u1 u2) u3
  have hmid : ∀ R : eRes, ev m_M_readSolve 17 [some (eR 0), some (eI v2)] [] ([mQ P3, eA 0 964 g, eA 0 144 mk, eA 0 24 fr, eA 0 600 bY], c) = R → ev m_M_readSolve 0 [some (eR 0)] [] ([mQ P, eA 0 964 g, eA 0 144 mk, eA 0 24 fr, eA 0 600 bY], c) = R := fun R hR => by
    refine xCallWV (N := 2) (M2 := m_M_readSolve) (pc2 := 1) (ls2 := [some (eR 0)]) (st2 := []) (y := m_M_next) (as := [some (eR 0)]) (w2 := ([mQ P, eA 0 964 g, eA 0 144 mk, eA 0 24 fr, eA 0 600 bY], c)) rfl q1 ?_
    refine xCallW (N := 4) (M2 := m_M_readSolve) (pc2 := 9) (ls2 := [some (eR 0)]) (st2 := []) (y := m_M_number) (as := [some (eR 0), some (eI 0), some (eI 200)]) (w2 := ([mQ P1, eA 0 964 g, eA 0 144 mk, eA 0 24 fr, eA 0 600 bY], c)) rfl q2 ?_
    refine xCallWV (N := 3) (M2 := m_M_readSolve) (pc2 := 14) (ls2 := [some (eR 0), some (eI v2)]) (st2 := []) (y := m_M_finish) (as := [some (eR 0)]) (w2 := ([mQ P2, eA 0 964 g, eA 0 144 mk, eA 0 24 fr, eA 0 600 bY], c)) rfl q3 ?_
    exact hR
  have hbad : ∀ z Q, mS B n Q (.inl z) → mU P Q → staS B n a (tkS B n e) (tkE B n e) 6 = .inl z → (∀ R : eRes, some (.inl none, ([mQ Q, eA 0 964 g, eA 0 144 mk, eA 0 24 fr, eA 0 600 bY], c)) = R → ev m_M_readSolve 0 [some (eR 0)] [] ([mQ P, eA 0 964 g, eA 0 144 mk, eA 0 24 fr, eA 0 600 bY], c) = R) → ∃ P' g' mk' fr' : Nat → Int, mE B n a P' g' (staS B n a (tkS B n e) (tkE B n e) 6) ∧ mU P P' ∧ ev m_M_readSolve 0 [some (eR 0)] [] ([mQ P, eA 0 964 g, eA 0 144 mk, eA 0 24 fr, eA 0 600 bY], c) = some (.inl none, ([mQ P', eA 0 964 g', eA 0 144 mk', eA 0 24 fr', eA 0 600 bY], c)) := fun z Q hs hu hst hq => by
    rw [hst]
    exact ⟨Q, g, mk, fr, ⟨hs, hg⟩, hu, hq _ rfl⟩
  have hbad4 : ∀ z, mS B n P3 (.inl z) → staS B n a (tkS B n e) (tkE B n e) 6 = .inl z → ∃ P' g' mk' fr' : Nat → Int, mE B n a P' g' (staS B n a (tkS B n e) (tkE B n e) 6) ∧ mU P P' ∧ ev m_M_readSolve 0 [some (eR 0)] [] ([mQ P, eA 0 964 g, eA 0 144 mk, eA 0 24 fr, eA 0 600 bY], c) = some (.inl none, ([mQ P', eA 0 964 g', eA 0 144 mk', eA 0 24 fr', eA 0 600 bY], c)) := fun z hs hst => by
    have hne := mS_L hs
    obtain ⟨_, c18⟩ := mS_at hs
    refine hbad z P3 hs u9 hst (fun R hR => hmid R ?_)
    refine xEqF (N := 3) (x := P3 18) (y := 0) (A := ev m_M_readSolve 24 [some (eR 0), some (eI v2)] [] ([mQ P3, eA 0 964 g, eA 0 144 mk, eA 0 24 fr, eA 0 600 bY], c)) (B := ev m_M_readSolve 41 [some (eR 0), some (eI v2)] [] ([mQ P3, eA 0 964 g, eA 0 144 mk, eA 0 24 fr, eA 0 600 bY], c)) rfl (wr_id (by omega) (by omega)) (show wr 0 = 0 by decide) (by omega) ?_
    refine xSeg (N := 1) (r := some (.inl none, ([mQ P3, eA 0 964 g, eA 0 144 mk, eA 0 24 fr, eA 0 600 bY], c))) rfl ?_
    exact hR
  have hst : ∀ q, nuS B n (tkE B n e) 0 201 2 = q → staS B n a (tkS B n e) (tkE B n e) 6 = finS B n (match q with | .inl x => .inl x | .inr (v, e1) => .inr (sv v a, e1)) := fun q hq => by
    show finS B n (match nuS B n (tkE B n e) 0 201 2 with | .inl x => .inl x | .inr (v, e1) => .inr (sv v a, e1)) = _
    rw [hq]
  have hnl := nuS_lk (B := B) (n := n) (e := tkE B n e) (lo := 0) (hi := 201)
  cases hr : lkR B n 0 201 (.inr (tkE B n e)) with
  | inl z =>
    rw [hr] at hnl
    have s3' : mS B n P3 (nxR B n (fiR B n (nxR B n (lkR B n 0 201 (.inr (tkE B n e)))))) := s3
    rw [hr] at s3'
    exact hbad4 _ s3' (hst _ hnl)
  | inr e9 =>
    obtain ⟨rfl, d1, d2, d3⟩ := lkR_r hr
    rw [hr] at hnl
    have s3' : mS B n P3 (nxR B n (fiR B n (nxR B n (lkR B n 0 201 (.inr (tkE B n e)))))) := s3
    rw [hr] at s3'
    have s3' : mS B n P3 (nxR B n (fiR B n (.inr (tkE B n (tkE B n e))))) := s3'
    obtain ⟨-, hv2⟩ := w2 _ hr
    have hst2 := hst _ hnl
    rcases fin_cases (B := B) (n := n) (e := tkE B n (tkE B n e)) (a' := sv (tkC B n (tkE B n e)) a) with ⟨z, f1, f2⟩ | ⟨f1, f2⟩
    · rw [f1] at s3'
      exact hbad4 z s3' (hst2.trans f2)
    · rw [f1] at s3'
      rw [hst2.trans f2]
      obtain ⟨g2, mk2, fr2, n3, n4⟩ := n_solves0 (mk := mk) (fr := fr) (P := P3) (x := v2) (m := tkC B n (tkE B n e)) (c := (0, 0)) hg hI hv2 (by omega)
      refine ⟨P3, g2, mk2, fr2, ⟨s3', n3⟩, u9, hmid _ ?_⟩
      have h618 := s3'.2.1
      have h4 := svc_le (d := tkC B n (tkE B n e)) (a := a)
      obtain ⟨zl, hzl⟩ : ∃ zl : Int, zl = ((svc (tkC B n (tkE B n e)) a : Nat) : Int) := ⟨_, rfl⟩
      rw [← hzl] at n4
      refine xEqT (N := 3) (x := P3 18) (y := 0) (A := ev m_M_readSolve 24 [some (eR 0), some (eI v2)] [] ([mQ P3, eA 0 964 g, eA 0 144 mk, eA 0 24 fr, eA 0 600 bY], c)) (B := ev m_M_readSolve 41 [some (eR 0), some (eI v2)] [] ([mQ P3, eA 0 964 g, eA 0 144 mk, eA 0 24 fr, eA 0 600 bY], c)) rfl (wr_id (by omega) (by omega)) (show wr 0 = 0 by decide) (by omega) ?_
      refine xCallW (N := 5) (M2 := m_M_readSolve) (pc2 := 30) (ls2 := [some (eR 0), some (eI v2)]) (st2 := []) (y := m_M_solves) (as := [some (eR 0), some (eR 1), some (eI v2)]) (w2 := ([mQ P3, eA 0 964 g, eA 0 144 mk, eA 0 24 fr, eA 0 600 bY], c)) rfl (nRow n4 rfl rfl rfl) ?_
      refine xLtF (N := 1) (x := zl) (y := 0) (A := ev m_M_readSolve 36 [some (eR 0), some (eI v2)] [] ([mQ P3, eA 0 964 g2, eA 0 144 mk2, eA 0 24 fr2, eA 0 600 bY], c)) (B := ev m_M_readSolve 41 [some (eR 0), some (eI v2)] [] ([mQ P3, eA 0 964 g2, eA 0 144 mk2, eA 0 24 fr2, eA 0 600 bY], c)) rfl (wr_id (by omega) (by omega)) (show wr 0 = 0 by decide) (by omega) ?_
      refine xSeg (N := 1) (r := some (.inl none, ([mQ P3, eA 0 964 g2, eA 0 144 mk2, eA 0 24 fr2, eA 0 600 bY], c))) rfl ?_
      rfl
end
