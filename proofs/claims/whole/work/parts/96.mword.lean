/-! The model reads a word. -/
theorem dv_L : ∀ {L d q : Nat}, L ≤ d → q < 32 ^ L → (∀ j, j < L → 1 ≤ q / 32 ^ j % 32 ∧ q / 32 ^ j % 32 ≤ 26) → dN d q = L ∧ vN d q = true
  | 0, d, q, _, h, _ => by
    have h0 : q = 0 := by rw [Nat.pow_zero] at h; omega
    subst h0
    cases d <;> exact ⟨rfl, rfl⟩
  | L + 1, 0, _, h, _, _ => by omega
  | L + 1, d + 1, q, hd, h, hj => by
    have h0 := hj 0 (by omega)
    rw [Nat.pow_zero, Nat.div_one] at h0
    have hq : q ≠ 0 := by omega
    obtain ⟨i1, i2⟩ := dv_L (L := L) (d := d) (q := q / 32) (by omega) (by rw [Nat.pow_succ] at h; omega) (fun j h9 => by
      have h8 := hj (j + 1) (by omega)
      rw [Nat.pow_succ, Nat.mul_comm, ← Nat.div_div_eq_div_mul] at h8
      exact h8)
    refine ⟨?_, ?_⟩
    · show (if q = 0 then 0 else dN d (q / 32) + 1) = L + 1
      rw [if_neg hq, i1]
    · show (decide (q = 0) || (decide (1 ≤ q % 32 ∧ q % 32 ≤ 26) && vN d (q / 32))) = true
      rw [i2, decide_eq_true h0, Bool.and_true, Bool.or_true]
theorem loN_L {cd L : Nat} (h : cdOk cd L) : loN cd = L ∧ cd ≠ 0 := by
  obtain ⟨h1, h2, ⟨h3, h4⟩, h5⟩ := h
  obtain ⟨i1, i2⟩ := dv_L (L := L) (d := 7) (q := cd) (by omega) h4 (fun j hj => by
    have h8 := h5 (L - 1 - j) (by omega)
    rw [show L - 1 - (L - 1 - j) = j by omega] at h8
    exact h8)
  refine ⟨?_, fun h0 => ?_⟩
  · unfold loN
    rw [i2, cond_true, i1, if_pos ⟨h1, h2⟩]
  · subst h0
    have h8 := h5 0 (by omega)
    rw [Nat.zero_div] at h8
    omega
theorem tk_let {B : Nat → Nat} {n e : Nat} (h : e ≤ n) (hK : tkK B n e = 1) : ∀ q, q < tkE B n e - tkS B n e → 97 ≤ B (tkS B n e + q) ∧ B (tkS B n e + q) ≤ 122 := by
  intro q hq
  obtain ⟨t1, t2, t3, t4, t5⟩ := tk_le (B := B) h
  obtain ⟨t6, t7, t8⟩ := t5 (by omega)
  rw [hK] at t8
  by_cases hi : q = 0
  · rw [hi, Nat.add_zero]; exact kd_1.mp t8.symm
  · refine kd_1.mp (rn_all (d := n - (tkS B n e + 1)) (i := tkS B n e + 1) (by omega) ?_)
    have hE : tkE B n e = rnN B 1 (n - (tkS B n e + 1)) (tkS B n e + 1) := by
      unfold tkE
      rw [if_pos t7, ← t8, if_neg (by omega)]
    rw [← hE]
    omega
theorem allN_of {p : Nat → Bool} : ∀ {n : Nat}, (∀ i, i < n → p i = true) → allN p n = true
  | 0, _ => rfl
  | n + 1, h => by
    have h1 := allN_of (n := n) (fun i hi => h i (by omega))
    unfold allN
    rw [h1, h n (by omega)]
    rfl
theorem fw_cd {a : eRow} {B : Nat → Nat} {S L : Nat} (hV : iV a) (h : ∀ q, q < L → 97 ≤ B (S + q) ∧ B (S + q) ≤ 122) (h2 : 2 ≤ L) (h6 : L ≤ 6) : fnd (fun k => decide (a (88 + k) = cdF B S L)) (a 2) 0 = fwS a B S L :=
  fnd_cong (fun k _ hk => wd_eq hV (by omega) h h2 h6)
theorem fw_no {a : eRow} {B : Nat → Nat} {S L : Nat} (hV : iV a) (h : ¬ (2 ≤ L ∧ L ≤ 6)) : fwS a B S L = -1 := by
  have hF : ∀ d k : Nat, k + d = a 2 → fnd (fun k => decide (wl a k = L) && allN (fun p => decide (B (S + p) = 97 + lt a k p)) L) d k = -1 := by
    intro d
    induction d with
    | zero => intro k _; rfl
    | succ d ih =>
      intro k hk
      have hw := hV.2 k (by omega)
      rw [fnd_F (by rw [decide_eq_false (by omega), Bool.false_and])]
      exact ih (k + 1) (by omega)
  exact hF (a 2) 0 (by omega)
theorem ad_2 {a : eRow} {cd L : Nat} (h : a 2 < 30) : adA a cd L 2 = a 2 + 1 := by
  unfold adA bgA
  rw [nwA_sm 2 (by omega), ba1_sm 2 (by omega), wd1_2]
section
variable {P g mk fr bY : Nat → Int} {B : Nat → Nat} {n : Nat} {c : Nat × Nat} {a : eRow}
set_option maxRecDepth 100000
/-- the number of the word that the reader is at -/
theorem m_code {e : Nat} (h : mS B n P (.inr e)) (hn : n ≤ 600) (hby : ∀ i, i < n → bY i = (B i : Int) ∧ B i < 256) (hK : tkK B n e = 1) : ev m_M_codeFrom 0 [some (eR 0), some (eI (P 14)), some (eI (P 17))] [] ([mQ P, eA 0 964 g, eA 0 144 mk, eA 0 24 fr, eA 0 600 bY], c) = some (.inl (some (eI ((if 2 ≤ tkE B n e - tkS B n e ∧ tkE B n e - tkS B n e ≤ 6 then cdF B (tkS B n e) (tkE B n e - tkS B n e) else 0 : Nat) : Int))), ([mQ P, eA 0 964 g, eA 0 144 mk, eA 0 24 fr, eA 0 600 bY], c)) := by
  have hL : tkL B n e = tkE B n e - tkS B n e := if_pos hK
  have h17 := h.1.2.2.2.2.2
  rw [hL] at h17
  have t := tk_le (B := B) h.1.1.2
  have hc := n_codeFrom (P := P) (c := (0, 0)) (x := P 14) (z := P 17) (S := tkS B n e) (L := tkE B n e - tkS B n e) hn hby h.1.2.1 h17 (by omega)
  have ha : allN (fun p => isL (B (tkS B n e + p))) (tkE B n e - tkS B n e) = true := allN_of (fun i hi => decide_eq_true (tk_let h.1.1.2 hK i hi))
  have hE : (if (2 ≤ tkE B n e - tkS B n e ∧ tkE B n e - tkS B n e ≤ 6) ∧ allN (fun p => isL (B (tkS B n e + p))) (tkE B n e - tkS B n e) = true then cdF B (tkS B n e) (tkE B n e - tkS B n e) else 0) = (if 2 ≤ tkE B n e - tkS B n e ∧ tkE B n e - tkS B n e ≤ 6 then cdF B (tkS B n e) (tkE B n e - tkS B n e) else 0) := by
    by_cases hL : 2 ≤ tkE B n e - tkS B n e ∧ tkE B n e - tkS B n e ≤ 6
    · rw [if_pos ⟨hL, ha⟩, if_pos hL]
    · rw [if_neg (fun h => hL h.1), if_neg hL]
  rw [hE] at hc
  exact nUp hc rfl rfl rfl
theorem m_rWord {e : Nat} (h : mS B n P (.inr e)) (hn : n ≤ 600) (hby : ∀ i, i < n → bY i = (B i : Int) ∧ B i < 256) (hg : rg g a) (hI : iA a) : ∃ P' g' mk' fr' : Nat → Int, mE B n a P' g' (staS B n a (tkS B n e) (tkE B n e) 2) ∧ mU P P' ∧ ev m_M_readWord 0 [some (eR 0)] [] ([mQ P, eA 0 964 g, eA 0 144 mk, eA 0 24 fr, eA 0 600 bY], c) = some (.inl none, ([mQ P', eA 0 964 g', eA 0 144 mk', eA 0 24 fr', eA 0 600 bY], c)) := by
  obtain ⟨hG, hV, hO, hT, hM⟩ := hI
  have hI : iA a := ⟨hG, hV, hO, hT, hM⟩
  have r2 := hg 2 (by omega)
  have b2 := hV.1
  obtain ⟨b, hb⟩ : ∃ b : Bool, b = decide (a 2 < 30) := ⟨_, rfl⟩
  obtain ⟨zb, hzb⟩ : ∃ zb : Int, zb = bI b := ⟨_, rfl⟩
  obtain ⟨P1, v1, s1, u1, q1⟩ := m_chk (g := g) (mk := mk) (fr := fr) (bY := bY) (c := c) (b := b) (k := 5) (x := zb) (z := 5) h hzb rfl (by omega)
  obtain ⟨P2, s2, u2, q2⟩ := m_nx (g := g) (mk := mk) (fr := fr) (c := c) s1 hn hby
  obtain ⟨⟨e0, hk0⟩, b18⟩ := mS_at s2
  have t15 := tkT_le (k := tkK B n e0)
  have k15 := hk0.2.2.2.1
  obtain ⟨b3, hb3⟩ : ∃ b3 : Bool, b3 = decide (P2 15 = 3) := ⟨_, rfl⟩
  obtain ⟨zc, hzc⟩ : ∃ zc : Int, zc = bI b3 := ⟨_, rfl⟩
  obtain ⟨P3, v3, s3, u3, q3⟩ := m_chk (g := g) (mk := mk) (fr := fr) (bY := bY) (c := c) (b := b3) (k := 1) (x := zc) (z := 1) s2 hzc rfl (by omega)
  have u9 := mU_tr (mU_tr u1 u2) u3
  have hpre : ∀ R : eRes, (∀ z, z = zb → ev m_M_readWord 17 [some (eR 0)] [eI z, eR 0] ([mQ P, eA 0 964 g, eA 0 144 mk, eA 0 24 fr, eA 0 600 bY], c) = R) → ev m_M_readWord 0 [some (eR 0)] [] ([mQ P, eA 0 964 g, eA 0 144 mk, eA 0 24 fr, eA 0 600 bY], c) = R := fun R hR => by
    have h0 : ¬ (a 2 < 30) → 0 = zb := fun hh => by rw [hzb, hb, decide_eq_false hh]; rfl
    have h1 : (a 2 < 30) → 1 = zb := fun hh => by rw [hzb, hb, decide_eq_true hh]; rfl
    refine xLd (N := 5) (n := 964) (i := 2) (F := fun zq => ev m_M_readWord 7 [some (eR 0)] [eI (g zq), eR 0] ([mQ P, eA 0 964 g, eA 0 144 mk, eA 0 24 fr, eA 0 600 bY], c)) (k := 2) rfl (show wr 2 = ((2 : Nat) : Int) by decide) (by omega) ?_
    refine xLt (N := 2) (x := g 2) (y := 30) (A := ev m_M_readWord 12 [some (eR 0)] [eR 0] ([mQ P, eA 0 964 g, eA 0 144 mk, eA 0 24 fr, eA 0 600 bY], c)) (B := ev m_M_readWord 16 [some (eR 0)] [eR 0] ([mQ P, eA 0 964 g, eA 0 144 mk, eA 0 24 fr, eA 0 600 bY], c)) rfl (wr_id (by omega) (by omega)) (show wr 30 = 30 by decide) (fun h9 => ?_) (fun h9 => ?_)
    · refine xSeg (N := 2) (r := ev m_M_readWord 17 [some (eR 0)] [eI 1, eR 0] ([mQ P, eA 0 964 g, eA 0 144 mk, eA 0 24 fr, eA 0 600 bY], c)) rfl ?_
      exact hR _ (h1 (by omega))
    · refine xSeg (N := 1) (r := ev m_M_readWord 17 [some (eR 0)] [eI 0, eR 0] ([mQ P, eA 0 964 g, eA 0 144 mk, eA 0 24 fr, eA 0 600 bY], c)) rfl ?_
      exact hR _ (h0 (by omega))
  have hmid2 : ∀ R : eRes, ev m_M_readWord 26 [some (eR 0)] [] ([mQ P2, eA 0 964 g, eA 0 144 mk, eA 0 24 fr, eA 0 600 bY], c) = R → ev m_M_readWord 0 [some (eR 0)] [] ([mQ P, eA 0 964 g, eA 0 144 mk, eA 0 24 fr, eA 0 600 bY], c) = R := fun R hR => by
    refine hpre R (fun z hz => ?_)
    rw [hz]
    refine xCallW (N := 2) (M2 := m_M_readWord) (pc2 := 18) (ls2 := [some (eR 0)]) (st2 := []) (y := m_M_check) (as := [some (eR 0), some (eI zb), some (eI 5)]) (w2 := ([mQ P, eA 0 964 g, eA 0 144 mk, eA 0 24 fr, eA 0 600 bY], c)) rfl q1 ?_
    refine xCallWV (N := 3) (M2 := m_M_readWord) (pc2 := 23) (ls2 := [some (eR 0)]) (st2 := []) (y := m_M_next) (as := [some (eR 0)]) (w2 := ([mQ P1, eA 0 964 g, eA 0 144 mk, eA 0 24 fr, eA 0 600 bY], c)) rfl q2 ?_
    exact hR
  have hmid : ∀ R : eRes, ev m_M_readWord 45 [some (eR 0)] [] ([mQ P3, eA 0 964 g, eA 0 144 mk, eA 0 24 fr, eA 0 600 bY], c) = R → ev m_M_readWord 0 [some (eR 0)] [] ([mQ P, eA 0 964 g, eA 0 144 mk, eA 0 24 fr, eA 0 600 bY], c) = R := fun R hR => by
    refine hmid2 R ?_
    have h0 : ¬ (P2 15 = 3) → 0 = zc := fun hh => by rw [hzc, hb3, decide_eq_false hh]; rfl
    have h1 : (P2 15 = 3) → 1 = zc := fun hh => by rw [hzc, hb3, decide_eq_true hh]; rfl
    have ht : ∀ z, z = zc → ev m_M_readWord 40 [some (eR 0)] [eI z, eR 0] ([mQ P2, eA 0 964 g, eA 0 144 mk, eA 0 24 fr, eA 0 600 bY], c) = R := fun z hz => by
      rw [hz]
      refine xCallW (N := 2) (M2 := m_M_readWord) (pc2 := 41) (ls2 := [some (eR 0)]) (st2 := []) (y := m_M_check) (as := [some (eR 0), some (eI zc), some (eI 1)]) (w2 := ([mQ P2, eA 0 964 g, eA 0 144 mk, eA 0 24 fr, eA 0 600 bY], c)) rfl q3 ?_
      refine xSeg (N := 1) (r := ev m_M_readWord 45 [some (eR 0)] [] ([mQ P3, eA 0 964 g, eA 0 144 mk, eA 0 24 fr, eA 0 600 bY], c)) rfl ?_
      exact hR
    generalize tkT (tkK B n e0) = tk9 at *
    refine xEq (N := 5) (x := P2 15) (y := 3) (A := ev m_M_readWord 35 [some (eR 0)] [eR 0] ([mQ P2, eA 0 964 g, eA 0 144 mk, eA 0 24 fr, eA 0 600 bY], c)) (B := ev m_M_readWord 39 [some (eR 0)] [eR 0] ([mQ P2, eA 0 964 g, eA 0 144 mk, eA 0 24 fr, eA 0 600 bY], c)) rfl (wr_id (by omega) (by omega)) (show wr 3 = 3 by decide) (fun h32 => ?_) (fun h32 => ?_)
    · refine xSeg (N := 2) (r := ev m_M_readWord 40 [some (eR 0)] [eI 1, eR 0] ([mQ P2, eA 0 964 g, eA 0 144 mk, eA 0 24 fr, eA 0 600 bY], c)) rfl ?_
      exact ht _ (h1 (by omega))
    · refine xSeg (N := 1) (r := ev m_M_readWord 40 [some (eR 0)] [eI 0, eR 0] ([mQ P2, eA 0 964 g, eA 0 144 mk, eA 0 24 fr, eA 0 600 bY], c)) rfl ?_
      exact ht _ (h0 (by omega))
  have hbad : ∀ z Q, mS B n Q (.inl z) → mU P Q → staS B n a (tkS B n e) (tkE B n e) 2 = .inl z → (∀ R : eRes, some (.inl none, ([mQ Q, eA 0 964 g, eA 0 144 mk, eA 0 24 fr, eA 0 600 bY], c)) = R → ev m_M_readWord 0 [some (eR 0)] [] ([mQ P, eA 0 964 g, eA 0 144 mk, eA 0 24 fr, eA 0 600 bY], c) = R) → ∃ P' g' mk' fr' : Nat → Int, mE B n a P' g' (staS B n a (tkS B n e) (tkE B n e) 2) ∧ mU P P' ∧ ev m_M_readWord 0 [some (eR 0)] [] ([mQ P, eA 0 964 g, eA 0 144 mk, eA 0 24 fr, eA 0 600 bY], c) = some (.inl none, ([mQ P', eA 0 964 g', eA 0 144 mk', eA 0 24 fr', eA 0 600 bY], c)) := fun z Q hs hu hst hq => by
    rw [hst]
    exact ⟨Q, g, mk, fr, ⟨hs, hg⟩, hu, hq _ rfl⟩
  have herr : ∀ (z : Nat × Nat) (Q : Nat → Int) (x1 zz : Int), zz = 1 → mS B n Q (.inl z) → ∃ Q' : Nat → Int, mS B n Q' (.inl z) ∧ mU Q Q' ∧ ev m_M_readWord 84 [some (eR 0), some (eI x1)] [] ([mQ Q, eA 0 964 g, eA 0 144 mk, eA 0 24 fr, eA 0 600 bY], c) = some (.inl none, ([mQ Q', eA 0 964 g, eA 0 144 mk, eA 0 24 fr, eA 0 600 bY], c)) := fun z Q x1 zz hzz hs => by
    obtain ⟨P5, v5, s5, u5, q5⟩ := m_chk (g := g) (mk := mk) (fr := fr) (bY := bY) (c := c) (b := true) (k := 3) (x := 1) (z := 3) hs rfl rfl (by omega)
    obtain ⟨P6, s6, u6, q6⟩ := m_nx (g := g) (mk := mk) (fr := fr) (c := c) s5 hn hby
    obtain ⟨P7, s7, u7, q7⟩ := m_fin (g := g) (mk := mk) (fr := fr) (c := c) s6 hn hby
    have hne := mS_L hs
    obtain ⟨_, c18⟩ := mS_at hs
    have hne7 := mS_L (z := z) s7
    obtain ⟨_, d18⟩ := mS_at s7
    refine ⟨P7, s7, mU_tr (mU_tr u5 u6) u7, ?_⟩
    refine xEqF (N := 4) (x := Q 18) (y := 0) (A := ev m_M_readWord 92 [some (eR 0), some (eI x1)] [eR 0] ([mQ Q, eA 0 964 g, eA 0 144 mk, eA 0 24 fr, eA 0 600 bY], c)) (B := ev m_M_readWord 104 [some (eR 0), some (eI x1)] [eR 0] ([mQ Q, eA 0 964 g, eA 0 144 mk, eA 0 24 fr, eA 0 600 bY], c)) rfl (wr_id (by omega) (by omega)) (show wr 0 = 0 by decide) (by omega) ?_
    refine xCallW (N := 4) (M2 := m_M_readWord) (pc2 := 110) (ls2 := [some (eR 0), some (eI x1)]) (st2 := []) (y := m_M_check) (as := [some (eR 0), some (eI 1), some (eI 3)]) (w2 := ([mQ Q, eA 0 964 g, eA 0 144 mk, eA 0 24 fr, eA 0 600 bY], c)) rfl q5 ?_
    refine xCallWV (N := 3) (M2 := m_M_readWord) (pc2 := 115) (ls2 := [some (eR 0), some (eI x1)]) (st2 := []) (y := m_M_next) (as := [some (eR 0)]) (w2 := ([mQ P5, eA 0 964 g, eA 0 144 mk, eA 0 24 fr, eA 0 600 bY], c)) rfl q6 ?_
    refine xCallWV (N := 2) (M2 := m_M_readWord) (pc2 := 119) (ls2 := [some (eR 0), some (eI x1)]) (st2 := []) (y := m_M_finish) (as := [some (eR 0)]) (w2 := ([mQ P6, eA 0 964 g, eA 0 144 mk, eA 0 24 fr, eA 0 600 bY], c)) rfl q7 ?_
    refine xEqF (N := 3) (x := P7 18) (y := 0) (A := ev m_M_readWord 129 [some (eR 0), some (eI x1)] [] ([mQ P7, eA 0 964 g, eA 0 144 mk, eA 0 24 fr, eA 0 600 bY], c)) (B := ev m_M_readWord 146 [some (eR 0), some (eI x1)] [] ([mQ P7, eA 0 964 g, eA 0 144 mk, eA 0 24 fr, eA 0 600 bY], c)) rfl (wr_id (by omega) (by omega)) (show wr 0 = 0 by decide) (by omega) ?_
    refine xSeg (N := 1) (r := some (.inl none, ([mQ P7, eA 0 964 g, eA 0 144 mk, eA 0 24 fr, eA 0 600 bY], c))) rfl ?_
    rfl
  have hbad3 : ∀ z, mS B n P3 (.inl z) → staS B n a (tkS B n e) (tkE B n e) 2 = .inl z → ∃ P' g' mk' fr' : Nat → Int, mE B n a P' g' (staS B n a (tkS B n e) (tkE B n e) 2) ∧ mU P P' ∧ ev m_M_readWord 0 [some (eR 0)] [] ([mQ P, eA 0 964 g, eA 0 144 mk, eA 0 24 fr, eA 0 600 bY], c) = some (.inl none, ([mQ P', eA 0 964 g', eA 0 144 mk', eA 0 24 fr', eA 0 600 bY], c)) := fun z hs hst => by
    obtain ⟨P4, v4, s4, u4, q4⟩ := m_chk (g := g) (mk := mk) (fr := fr) (bY := bY) (c := c) (b := false) (k := 2) (x := 0) (z := 2) hs rfl rfl (by omega)
    obtain ⟨Q5, s5, u5, q5⟩ := herr z P4 0 1 rfl s4
    have hne := mS_L hs
    obtain ⟨_, c18⟩ := mS_at hs
    refine hbad z Q5 s5 (mU_tr u9 (mU_tr u4 u5)) hst (fun R hR => hmid R ?_)
    refine xEqF (N := 3) (x := P3 18) (y := 0) (A := ev m_M_readWord 52 [some (eR 0)] [] ([mQ P3, eA 0 964 g, eA 0 144 mk, eA 0 24 fr, eA 0 600 bY], c)) (B := ev m_M_readWord 67 [some (eR 0)] [] ([mQ P3, eA 0 964 g, eA 0 144 mk, eA 0 24 fr, eA 0 600 bY], c)) rfl (wr_id (by omega) (by omega)) (show wr 0 = 0 by decide) (by omega) ?_
    refine xEqT (N := 5) (x := 0) (y := 0) (A := ev m_M_readWord 78 [some (eR 0), some (eI 0)] [eR 0] ([mQ P3, eA 0 964 g, eA 0 144 mk, eA 0 24 fr, eA 0 600 bY], c)) (B := ev m_M_readWord 74 [some (eR 0), some (eI 0)] [eR 0] ([mQ P3, eA 0 964 g, eA 0 144 mk, eA 0 24 fr, eA 0 600 bY], c)) rfl (show wr 0 = 0 by decide) (show wr 0 = 0 by decide) (by decide) ?_
    refine xCallW (N := 3) (M2 := m_M_readWord) (pc2 := 80) (ls2 := [some (eR 0), some (eI 0)]) (st2 := []) (y := m_M_check) (as := [some (eR 0), some (eI 0), some (eI 2)]) (w2 := ([mQ P3, eA 0 964 g, eA 0 144 mk, eA 0 24 fr, eA 0 600 bY], c)) rfl q4 ?_
    refine xSeg (N := 1) (r := ev m_M_readWord 84 [some (eR 0), some (eI 0)] [] ([mQ P4, eA 0 964 g, eA 0 144 mk, eA 0 24 fr, eA 0 600 bY], c)) rfl ?_
    exact q5.trans hR
  have hst : ∀ q, wrdS B n a (tkS B n e) (tkE B n e) = q → staS B n a (tkS B n e) (tkE B n e) 2 = finS B n (match q with | .inl x => .inl x | .inr e1 => .inr (adA a (cdF B (tkS B n (tkE B n e)) (tkE B n (tkE B n e) - tkS B n (tkE B n e))) (tkE B n (tkE B n e) - tkS B n (tkE B n e)), e1)) := fun q hq => by
    show finS B n (match wrdS B n a (tkS B n e) (tkE B n e) with | .inl x => .inl x | .inr e1 => .inr (adA a (cdF B (tkS B n (tkE B n e)) (tkE B n (tkE B n e) - tkS B n (tkE B n e))) (tkE B n (tkE B n e) - tkS B n (tkE B n e)), e1)) = _
    rw [hq]
  by_cases h30 : a 2 < 30
  · have hb1 : b = true := by rw [hb]; exact decide_eq_true h30
    rw [hb1] at s2 s3
    have s2' : mS B n P2 (.inr (tkE B n e)) := s2
    have hb3q : b3 = decide (tkK B n (tkE B n e) = 1) := by
      rw [hb3]
      have e15 := s2'.1.2.2.2.1
      have hT3 := tkT_3 (k := tkK B n (tkE B n e))
      exact decide_eq_decide.mpr ⟨fun hh => by omega, fun hh => by omega⟩
    have s3' : mS B n P3 (ckR B n b3 1 (.inr (tkE B n e))) := s3
    by_cases hK : tkK B n (tkE B n e) = 1
    · rw [hb3q, decide_eq_true hK] at s3'
      have s3' : mS B n P3 (.inr (tkE B n e)) := s3'
      have hcf := m_code (g := g) (mk := mk) (fr := fr) (c := c) s3' hn hby hK
      have h18 := s3'.2.1
      by_cases hL : 2 ≤ tkE B n (tkE B n e) - tkS B n (tkE B n e) ∧ tkE B n (tkE B n e) - tkS B n (tkE B n e) ≤ 6
      · rw [if_pos hL] at hcf
        have hlet := tk_let s3'.1.1.2 hK
        have hok := cdF_ok hlet hL.1 hL.2
        obtain ⟨hlo, hc0⟩ := loN_L hok
        have hfw := fw_cd hV hlet hL.1 hL.2
        have hwr : wrdS B n a (tkS B n e) (tkE B n e) = (if fwS a B (tkS B n (tkE B n e)) (tkE B n (tkE B n e) - tkS B n (tkE B n e)) = -1 then .inr (tkE B n (tkE B n e)) else .inl (3, tkS B n (tkE B n e))) := by
          unfold wrdS
          rw [if_neg (by omega), if_pos hK, if_pos hL]
        have hst2 := hst _ hwr
        generalize hcdq : cdF B (tkS B n (tkE B n e)) (tkE B n (tkE B n e) - tkS B n (tkE B n e)) = cd at *
        obtain ⟨zd, hzd⟩ : ∃ zd : Int, zd = (cd : Int) := ⟨_, rfl⟩
        rw [← hzd] at hcf
        have hcl := hok.2.2.1.1
        have hwo := n_wordOf (c := (0, 0)) hg hV hzd (by omega)
        rw [hfw] at hwo
        have hfb := fwS_b (a := a) (B := B) (S := tkS B n (tkE B n e)) (L := tkE B n (tkE B n e) - tkS B n (tkE B n e))
        generalize fwS a B (tkS B n (tkE B n e)) (tkE B n (tkE B n e) - tkS B n (tkE B n e)) = fi at *
        obtain ⟨P4, v4, s4, u4, q4⟩ := m_chk (g := g) (mk := mk) (fr := fr) (bY := bY) (c := c) (b := true) (k := 2) (x := 1) (z := 2) s3' rfl rfl (by omega)
        have s4' : mS B n P4 (.inr (tkE B n e)) := s4
        have h418 := s4'.2.1
        by_cases hf : fi = -1
        · rw [if_pos hf] at hst2
          obtain ⟨P5, v5, s5, u5, q5⟩ := m_chk (g := g) (mk := mk) (fr := fr) (bY := bY) (c := c) (b := true) (k := 3) (x := 1) (z := 3) s4' rfl rfl (by omega)
          have s5' : mS B n P5 (.inr (tkE B n e)) := s5
          obtain ⟨P6, s6, u6, q6⟩ := m_nx (g := g) (mk := mk) (fr := fr) (c := c) s5' hn hby
          obtain ⟨P7, s7, u7, q7⟩ := m_fin (g := g) (mk := mk) (fr := fr) (c := c) s6 hn hby
          have s7' : mS B n P7 (nxR B n (fiR B n (.inr (tkE B n (tkE B n e))))) := s7
          have u10 := mU_tr u9 (mU_tr (mU_tr (mU_tr u4 u5) u6) u7)
          rcases fin_cases (B := B) (n := n) (e := tkE B n (tkE B n e)) (a' := adA a cd (tkE B n (tkE B n e) - tkS B n (tkE B n e))) with ⟨z, f1, f2⟩ | ⟨f1, f2⟩
          · rw [f1] at s7'
            have hne7 := mS_L s7'
            obtain ⟨_, d18⟩ := mS_at s7'
            refine hbad z P7 s7' u10 (hst2.trans f2) (fun R hR => hmid R ?_)
            refine xEqT (N := 3) (x := P3 18) (y := 0) (A := ev m_M_readWord 52 [some (eR 0)] [] ([mQ P3, eA 0 964 g, eA 0 144 mk, eA 0 24 fr, eA 0 600 bY], c)) (B := ev m_M_readWord 67 [some (eR 0)] [] ([mQ P3, eA 0 964 g, eA 0 144 mk, eA 0 24 fr, eA 0 600 bY], c)) rfl (wr_id (by omega) (by omega)) (show wr 0 = 0 by decide) (by omega) ?_
            refine xCallW (N := 6) (M2 := m_M_readWord) (pc2 := 61) (ls2 := [some (eR 0)]) (st2 := []) (y := m_M_codeFrom) (as := [some (eR 0), some (eI (P3 14)), some (eI (P3 17))]) (w2 := ([mQ P3, eA 0 964 g, eA 0 144 mk, eA 0 24 fr, eA 0 600 bY], c)) rfl hcf ?_
            refine xEqF (N := 5) (x := zd) (y := 0) (A := ev m_M_readWord 78 [some (eR 0), some (eI zd)] [eR 0] ([mQ P3, eA 0 964 g, eA 0 144 mk, eA 0 24 fr, eA 0 600 bY], c)) (B := ev m_M_readWord 74 [some (eR 0), some (eI zd)] [eR 0] ([mQ P3, eA 0 964 g, eA 0 144 mk, eA 0 24 fr, eA 0 600 bY], c)) rfl (wr_id (by omega) (by omega)) (show wr 0 = 0 by decide) (by omega) ?_
            refine xCallW (N := 4) (M2 := m_M_readWord) (pc2 := 80) (ls2 := [some (eR 0), some (eI zd)]) (st2 := []) (y := m_M_check) (as := [some (eR 0), some (eI 1), some (eI 2)]) (w2 := ([mQ P3, eA 0 964 g, eA 0 144 mk, eA 0 24 fr, eA 0 600 bY], c)) rfl q4 ?_
            refine xEqT (N := 5) (x := P4 18) (y := 0) (A := ev m_M_readWord 92 [some (eR 0), some (eI zd)] [eR 0] ([mQ P4, eA 0 964 g, eA 0 144 mk, eA 0 24 fr, eA 0 600 bY], c)) (B := ev m_M_readWord 104 [some (eR 0), some (eI zd)] [eR 0] ([mQ P4, eA 0 964 g, eA 0 144 mk, eA 0 24 fr, eA 0 600 bY], c)) rfl (wr_id (by omega) (by omega)) (show wr 0 = 0 by decide) (by omega) ?_
            refine xCall (N := 4) (M2 := m_M_readWord) (pc2 := 97) (ls2 := [some (eR 0), some (eI zd)]) (st2 := [eR 0]) (y := m_M_wordOf) (as := [some (eR 1), some (eI zd)]) (w2 := ([mQ P4, eA 0 964 g, eA 0 144 mk, eA 0 24 fr, eA 0 600 bY], c)) rfl (nRd hwo rfl rfl rfl) ?_
            refine xEqT (N := 2) (x := fi) (y := (-1)) (A := ev m_M_readWord 104 [some (eR 0), some (eI zd)] [eR 0] ([mQ P4, eA 0 964 g, eA 0 144 mk, eA 0 24 fr, eA 0 600 bY], c)) (B := ev m_M_readWord 108 [some (eR 0), some (eI zd)] [eR 0] ([mQ P4, eA 0 964 g, eA 0 144 mk, eA 0 24 fr, eA 0 600 bY], c)) rfl (wr_id (by omega) (by omega)) (show wr (-1) = (-1) by decide) (by omega) ?_
            refine xCallW (N := 4) (M2 := m_M_readWord) (pc2 := 110) (ls2 := [some (eR 0), some (eI zd)]) (st2 := []) (y := m_M_check) (as := [some (eR 0), some (eI 1), some (eI 3)]) (w2 := ([mQ P4, eA 0 964 g, eA 0 144 mk, eA 0 24 fr, eA 0 600 bY], c)) rfl q5 ?_
            refine xCallWV (N := 3) (M2 := m_M_readWord) (pc2 := 115) (ls2 := [some (eR 0), some (eI zd)]) (st2 := []) (y := m_M_next) (as := [some (eR 0)]) (w2 := ([mQ P5, eA 0 964 g, eA 0 144 mk, eA 0 24 fr, eA 0 600 bY], c)) rfl q6 ?_
            refine xCallWV (N := 2) (M2 := m_M_readWord) (pc2 := 119) (ls2 := [some (eR 0), some (eI zd)]) (st2 := []) (y := m_M_finish) (as := [some (eR 0)]) (w2 := ([mQ P6, eA 0 964 g, eA 0 144 mk, eA 0 24 fr, eA 0 600 bY], c)) rfl q7 ?_
            refine xEqF (N := 3) (x := P7 18) (y := 0) (A := ev m_M_readWord 129 [some (eR 0), some (eI zd)] [] ([mQ P7, eA 0 964 g, eA 0 144 mk, eA 0 24 fr, eA 0 600 bY], c)) (B := ev m_M_readWord 146 [some (eR 0), some (eI zd)] [] ([mQ P7, eA 0 964 g, eA 0 144 mk, eA 0 24 fr, eA 0 600 bY], c)) rfl (wr_id (by omega) (by omega)) (show wr 0 = 0 by decide) (by omega) ?_
            refine xSeg (N := 1) (r := some (.inl none, ([mQ P7, eA 0 964 g, eA 0 144 mk, eA 0 24 fr, eA 0 600 bY], c))) rfl ?_
            exact hR
          · rw [f1] at s7'
            rw [hst2.trans f2]
            obtain ⟨g2, mk2, fr2, n3, n4⟩ := n_adds (mk := mk) (fr := fr) (P := P7) (x := zd) (cd := cd) (c := (0, 0)) hg hI h30 hzd (by omega) (by omega)
            rw [hlo] at n3
            refine ⟨P7, g2, mk2, fr2, ⟨s7', n3⟩, u10, hmid _ ?_⟩
            have h718 := s7'.2.1
            have hg2 := n3 2 (by omega)
            rw [ad_2 h30] at hg2
            obtain ⟨zl, hzl⟩ : ∃ zl : Int, zl = g2 2 - 1 := ⟨_, rfl⟩
            rw [← hzl] at n4
            refine xEqT (N := 3) (x := P3 18) (y := 0) (A := ev m_M_readWord 52 [some (eR 0)] [] ([mQ P3, eA 0 964 g, eA 0 144 mk, eA 0 24 fr, eA 0 600 bY], c)) (B := ev m_M_readWord 67 [some (eR 0)] [] ([mQ P3, eA 0 964 g, eA 0 144 mk, eA 0 24 fr, eA 0 600 bY], c)) rfl (wr_id (by omega) (by omega)) (show wr 0 = 0 by decide) (by omega) ?_
            refine xCallW (N := 6) (M2 := m_M_readWord) (pc2 := 61) (ls2 := [some (eR 0)]) (st2 := []) (y := m_M_codeFrom) (as := [some (eR 0), some (eI (P3 14)), some (eI (P3 17))]) (w2 := ([mQ P3, eA 0 964 g, eA 0 144 mk, eA 0 24 fr, eA 0 600 bY], c)) rfl hcf ?_
            refine xEqF (N := 5) (x := zd) (y := 0) (A := ev m_M_readWord 78 [some (eR 0), some (eI zd)] [eR 0] ([mQ P3, eA 0 964 g, eA 0 144 mk, eA 0 24 fr, eA 0 600 bY], c)) (B := ev m_M_readWord 74 [some (eR 0), some (eI zd)] [eR 0] ([mQ P3, eA 0 964 g, eA 0 144 mk, eA 0 24 fr, eA 0 600 bY], c)) rfl (wr_id (by omega) (by omega)) (show wr 0 = 0 by decide) (by omega) ?_
            refine xCallW (N := 4) (M2 := m_M_readWord) (pc2 := 80) (ls2 := [some (eR 0), some (eI zd)]) (st2 := []) (y := m_M_check) (as := [some (eR 0), some (eI 1), some (eI 2)]) (w2 := ([mQ P3, eA 0 964 g, eA 0 144 mk, eA 0 24 fr, eA 0 600 bY], c)) rfl q4 ?_
            refine xEqT (N := 5) (x := P4 18) (y := 0) (A := ev m_M_readWord 92 [some (eR 0), some (eI zd)] [eR 0] ([mQ P4, eA 0 964 g, eA 0 144 mk, eA 0 24 fr, eA 0 600 bY], c)) (B := ev m_M_readWord 104 [some (eR 0), some (eI zd)] [eR 0] ([mQ P4, eA 0 964 g, eA 0 144 mk, eA 0 24 fr, eA 0 600 bY], c)) rfl (wr_id (by omega) (by omega)) (show wr 0 = 0 by decide) (by omega) ?_
            refine xCall (N := 4) (M2 := m_M_readWord) (pc2 := 97) (ls2 := [some (eR 0), some (eI zd)]) (st2 := [eR 0]) (y := m_M_wordOf) (as := [some (eR 1), some (eI zd)]) (w2 := ([mQ P4, eA 0 964 g, eA 0 144 mk, eA 0 24 fr, eA 0 600 bY], c)) rfl (nRd hwo rfl rfl rfl) ?_
            refine xEqT (N := 2) (x := fi) (y := (-1)) (A := ev m_M_readWord 104 [some (eR 0), some (eI zd)] [eR 0] ([mQ P4, eA 0 964 g, eA 0 144 mk, eA 0 24 fr, eA 0 600 bY], c)) (B := ev m_M_readWord 108 [some (eR 0), some (eI zd)] [eR 0] ([mQ P4, eA 0 964 g, eA 0 144 mk, eA 0 24 fr, eA 0 600 bY], c)) rfl (wr_id (by omega) (by omega)) (show wr (-1) = (-1) by decide) (by omega) ?_
            refine xCallW (N := 4) (M2 := m_M_readWord) (pc2 := 110) (ls2 := [some (eR 0), some (eI zd)]) (st2 := []) (y := m_M_check) (as := [some (eR 0), some (eI 1), some (eI 3)]) (w2 := ([mQ P4, eA 0 964 g, eA 0 144 mk, eA 0 24 fr, eA 0 600 bY], c)) rfl q5 ?_
            refine xCallWV (N := 3) (M2 := m_M_readWord) (pc2 := 115) (ls2 := [some (eR 0), some (eI zd)]) (st2 := []) (y := m_M_next) (as := [some (eR 0)]) (w2 := ([mQ P5, eA 0 964 g, eA 0 144 mk, eA 0 24 fr, eA 0 600 bY], c)) rfl q6 ?_
            refine xCallWV (N := 2) (M2 := m_M_readWord) (pc2 := 119) (ls2 := [some (eR 0), some (eI zd)]) (st2 := []) (y := m_M_finish) (as := [some (eR 0)]) (w2 := ([mQ P6, eA 0 964 g, eA 0 144 mk, eA 0 24 fr, eA 0 600 bY], c)) rfl q7 ?_
            refine xEqT (N := 3) (x := P7 18) (y := 0) (A := ev m_M_readWord 129 [some (eR 0), some (eI zd)] [] ([mQ P7, eA 0 964 g, eA 0 144 mk, eA 0 24 fr, eA 0 600 bY], c)) (B := ev m_M_readWord 146 [some (eR 0), some (eI zd)] [] ([mQ P7, eA 0 964 g, eA 0 144 mk, eA 0 24 fr, eA 0 600 bY], c)) rfl (wr_id (by omega) (by omega)) (show wr 0 = 0 by decide) (by omega) ?_
            refine xCallW (N := 5) (M2 := m_M_readWord) (pc2 := 135) (ls2 := [some (eR 0), some (eI zd)]) (st2 := []) (y := m_M_adds) (as := [some (eR 0), some (eR 1), some (eI zd)]) (w2 := ([mQ P7, eA 0 964 g, eA 0 144 mk, eA 0 24 fr, eA 0 600 bY], c)) rfl (nRow n4 rfl rfl rfl) ?_
            refine xLtF (N := 1) (x := zl) (y := 0) (A := ev m_M_readWord 141 [some (eR 0), some (eI zd)] [] ([mQ P7, eA 0 964 g2, eA 0 144 mk2, eA 0 24 fr2, eA 0 600 bY], c)) (B := ev m_M_readWord 146 [some (eR 0), some (eI zd)] [] ([mQ P7, eA 0 964 g2, eA 0 144 mk2, eA 0 24 fr2, eA 0 600 bY], c)) rfl (wr_id (by omega) (by omega)) (show wr 0 = 0 by decide) (by omega) ?_
            refine xSeg (N := 1) (r := some (.inl none, ([mQ P7, eA 0 964 g2, eA 0 144 mk2, eA 0 24 fr2, eA 0 600 bY], c))) rfl ?_
            rfl
        · rw [if_neg hf] at hst2
          obtain ⟨P5, v5, s5, u5, q5⟩ := m_chk (g := g) (mk := mk) (fr := fr) (bY := bY) (c := c) (b := false) (k := 3) (x := 0) (z := 3) s4' rfl rfl (by omega)
          obtain ⟨P6, s6, u6, q6⟩ := m_nx (g := g) (mk := mk) (fr := fr) (c := c) s5 hn hby
          obtain ⟨P7, s7, u7, q7⟩ := m_fin (g := g) (mk := mk) (fr := fr) (c := c) s6 hn hby
          have s7' : mS B n P7 (.inl (3, tkS B n (tkE B n e))) := s7
          have hne7 := mS_L s7'
          obtain ⟨_, d18⟩ := mS_at s7'
          refine hbad _ P7 s7' (mU_tr u9 (mU_tr (mU_tr (mU_tr u4 u5) u6) u7)) hst2 (fun R hR => hmid R ?_)
          refine xEqT (N := 3) (x := P3 18) (y := 0) (A := ev m_M_readWord 52 [some (eR 0)] [] ([mQ P3, eA 0 964 g, eA 0 144 mk, eA 0 24 fr, eA 0 600 bY], c)) (B := ev m_M_readWord 67 [some (eR 0)] [] ([mQ P3, eA 0 964 g, eA 0 144 mk, eA 0 24 fr, eA 0 600 bY], c)) rfl (wr_id (by omega) (by omega)) (show wr 0 = 0 by decide) (by omega) ?_
          refine xCallW (N := 6) (M2 := m_M_readWord) (pc2 := 61) (ls2 := [some (eR 0)]) (st2 := []) (y := m_M_codeFrom) (as := [some (eR 0), some (eI (P3 14)), some (eI (P3 17))]) (w2 := ([mQ P3, eA 0 964 g, eA 0 144 mk, eA 0 24 fr, eA 0 600 bY], c)) rfl hcf ?_
          refine xEqF (N := 5) (x := zd) (y := 0) (A := ev m_M_readWord 78 [some (eR 0), some (eI zd)] [eR 0] ([mQ P3, eA 0 964 g, eA 0 144 mk, eA 0 24 fr, eA 0 600 bY], c)) (B := ev m_M_readWord 74 [some (eR 0), some (eI zd)] [eR 0] ([mQ P3, eA 0 964 g, eA 0 144 mk, eA 0 24 fr, eA 0 600 bY], c)) rfl (wr_id (by omega) (by omega)) (show wr 0 = 0 by decide) (by omega) ?_
          refine xCallW (N := 4) (M2 := m_M_readWord) (pc2 := 80) (ls2 := [some (eR 0), some (eI zd)]) (st2 := []) (y := m_M_check) (as := [some (eR 0), some (eI 1), some (eI 2)]) (w2 := ([mQ P3, eA 0 964 g, eA 0 144 mk, eA 0 24 fr, eA 0 600 bY], c)) rfl q4 ?_
          refine xEqT (N := 5) (x := P4 18) (y := 0) (A := ev m_M_readWord 92 [some (eR 0), some (eI zd)] [eR 0] ([mQ P4, eA 0 964 g, eA 0 144 mk, eA 0 24 fr, eA 0 600 bY], c)) (B := ev m_M_readWord 104 [some (eR 0), some (eI zd)] [eR 0] ([mQ P4, eA 0 964 g, eA 0 144 mk, eA 0 24 fr, eA 0 600 bY], c)) rfl (wr_id (by omega) (by omega)) (show wr 0 = 0 by decide) (by omega) ?_
          refine xCall (N := 4) (M2 := m_M_readWord) (pc2 := 97) (ls2 := [some (eR 0), some (eI zd)]) (st2 := [eR 0]) (y := m_M_wordOf) (as := [some (eR 1), some (eI zd)]) (w2 := ([mQ P4, eA 0 964 g, eA 0 144 mk, eA 0 24 fr, eA 0 600 bY], c)) rfl (nRd hwo rfl rfl rfl) ?_
          refine xEqF (N := 2) (x := fi) (y := (-1)) (A := ev m_M_readWord 104 [some (eR 0), some (eI zd)] [eR 0] ([mQ P4, eA 0 964 g, eA 0 144 mk, eA 0 24 fr, eA 0 600 bY], c)) (B := ev m_M_readWord 108 [some (eR 0), some (eI zd)] [eR 0] ([mQ P4, eA 0 964 g, eA 0 144 mk, eA 0 24 fr, eA 0 600 bY], c)) rfl (wr_id (by omega) (by omega)) (show wr (-1) = (-1) by decide) (by omega) ?_
          refine xCallW (N := 3) (M2 := m_M_readWord) (pc2 := 110) (ls2 := [some (eR 0), some (eI zd)]) (st2 := []) (y := m_M_check) (as := [some (eR 0), some (eI 0), some (eI 3)]) (w2 := ([mQ P4, eA 0 964 g, eA 0 144 mk, eA 0 24 fr, eA 0 600 bY], c)) rfl q5 ?_
          refine xCallWV (N := 3) (M2 := m_M_readWord) (pc2 := 115) (ls2 := [some (eR 0), some (eI zd)]) (st2 := []) (y := m_M_next) (as := [some (eR 0)]) (w2 := ([mQ P5, eA 0 964 g, eA 0 144 mk, eA 0 24 fr, eA 0 600 bY], c)) rfl q6 ?_
          refine xCallWV (N := 2) (M2 := m_M_readWord) (pc2 := 119) (ls2 := [some (eR 0), some (eI zd)]) (st2 := []) (y := m_M_finish) (as := [some (eR 0)]) (w2 := ([mQ P6, eA 0 964 g, eA 0 144 mk, eA 0 24 fr, eA 0 600 bY], c)) rfl q7 ?_
          refine xEqF (N := 3) (x := P7 18) (y := 0) (A := ev m_M_readWord 129 [some (eR 0), some (eI zd)] [] ([mQ P7, eA 0 964 g, eA 0 144 mk, eA 0 24 fr, eA 0 600 bY], c)) (B := ev m_M_readWord 146 [some (eR 0), some (eI zd)] [] ([mQ P7, eA 0 964 g, eA 0 144 mk, eA 0 24 fr, eA 0 600 bY], c)) rfl (wr_id (by omega) (by omega)) (show wr 0 = 0 by decide) (by omega) ?_
          refine xSeg (N := 1) (r := some (.inl none, ([mQ P7, eA 0 964 g, eA 0 144 mk, eA 0 24 fr, eA 0 600 bY], c))) rfl ?_
          exact hR
      · rw [if_neg hL] at hcf
        obtain ⟨P4, v4, s4, u4, q4⟩ := m_chk (g := g) (mk := mk) (fr := fr) (bY := bY) (c := c) (b := false) (k := 2) (x := 0) (z := 2) s3' rfl rfl (by omega)
        have s4' : mS B n P4 (.inl (2, tkS B n (tkE B n e))) := s4
        obtain ⟨Q5, s5, u5, q5⟩ := herr _ P4 0 1 rfl s4'
        have hwr : wrdS B n a (tkS B n e) (tkE B n e) = .inl (2, tkS B n (tkE B n e)) := by
          unfold wrdS
          rw [if_neg (by omega), if_pos hK, if_neg hL]
        refine hbad _ Q5 s5 (mU_tr u9 (mU_tr u4 u5)) (hst _ hwr) (fun R hR => hmid R ?_)
        refine xEqT (N := 3) (x := P3 18) (y := 0) (A := ev m_M_readWord 52 [some (eR 0)] [] ([mQ P3, eA 0 964 g, eA 0 144 mk, eA 0 24 fr, eA 0 600 bY], c)) (B := ev m_M_readWord 67 [some (eR 0)] [] ([mQ P3, eA 0 964 g, eA 0 144 mk, eA 0 24 fr, eA 0 600 bY], c)) rfl (wr_id (by omega) (by omega)) (show wr 0 = 0 by decide) (by omega) ?_
        refine xCallW (N := 6) (M2 := m_M_readWord) (pc2 := 61) (ls2 := [some (eR 0)]) (st2 := []) (y := m_M_codeFrom) (as := [some (eR 0), some (eI (P3 14)), some (eI (P3 17))]) (w2 := ([mQ P3, eA 0 964 g, eA 0 144 mk, eA 0 24 fr, eA 0 600 bY], c)) rfl hcf ?_
        refine xEqT (N := 5) (x := 0) (y := 0) (A := ev m_M_readWord 78 [some (eR 0), some (eI 0)] [eR 0] ([mQ P3, eA 0 964 g, eA 0 144 mk, eA 0 24 fr, eA 0 600 bY], c)) (B := ev m_M_readWord 74 [some (eR 0), some (eI 0)] [eR 0] ([mQ P3, eA 0 964 g, eA 0 144 mk, eA 0 24 fr, eA 0 600 bY], c)) rfl (show wr 0 = 0 by decide) (show wr 0 = 0 by decide) (by decide) ?_
        refine xCallW (N := 3) (M2 := m_M_readWord) (pc2 := 80) (ls2 := [some (eR 0), some (eI 0)]) (st2 := []) (y := m_M_check) (as := [some (eR 0), some (eI 0), some (eI 2)]) (w2 := ([mQ P3, eA 0 964 g, eA 0 144 mk, eA 0 24 fr, eA 0 600 bY], c)) rfl q4 ?_
        refine xSeg (N := 1) (r := ev m_M_readWord 84 [some (eR 0), some (eI 0)] [] ([mQ P4, eA 0 964 g, eA 0 144 mk, eA 0 24 fr, eA 0 600 bY], c)) rfl ?_
        exact q5.trans hR
    · rw [hb3q, decide_eq_false hK] at s3'
      have hwr : wrdS B n a (tkS B n e) (tkE B n e) = .inl (1, tkS B n (tkE B n e)) := by
        unfold wrdS
        rw [if_neg (by omega), if_neg hK]
      exact hbad3 _ s3' (hst _ hwr)
  · have hb1 : b = false := by rw [hb]; exact decide_eq_false h30
    rw [hb1] at s3
    have hwr : wrdS B n a (tkS B n e) (tkE B n e) = .inl (5, tkS B n e) := if_pos (by omega)
    exact hbad3 _ s3 (hst _ hwr)
end
