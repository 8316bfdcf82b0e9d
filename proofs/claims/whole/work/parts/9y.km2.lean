/-! The model's methods that change the row. -/
theorem MR_er {P P' g gr gs kp bM oM : Nat → Int} {us : Nat} {a : eRow} {X : xT} {t : Int} {e : Option (Nat × Nat)} (h : MR P g gr gs kp bM oM us a X t) (hu : mU P P') (he : erM P' e) : MR P' g gr gs kp bM oM us a (erX X e) t := by
  obtain ⟨r1, r2, r3, r4, r5, r6, r7⟩ := h
  refine ⟨r1, (hu 10 (by omega)).trans r2, ?_, he, ?_, ?_, r7⟩
  · show P' 12 = _ ∧ _
    rw [hu 12 (by omega)]; exact r3
  · show P' 21 = _ ∧ _
    rw [hu 21 (by omega)]; exact r5
  · show P' 8 = _ ∧ _ ∧ P' 9 = _ ∧ _
    rw [hu 8 (by omega), hu 9 (by omega)]; exact r6
theorem MR_pop {P g gr gs kp bM oM : Nat → Int} {us : Nat} {a : eRow} {X : xT} {t : Int} (h : MR P g gr gs kp bM oM us a X t) (h0 : X.1.1 ≠ 0) : MR (eUp P 8 (P 8 - 1)) (cpR gr g (964 * ((us + (X.1.1 - 1)) % 8)) 0 964) gr gs kp bM oM us (X.1.2 0) (popX X) t := by
  obtain ⟨r1, r2, r3, r4, r5, ⟨p1, p2, p3, p4, p5⟩, r7⟩ := h
  have hp := p5 0 (by omega)
  have hz : (us + X.1.1 - 1 - 0) % 8 = (us + (X.1.1 - 1)) % 8 := by omega
  rw [hz] at hp
  refine ⟨⟨fun i hi => ?_, hp.2⟩, by rw [eUp_ne (by omega)]; exact r2, ?_, erM_up (by omega) r4, ?_, ⟨?_, ?_, ?_, p4, fun j hj => ?_⟩, r7⟩
  · have := cpR_in (f := gr) (h := g) (I := 964 * ((us + (X.1.1 - 1)) % 8)) (J := 0) (k := 964) hi
    rw [Nat.zero_add] at this
    rw [this]
    exact hp.1 i hi
  · show eUp P 8 (P 8 - 1) 12 = _ ∧ _
    rw [eUp_ne (by omega)]; exact r3
  · show eUp P 8 (P 8 - 1) 21 = _ ∧ _
    rw [eUp_ne (by omega)]; exact r5
  · show eUp P 8 (P 8 - 1) 8 = ((X.1.1 - 1 : Nat) : Int)
    rw [eUp_at]; omega
  · show X.1.1 - 1 ≤ 8
    omega
  · rw [eUp_ne (by omega)]; exact p3
  · have hj : j < X.1.1 - 1 := hj
    have := p5 (j + 1) (by omega)
    have hz : (us + X.1.1 - 1 - (j + 1)) % 8 = (us + (X.1.1 - 1) - 1 - j) % 8 := by omega
    rw [hz] at this
    exact this
theorem MR_cpy {P g gr gs kp bM oM f : Nat → Int} {us I : Nat} {a r : eRow} {X : xT} {t : Int} (h : MR P g gr gs kp bM oM us a X t) (hr : rgA f I r) (ho : okR r) : MR P (cpR f g I 0 964) gr gs kp bM oM us r X t := MR_g h (fun i hi => by
  have := cpR_in (f := f) (h := g) (I := I) (J := 0) (k := 964) hi
  rw [Nat.zero_add] at this
  rw [this]
  exact hr i hi) ho
theorem n_cs1 {g : Nat → Int} {a : eRow} (hg : rg g a) (hn : a 3 ≤ 24) (h4 : a 4 < 4) (h : cnS a = true) : ev m_M_canStep 0 [some (eR 0)] [] ([eA 0 964 g], (0, 0)) = some (.inl (some (eI 1)), ([eA 0 964 g], (0, 0))) := by
  have := n_canStep (c := (0, 0)) hg hn h4
  unfold cnS at h
  rw [h] at this
  exact this
theorem n_cs0 {g : Nat → Int} {a : eRow} (hg : rg g a) (hn : a 3 ≤ 24) (h4 : a 4 < 4) (h : cnS a = false) : ev m_M_canStep 0 [some (eR 0)] [] ([eA 0 964 g], (0, 0)) = some (.inl (some (eI 0)), ([eA 0 964 g], (0, 0))) := by
  have := n_canStep (c := (0, 0)) hg hn h4
  unfold cnS at h
  rw [h] at this
  exact this
theorem n_why0 {g : Nat → Int} {a : eRow} {x y : Int} {k w : Nat} (hg : rg g a) (hx : x = (k : Int)) (hy : y = (w : Int)) (hk : k < 24) (hm : op a k < 1073741824) (hw : w < 32) (h4 : a 4 < 4) (h : rfs (a 4) ((op a k).testBit w) (decide (pc 30 (op a k) = 1)) = 0) : ev m_M_whyNotGuess 0 [some (eR 0), some (eI x), some (eI y)] [] ([eA 0 964 g], (0, 0)) = some (.inl (some (eI 0)), ([eA 0 964 g], (0, 0))) := by
  have := n_whyNotGuess (c := (0, 0)) hg hx hy hk hm hw h4
  rw [h] at this
  exact this
theorem rfs_3 {md : Nat} {b s : Bool} : rfs md b s ≤ 3 := by
  unfold rfs
  cases b <;> cases s <;> (dsimp only [cond]; split <;> omega)
theorem n_whyN {g : Nat → Int} {a : eRow} {x y : Int} {k w : Nat} (hg : rg g a) (hx : x = (k : Int)) (hy : y = (w : Int)) (hk : k < 24) (hm : op a k < 1073741824) (hw : w < 32) (h4 : a 4 < 4) (h : rfs (a 4) ((op a k).testBit w) (decide (pc 30 (op a k) = 1)) ≠ 0) : ∃ z9 : Int, (1 ≤ z9 ∧ z9 ≤ 3) ∧ ev m_M_whyNotGuess 0 [some (eR 0), some (eI x), some (eI y)] [] ([eA 0 964 g], (0, 0)) = some (.inl (some (eI z9)), ([eA 0 964 g], (0, 0))) := by
  refine ⟨_, ?_, n_whyNotGuess (c := (0, 0)) hg hx hy hk hm hw h4⟩
  have := rfs_3 (md := a 4) (b := (op a k).testBit w) (s := decide (pc 30 (op a k) = 1))
  omega
theorem n_lo0 {x : Int} {w : eW} (bx : -2147483648 ≤ x ∧ x < 2147483648) (h : ∀ cd : Nat, x = (cd : Int) → loN cd = 0) : ev m_M_lettersOf 0 [some (eI x)] [] w = some (.inl (some (eI 0)), w) := by
  by_cases hx : x < 0
  · exact n_lettersNeg hx bx.1
  · have := n_lettersOf (x := x) (cd := x.toNat) (w := w) (by omega) (by omega)
    rw [h x.toNat (by omega)] at this
    exact this
theorem n_lo1 {x : Int} {w : eW} {cd : Nat} (hx : x = (cd : Int)) (hc : cd < 2147483648) (h : loN cd ≠ 0) : ∃ z9 : Int, z9 ≠ 0 ∧ (-10 ≤ z9 ∧ z9 ≤ 10) ∧ ev m_M_lettersOf 0 [some (eI x)] [] w = some (.inl (some (eI z9)), w) := by
  refine ⟨_, ?_, ?_, n_lettersOf hx hc⟩
  · omega
  · have := (loN_ok hc h).2.1
    omega
theorem n_co {r : Option Nat} {x y z : Int} {w : eW} (h : z = 6 * y + x) : ev m_M_cellOf 0 [some (.inr (.inl r)), some (eI x), some (eI y)] [] w = some (.inl (some (eI z)), w) := by
  rw [h]
  exact n_cellOf
def erT : zR (Option (Nat × Nat) × eRow) → Option (Nat × Nat)
  | .inl z => some z
  | .inr q => q.1
theorem m_rd {P gp mk fr bM : Nat → Int} {B : Nat → Nat} {n : Nat} (h12 : P 12 = (n : Int)) (hn : n ≤ 600) (hby : ∀ i, i < n → bM i = (B i : Int) ∧ B i < 256) : ∃ P' g' mk' fr' : Nat → Int, mU P P' ∧ erM P' (erT (txS B n)) ∧ (∀ q, txS B n = .inr q → rg g' q.2 ∧ okR q.2) ∧ ev m_M_read 0 [some (eR 0)] [] ([mQ P, eA 0 964 gp, eA 0 144 mk, eA 0 24 fr, eA 0 600 bM], (0, 0)) = some (.inl none, ([mQ P', eA 0 964 g', eA 0 144 mk', eA 0 24 fr', eA 0 600 bM], (0, 0))) := by
  obtain ⟨P', g', mk', fr', h1, h2, h3⟩ := m_read (P := P) (g := gp) (mk := mk) (fr := fr) (bY := bM) (c := (0, 0)) h12 hn hby
  refine ⟨P', g', mk', fr', h2, ?_, fun q hq => ?_, h3⟩
  · cases ht : txS B n with
    | inl z => rw [ht] at h1; exact ⟨h1.2.2.1, h1.2.2.2, h1.2.1⟩
    | inr q =>
      rw [ht] at h1
      obtain ⟨q1, q2⟩ := q
      cases q1 with
      | none => obtain ⟨⟨e, h4⟩, h5⟩ := h1; exact ⟨h4.2.1, h4.2.2⟩
      | some z => exact ⟨h1.1.2.2.1, h1.1.2.2.2, h1.1.2.1⟩
  · have hB := txS_iB hq
    rw [hq] at h1
    obtain ⟨q1, q2⟩ := q
    cases q1 with
    | none => exact ⟨h1.2.1, h1.2.2, hB⟩
    | some z => exact ⟨h1.2.1, h1.2.2, hB⟩
set_option maxRecDepth 100000
theorem km_takeBack {a : eRow} {X : xT} (h5 : 0 < a 5) : KM m_M_takeBack [] a X (tbA a) (pushX X a) 0 (((tbA a 4 : Nat) : Int)) := by
  intro P g gp gt gr gs mk fr kp bM oM us t0 h
  have h8 := h
  obtain ⟨⟨hg, hI, hB⟩, r2, ⟨r3, r3n, r3b⟩, r4, ⟨r5, r5n, r5b⟩, ⟨p1, p2, p3, p4, p5⟩, r7⟩ := h
  have hI8 := hI
  obtain ⟨hG, ⟨v1, v2⟩, hO, hT, hM⟩ := hI8
  obtain ⟨⟨q1, q2, q3, q4, q5⟩, q6⟩ := hG
  have b5 := iT_24 q5 hT
  have e0 := hg 0 (by omega)
  have e1 := hg 1 (by omega)
  have e2 := hg 2 (by omega)
  have e3 := hg 3 (by omega)
  have e4 := hg 4 (by omega)
  have e5 := hg 5 (by omega)
  obtain ⟨P9, gr9, us9, R9, kU9, rem9⟩ := m_remember (gp := gp) (gt := gt) (mk := mk) (fr := fr) (c := (0, 0)) (MR_t (t' := 0) h8)
  obtain ⟨g9, mk9, fr9, hg9, op9⟩ := n_takesBack (P := P9) (mk := mk) (fr := fr) (c := (0, 0)) hg hI h5
  generalize hb9 : ((tbA a 4 : Nat) : Int) = b9 at op9
  refine ⟨P9, g9, gp, gt, gr9, gs, mk9, fr9, kp, bM, oM, us9, b9, MR_g R9 hg9 ⟨iA_tb hI h5, iB_tb hB⟩, fun _ => rfl, ?_⟩
  refine xLd (N := 8) (n := 964) (i := 5) (F := fun zq => ev m_M_takeBack 12 [some (eR 0)] [eI (g zq), eR 0] ([mW (eUp P 10 0), eA 0 964 g, eA 0 964 gp, eA 0 964 gt, eA 0 7712 gr, eA 0 1928 gs, eA 0 144 mk, eA 0 24 fr, eA 1 2 kp, eA 0 600 bM, eA 2 6 oM], (0, 0))) (k := 5) rfl (show wr 5 = ((5 : Nat) : Int) by decide) (by omega) ?_
  refine xEqF (N := 1) (x := g 5) (y := 0) (A := ev m_M_takeBack 15 [some (eR 0)] [eR 0] ([mW (eUp P 10 0), eA 0 964 g, eA 0 964 gp, eA 0 964 gt, eA 0 7712 gr, eA 0 1928 gs, eA 0 144 mk, eA 0 24 fr, eA 1 2 kp, eA 0 600 bM, eA 2 6 oM], (0, 0))) (B := ev m_M_takeBack 19 [some (eR 0)] [eR 0] ([mW (eUp P 10 0), eA 0 964 g, eA 0 964 gp, eA 0 964 gt, eA 0 7712 gr, eA 0 1928 gs, eA 0 144 mk, eA 0 24 fr, eA 1 2 kp, eA 0 600 bM, eA 2 6 oM], (0, 0))) rfl (wr_id (by omega) (by omega)) (show wr 0 = 0 by decide) (by omega) ?_
  refine xCallW (N := 3) (M2 := m_M_takeBack) (pc2 := 21) (ls2 := [some (eR 0)]) (st2 := []) (y := m_M_refuses) (as := [some (eR 0), some (eI 0), some (eI 1)]) (w2 := ([mW (eUp P 10 0), eA 0 964 g, eA 0 964 gp, eA 0 964 gt, eA 0 7712 gr, eA 0 1928 gs, eA 0 144 mk, eA 0 24 fr, eA 1 2 kp, eA 0 600 bM, eA 2 6 oM], (0, 0))) rfl (w_Z (z_refF (c := (0, 0))) rfl rfl rfl) ?_
  refine xEqT (N := 1) (x := 0) (y := 0) (A := ev m_M_takeBack 29 [some (eR 0)] [] ([mW (eUp P 10 0), eA 0 964 g, eA 0 964 gp, eA 0 964 gt, eA 0 7712 gr, eA 0 1928 gs, eA 0 144 mk, eA 0 24 fr, eA 1 2 kp, eA 0 600 bM, eA 2 6 oM], (0, 0))) (B := ev m_M_takeBack 27 [some (eR 0)] [] ([mW (eUp P 10 0), eA 0 964 g, eA 0 964 gp, eA 0 964 gt, eA 0 7712 gr, eA 0 1928 gs, eA 0 144 mk, eA 0 24 fr, eA 1 2 kp, eA 0 600 bM, eA 2 6 oM], (0, 0))) rfl (show wr 0 = 0 by decide) (show wr 0 = 0 by decide) (by decide) ?_
  refine xCallWV (N := 2) (M2 := m_M_takeBack) (pc2 := 30) (ls2 := [some (eR 0)]) (st2 := []) (y := m_M_remember) (as := [some (eR 0)]) (w2 := ([mW (eUp P 10 0), eA 0 964 g, eA 0 964 gp, eA 0 964 gt, eA 0 7712 gr, eA 0 1928 gs, eA 0 144 mk, eA 0 24 fr, eA 1 2 kp, eA 0 600 bM, eA 2 6 oM], (0, 0))) rfl rem9 ?_
  refine xCallW (N := 4) (M2 := m_M_takeBack) (pc2 := 38) (ls2 := [some (eR 0)]) (st2 := []) (y := m_M_takesBack) (as := [some (eR 0), some (eR 1)]) (w2 := ([mW P9, eA 0 964 g, eA 0 964 gp, eA 0 964 gt, eA 0 7712 gr9, eA 0 1928 gs, eA 0 144 mk, eA 0 24 fr, eA 1 2 kp, eA 0 600 bM, eA 2 6 oM], (0, 0))) rfl (w_row op9 rfl rfl rfl) ?_
  refine xSeg (N := 1) (r := some (.inl (some (eI b9)), ([mW P9, eA 0 964 g9, eA 0 964 gp, eA 0 964 gt, eA 0 7712 gr9, eA 0 1928 gs, eA 0 144 mk9, eA 0 24 fr9, eA 1 2 kp, eA 0 600 bM, eA 2 6 oM], (0, 0)))) rfl ?_
  rfl
theorem km_takeBackX {a : eRow} {X : xT} (h5 : a 5 = 0) : KM m_M_takeBack [] a X (a) (X) 1 (0) := by
  intro P g gp gt gr gs mk fr kp bM oM us t0 h
  have h8 := h
  obtain ⟨⟨hg, hI, hB⟩, r2, ⟨r3, r3n, r3b⟩, r4, ⟨r5, r5n, r5b⟩, ⟨p1, p2, p3, p4, p5⟩, r7⟩ := h
  have hI8 := hI
  obtain ⟨hG, ⟨v1, v2⟩, hO, hT, hM⟩ := hI8
  obtain ⟨⟨q1, q2, q3, q4, q5⟩, q6⟩ := hG
  have b5 := iT_24 q5 hT
  have e0 := hg 0 (by omega)
  have e1 := hg 1 (by omega)
  have e2 := hg 2 (by omega)
  have e3 := hg 3 (by omega)
  have e4 := hg 4 (by omega)
  have e5 := hg 5 (by omega)
  refine ⟨eUp (eUp P 10 0) 10 1, g, gp, gt, gr, gs, mk, fr, kp, bM, oM, us, 0, MR_t (MR_t h8), fun _ => rfl, ?_⟩
  refine xLd (N := 8) (n := 964) (i := 5) (F := fun zq => ev m_M_takeBack 12 [some (eR 0)] [eI (g zq), eR 0] ([mW (eUp P 10 0), eA 0 964 g, eA 0 964 gp, eA 0 964 gt, eA 0 7712 gr, eA 0 1928 gs, eA 0 144 mk, eA 0 24 fr, eA 1 2 kp, eA 0 600 bM, eA 2 6 oM], (0, 0))) (k := 5) rfl (show wr 5 = ((5 : Nat) : Int) by decide) (by omega) ?_
  refine xEqT (N := 1) (x := g 5) (y := 0) (A := ev m_M_takeBack 15 [some (eR 0)] [eR 0] ([mW (eUp P 10 0), eA 0 964 g, eA 0 964 gp, eA 0 964 gt, eA 0 7712 gr, eA 0 1928 gs, eA 0 144 mk, eA 0 24 fr, eA 1 2 kp, eA 0 600 bM, eA 2 6 oM], (0, 0))) (B := ev m_M_takeBack 19 [some (eR 0)] [eR 0] ([mW (eUp P 10 0), eA 0 964 g, eA 0 964 gp, eA 0 964 gt, eA 0 7712 gr, eA 0 1928 gs, eA 0 144 mk, eA 0 24 fr, eA 1 2 kp, eA 0 600 bM, eA 2 6 oM], (0, 0))) rfl (wr_id (by omega) (by omega)) (show wr 0 = 0 by decide) (by omega) ?_
  refine xCallW (N := 4) (M2 := m_M_takeBack) (pc2 := 21) (ls2 := [some (eR 0)]) (st2 := []) (y := m_M_refuses) (as := [some (eR 0), some (eI 1), some (eI 1)]) (w2 := ([mW (eUp P 10 0), eA 0 964 g, eA 0 964 gp, eA 0 964 gt, eA 0 7712 gr, eA 0 1928 gs, eA 0 144 mk, eA 0 24 fr, eA 1 2 kp, eA 0 600 bM, eA 2 6 oM], (0, 0))) rfl (w_Z (z_refT (c := (0, 0)) (by omega)) rfl rfl rfl) ?_
  refine xEqF (N := 1) (x := 1) (y := 0) (A := ev m_M_takeBack 29 [some (eR 0)] [] ([mW (eUp (eUp P 10 0) 10 1), eA 0 964 g, eA 0 964 gp, eA 0 964 gt, eA 0 7712 gr, eA 0 1928 gs, eA 0 144 mk, eA 0 24 fr, eA 1 2 kp, eA 0 600 bM, eA 2 6 oM], (0, 0))) (B := ev m_M_takeBack 27 [some (eR 0)] [] ([mW (eUp (eUp P 10 0) 10 1), eA 0 964 g, eA 0 964 gp, eA 0 964 gt, eA 0 7712 gr, eA 0 1928 gs, eA 0 144 mk, eA 0 24 fr, eA 1 2 kp, eA 0 600 bM, eA 2 6 oM], (0, 0))) rfl (show wr 1 = 1 by decide) (show wr 0 = 0 by decide) (by decide) ?_
  refine xSeg (N := 2) (r := some (.inl (some (eI 0)), ([mW (eUp (eUp P 10 0) 10 1), eA 0 964 g, eA 0 964 gp, eA 0 964 gt, eA 0 7712 gr, eA 0 1928 gs, eA 0 144 mk, eA 0 24 fr, eA 1 2 kp, eA 0 600 bM, eA 2 6 oM], (0, 0)))) rfl ?_
  rfl
theorem km_step {a : eRow} {X : xT} (h5 : cnS a = true) : KM m_M_step [] a X (stp a) (pushX X a) 0 (((stp a 4 : Nat) : Int)) := by
  intro P g gp gt gr gs mk fr kp bM oM us t0 h
  have h8 := h
  obtain ⟨⟨hg, hI, hB⟩, r2, ⟨r3, r3n, r3b⟩, r4, ⟨r5, r5n, r5b⟩, ⟨p1, p2, p3, p4, p5⟩, r7⟩ := h
  have hI8 := hI
  obtain ⟨hG, ⟨v1, v2⟩, hO, hT, hM⟩ := hI8
  obtain ⟨⟨q1, q2, q3, q4, q5⟩, q6⟩ := hG
  have b5 := iT_24 q5 hT
  have e0 := hg 0 (by omega)
  have e1 := hg 1 (by omega)
  have e2 := hg 2 (by omega)
  have e3 := hg 3 (by omega)
  have e4 := hg 4 (by omega)
  have e5 := hg 5 (by omega)
  obtain ⟨P9, gr9, us9, R9, kU9, rem9⟩ := m_remember (gp := gp) (gt := gt) (mk := mk) (fr := fr) (c := (0, 0)) (MR_t (t' := 0) h8)
  obtain ⟨g9, mk9, fr9, hg9, op9⟩ := n_steps (P := P9) (mk := mk) (fr := fr) (c := (0, 0)) hg hI h5
  generalize hb9 : ((stp a 4 : Nat) : Int) = b9 at op9
  refine ⟨P9, g9, gp, gt, gr9, gs, mk9, fr9, kp, bM, oM, us9, b9, MR_g R9 hg9 ⟨iA_stp hI h5, iB_stp hB⟩, fun _ => rfl, ?_⟩
  refine xCall (N := 7) (M2 := m_M_step) (pc2 := 10) (ls2 := [some (eR 0)]) (st2 := [eR 0]) (y := m_M_canStep) (as := [some (eR 1)]) (w2 := ([mW (eUp P 10 0), eA 0 964 g, eA 0 964 gp, eA 0 964 gt, eA 0 7712 gr, eA 0 1928 gs, eA 0 144 mk, eA 0 24 fr, eA 1 2 kp, eA 0 600 bM, eA 2 6 oM], (0, 0))) rfl (w_g (n_cs1 hg q5 hM.1 h5) rfl rfl rfl) ?_
  refine xEqF (N := 1) (x := 1) (y := 0) (A := ev m_M_step 16 [some (eR 0)] [eR 0] ([mW (eUp P 10 0), eA 0 964 g, eA 0 964 gp, eA 0 964 gt, eA 0 7712 gr, eA 0 1928 gs, eA 0 144 mk, eA 0 24 fr, eA 1 2 kp, eA 0 600 bM, eA 2 6 oM], (0, 0))) (B := ev m_M_step 20 [some (eR 0)] [eR 0] ([mW (eUp P 10 0), eA 0 964 g, eA 0 964 gp, eA 0 964 gt, eA 0 7712 gr, eA 0 1928 gs, eA 0 144 mk, eA 0 24 fr, eA 1 2 kp, eA 0 600 bM, eA 2 6 oM], (0, 0))) rfl (show wr 1 = 1 by decide) (show wr 0 = 0 by decide) (by decide) ?_
  refine xCallW (N := 3) (M2 := m_M_step) (pc2 := 22) (ls2 := [some (eR 0)]) (st2 := []) (y := m_M_refuses) (as := [some (eR 0), some (eI 0), some (eI 1)]) (w2 := ([mW (eUp P 10 0), eA 0 964 g, eA 0 964 gp, eA 0 964 gt, eA 0 7712 gr, eA 0 1928 gs, eA 0 144 mk, eA 0 24 fr, eA 1 2 kp, eA 0 600 bM, eA 2 6 oM], (0, 0))) rfl (w_Z (z_refF (c := (0, 0))) rfl rfl rfl) ?_
  refine xEqT (N := 1) (x := 0) (y := 0) (A := ev m_M_step 30 [some (eR 0)] [] ([mW (eUp P 10 0), eA 0 964 g, eA 0 964 gp, eA 0 964 gt, eA 0 7712 gr, eA 0 1928 gs, eA 0 144 mk, eA 0 24 fr, eA 1 2 kp, eA 0 600 bM, eA 2 6 oM], (0, 0))) (B := ev m_M_step 28 [some (eR 0)] [] ([mW (eUp P 10 0), eA 0 964 g, eA 0 964 gp, eA 0 964 gt, eA 0 7712 gr, eA 0 1928 gs, eA 0 144 mk, eA 0 24 fr, eA 1 2 kp, eA 0 600 bM, eA 2 6 oM], (0, 0))) rfl (show wr 0 = 0 by decide) (show wr 0 = 0 by decide) (by decide) ?_
  refine xCallWV (N := 2) (M2 := m_M_step) (pc2 := 31) (ls2 := [some (eR 0)]) (st2 := []) (y := m_M_remember) (as := [some (eR 0)]) (w2 := ([mW (eUp P 10 0), eA 0 964 g, eA 0 964 gp, eA 0 964 gt, eA 0 7712 gr, eA 0 1928 gs, eA 0 144 mk, eA 0 24 fr, eA 1 2 kp, eA 0 600 bM, eA 2 6 oM], (0, 0))) rfl rem9 ?_
  refine xCallW (N := 4) (M2 := m_M_step) (pc2 := 39) (ls2 := [some (eR 0)]) (st2 := []) (y := m_M_steps) (as := [some (eR 0), some (eR 1)]) (w2 := ([mW P9, eA 0 964 g, eA 0 964 gp, eA 0 964 gt, eA 0 7712 gr9, eA 0 1928 gs, eA 0 144 mk, eA 0 24 fr, eA 1 2 kp, eA 0 600 bM, eA 2 6 oM], (0, 0))) rfl (w_row op9 rfl rfl rfl) ?_
  refine xSeg (N := 1) (r := some (.inl (some (eI b9)), ([mW P9, eA 0 964 g9, eA 0 964 gp, eA 0 964 gt, eA 0 7712 gr9, eA 0 1928 gs, eA 0 144 mk9, eA 0 24 fr9, eA 1 2 kp, eA 0 600 bM, eA 2 6 oM], (0, 0)))) rfl ?_
  rfl
theorem km_stepX {a : eRow} {X : xT} (h5 : cnS a = false) : KM m_M_step [] a X (a) (X) 1 (0) := by
  intro P g gp gt gr gs mk fr kp bM oM us t0 h
  have h8 := h
  obtain ⟨⟨hg, hI, hB⟩, r2, ⟨r3, r3n, r3b⟩, r4, ⟨r5, r5n, r5b⟩, ⟨p1, p2, p3, p4, p5⟩, r7⟩ := h
  have hI8 := hI
  obtain ⟨hG, ⟨v1, v2⟩, hO, hT, hM⟩ := hI8
  obtain ⟨⟨q1, q2, q3, q4, q5⟩, q6⟩ := hG
  have b5 := iT_24 q5 hT
  have e0 := hg 0 (by omega)
  have e1 := hg 1 (by omega)
  have e2 := hg 2 (by omega)
  have e3 := hg 3 (by omega)
  have e4 := hg 4 (by omega)
  have e5 := hg 5 (by omega)
  refine ⟨eUp (eUp P 10 0) 10 1, g, gp, gt, gr, gs, mk, fr, kp, bM, oM, us, 0, MR_t (MR_t h8), fun _ => rfl, ?_⟩
  refine xCall (N := 7) (M2 := m_M_step) (pc2 := 10) (ls2 := [some (eR 0)]) (st2 := [eR 0]) (y := m_M_canStep) (as := [some (eR 1)]) (w2 := ([mW (eUp P 10 0), eA 0 964 g, eA 0 964 gp, eA 0 964 gt, eA 0 7712 gr, eA 0 1928 gs, eA 0 144 mk, eA 0 24 fr, eA 1 2 kp, eA 0 600 bM, eA 2 6 oM], (0, 0))) rfl (w_g (n_cs0 hg q5 hM.1 h5) rfl rfl rfl) ?_
  refine xEqT (N := 1) (x := 0) (y := 0) (A := ev m_M_step 16 [some (eR 0)] [eR 0] ([mW (eUp P 10 0), eA 0 964 g, eA 0 964 gp, eA 0 964 gt, eA 0 7712 gr, eA 0 1928 gs, eA 0 144 mk, eA 0 24 fr, eA 1 2 kp, eA 0 600 bM, eA 2 6 oM], (0, 0))) (B := ev m_M_step 20 [some (eR 0)] [eR 0] ([mW (eUp P 10 0), eA 0 964 g, eA 0 964 gp, eA 0 964 gt, eA 0 7712 gr, eA 0 1928 gs, eA 0 144 mk, eA 0 24 fr, eA 1 2 kp, eA 0 600 bM, eA 2 6 oM], (0, 0))) rfl (show wr 0 = 0 by decide) (show wr 0 = 0 by decide) (by decide) ?_
  refine xCallW (N := 4) (M2 := m_M_step) (pc2 := 22) (ls2 := [some (eR 0)]) (st2 := []) (y := m_M_refuses) (as := [some (eR 0), some (eI 1), some (eI 1)]) (w2 := ([mW (eUp P 10 0), eA 0 964 g, eA 0 964 gp, eA 0 964 gt, eA 0 7712 gr, eA 0 1928 gs, eA 0 144 mk, eA 0 24 fr, eA 1 2 kp, eA 0 600 bM, eA 2 6 oM], (0, 0))) rfl (w_Z (z_refT (c := (0, 0)) (by omega)) rfl rfl rfl) ?_
  refine xEqF (N := 1) (x := 1) (y := 0) (A := ev m_M_step 30 [some (eR 0)] [] ([mW (eUp (eUp P 10 0) 10 1), eA 0 964 g, eA 0 964 gp, eA 0 964 gt, eA 0 7712 gr, eA 0 1928 gs, eA 0 144 mk, eA 0 24 fr, eA 1 2 kp, eA 0 600 bM, eA 2 6 oM], (0, 0))) (B := ev m_M_step 28 [some (eR 0)] [] ([mW (eUp (eUp P 10 0) 10 1), eA 0 964 g, eA 0 964 gp, eA 0 964 gt, eA 0 7712 gr, eA 0 1928 gs, eA 0 144 mk, eA 0 24 fr, eA 1 2 kp, eA 0 600 bM, eA 2 6 oM], (0, 0))) rfl (show wr 1 = 1 by decide) (show wr 0 = 0 by decide) (by decide) ?_
  refine xSeg (N := 2) (r := some (.inl (some (eI 0)), ([mW (eUp (eUp P 10 0) 10 1), eA 0 964 g, eA 0 964 gp, eA 0 964 gt, eA 0 7712 gr, eA 0 1928 gs, eA 0 144 mk, eA 0 24 fr, eA 1 2 kp, eA 0 600 bM, eA 2 6 oM], (0, 0)))) rfl ?_
  rfl
theorem km_solve {a : eRow} {X : xT} {x : Int} {m : Nat} (hx : x = (m : Int)) (h1 : 1 ≤ m) (h2 : m ≤ 200) : KM m_M_solve [some (eI x)] a X (sv m a) (pushX X a) 0 (((svc m a : Nat) : Int)) := by
  intro P g gp gt gr gs mk fr kp bM oM us t0 h
  have h8 := h
  obtain ⟨⟨hg, hI, hB⟩, r2, ⟨r3, r3n, r3b⟩, r4, ⟨r5, r5n, r5b⟩, ⟨p1, p2, p3, p4, p5⟩, r7⟩ := h
  have hI8 := hI
  obtain ⟨hG, ⟨v1, v2⟩, hO, hT, hM⟩ := hI8
  obtain ⟨⟨q1, q2, q3, q4, q5⟩, q6⟩ := hG
  have b5 := iT_24 q5 hT
  have e0 := hg 0 (by omega)
  have e1 := hg 1 (by omega)
  have e2 := hg 2 (by omega)
  have e3 := hg 3 (by omega)
  have e4 := hg 4 (by omega)
  have e5 := hg 5 (by omega)
  obtain ⟨P9, gr9, us9, R9, kU9, rem9⟩ := m_remember (gp := gp) (gt := gt) (mk := mk) (fr := fr) (c := (0, 0)) (MR_t (t' := 0) h8)
  obtain ⟨g9, mk9, fr9, hg9, op9⟩ := n_solves0 (P := P9) (mk := mk) (fr := fr) (c := (0, 0)) hg hI hx h2
  generalize hb9 : ((svc m a : Nat) : Int) = b9 at op9
  refine ⟨P9, g9, gp, gt, gr9, gs, mk9, fr9, kp, bM, oM, us9, b9, MR_g R9 hg9 ⟨iA_sv hI, iB_sv hB⟩, fun _ => rfl, ?_⟩
  refine xCallW (N := 5) (M2 := m_M_solve) (pc2 := 6) (ls2 := [some (eR 0), some (eI x)]) (st2 := []) (y := m_M_noNumber) (as := [some (eR 0), some (eI x), some (eI 1), some (eI 200)]) (w2 := ([mW P, eA 0 964 g, eA 0 964 gp, eA 0 964 gt, eA 0 7712 gr, eA 0 1928 gs, eA 0 144 mk, eA 0 24 fr, eA 1 2 kp, eA 0 600 bM, eA 2 6 oM], (0, 0))) rfl (w_Z (z_noNum (c := (0, 0)) (P := P) (by omega) (by omega) (by omega) (by omega)) rfl rfl rfl) ?_
  refine xEqT (N := 1) (x := 0) (y := 0) (A := ev m_M_solve 14 [some (eR 0), some (eI x)] [] ([mW (eUp P 10 0), eA 0 964 g, eA 0 964 gp, eA 0 964 gt, eA 0 7712 gr, eA 0 1928 gs, eA 0 144 mk, eA 0 24 fr, eA 1 2 kp, eA 0 600 bM, eA 2 6 oM], (0, 0))) (B := ev m_M_solve 12 [some (eR 0), some (eI x)] [] ([mW (eUp P 10 0), eA 0 964 g, eA 0 964 gp, eA 0 964 gt, eA 0 7712 gr, eA 0 1928 gs, eA 0 144 mk, eA 0 24 fr, eA 1 2 kp, eA 0 600 bM, eA 2 6 oM], (0, 0))) rfl (show wr 0 = 0 by decide) (show wr 0 = 0 by decide) (by decide) ?_
  refine xCallWV (N := 2) (M2 := m_M_solve) (pc2 := 15) (ls2 := [some (eR 0), some (eI x)]) (st2 := []) (y := m_M_remember) (as := [some (eR 0)]) (w2 := ([mW (eUp P 10 0), eA 0 964 g, eA 0 964 gp, eA 0 964 gt, eA 0 7712 gr, eA 0 1928 gs, eA 0 144 mk, eA 0 24 fr, eA 1 2 kp, eA 0 600 bM, eA 2 6 oM], (0, 0))) rfl rem9 ?_
  refine xCallW (N := 5) (M2 := m_M_solve) (pc2 := 24) (ls2 := [some (eR 0), some (eI x)]) (st2 := []) (y := m_M_solves) (as := [some (eR 0), some (eR 1), some (eI x)]) (w2 := ([mW P9, eA 0 964 g, eA 0 964 gp, eA 0 964 gt, eA 0 7712 gr9, eA 0 1928 gs, eA 0 144 mk, eA 0 24 fr, eA 1 2 kp, eA 0 600 bM, eA 2 6 oM], (0, 0))) rfl (w_row op9 rfl rfl rfl) ?_
  refine xSeg (N := 1) (r := some (.inl (some (eI b9)), ([mW P9, eA 0 964 g9, eA 0 964 gp, eA 0 964 gt, eA 0 7712 gr9, eA 0 1928 gs, eA 0 144 mk9, eA 0 24 fr9, eA 1 2 kp, eA 0 600 bM, eA 2 6 oM], (0, 0)))) rfl ?_
  rfl
theorem km_solveX {a : eRow} {X : xT} {x : Int} (bx : -2147483648 ≤ x ∧ x < 2147483648) (hn : ¬ (1 ≤ x ∧ x ≤ 200)) : KM m_M_solve [some (eI x)] a X (a) (X) 1 (0) := by
  intro P g gp gt gr gs mk fr kp bM oM us t0 h
  have h8 := h
  obtain ⟨⟨hg, hI, hB⟩, r2, ⟨r3, r3n, r3b⟩, r4, ⟨r5, r5n, r5b⟩, ⟨p1, p2, p3, p4, p5⟩, r7⟩ := h
  have hI8 := hI
  obtain ⟨hG, ⟨v1, v2⟩, hO, hT, hM⟩ := hI8
  obtain ⟨⟨q1, q2, q3, q4, q5⟩, q6⟩ := hG
  have b5 := iT_24 q5 hT
  have e0 := hg 0 (by omega)
  have e1 := hg 1 (by omega)
  have e2 := hg 2 (by omega)
  have e3 := hg 3 (by omega)
  have e4 := hg 4 (by omega)
  have e5 := hg 5 (by omega)
  refine ⟨eUp P 10 1, g, gp, gt, gr, gs, mk, fr, kp, bM, oM, us, 0, MR_t h8, fun _ => rfl, ?_⟩
  refine xCallW (N := 5) (M2 := m_M_solve) (pc2 := 6) (ls2 := [some (eR 0), some (eI x)]) (st2 := []) (y := m_M_noNumber) (as := [some (eR 0), some (eI x), some (eI 1), some (eI 200)]) (w2 := ([mW P, eA 0 964 g, eA 0 964 gp, eA 0 964 gt, eA 0 7712 gr, eA 0 1928 gs, eA 0 144 mk, eA 0 24 fr, eA 1 2 kp, eA 0 600 bM, eA 2 6 oM], (0, 0))) rfl (w_Z (z_noNumX (c := (0, 0)) (P := P) (by omega) (by omega) (by omega) (by omega)) rfl rfl rfl) ?_
  refine xEqF (N := 1) (x := 1) (y := 0) (A := ev m_M_solve 14 [some (eR 0), some (eI x)] [] ([mW (eUp P 10 1), eA 0 964 g, eA 0 964 gp, eA 0 964 gt, eA 0 7712 gr, eA 0 1928 gs, eA 0 144 mk, eA 0 24 fr, eA 1 2 kp, eA 0 600 bM, eA 2 6 oM], (0, 0))) (B := ev m_M_solve 12 [some (eR 0), some (eI x)] [] ([mW (eUp P 10 1), eA 0 964 g, eA 0 964 gp, eA 0 964 gt, eA 0 7712 gr, eA 0 1928 gs, eA 0 144 mk, eA 0 24 fr, eA 1 2 kp, eA 0 600 bM, eA 2 6 oM], (0, 0))) rfl (show wr 1 = 1 by decide) (show wr 0 = 0 by decide) (by decide) ?_
  refine xSeg (N := 2) (r := some (.inl (some (eI 0)), ([mW (eUp P 10 1), eA 0 964 g, eA 0 964 gp, eA 0 964 gt, eA 0 7712 gr, eA 0 1928 gs, eA 0 144 mk, eA 0 24 fr, eA 1 2 kp, eA 0 600 bM, eA 2 6 oM], (0, 0)))) rfl ?_
  rfl
theorem km_guess {a : eRow} {X : xT} {x y : Int} {k w : Nat} (hx : x = (k : Int)) (h1 : k < a 3) (hy : y = (w : Int)) (h2 : w < a 2) (h0 : rfs (a 4) ((op a k).testBit w) (decide (pc 30 (op a k) = 1)) = 0) : KM m_M_guess [some (eI x), some (eI y)] a X (gsA a k w) (pushX X a) 0 (((gsA a k w 4 : Nat) : Int)) := by
  intro P g gp gt gr gs mk fr kp bM oM us t0 h
  have h8 := h
  obtain ⟨⟨hg, hI, hB⟩, r2, ⟨r3, r3n, r3b⟩, r4, ⟨r5, r5n, r5b⟩, ⟨p1, p2, p3, p4, p5⟩, r7⟩ := h
  have hI8 := hI
  obtain ⟨hG, ⟨v1, v2⟩, hO, hT, hM⟩ := hI8
  obtain ⟨⟨q1, q2, q3, q4, q5⟩, q6⟩ := hG
  have b5 := iT_24 q5 hT
  have e0 := hg 0 (by omega)
  have e1 := hg 1 (by omega)
  have e2 := hg 2 (by omega)
  have e3 := hg 3 (by omega)
  have e4 := hg 4 (by omega)
  have e5 := hg 5 (by omega)
  obtain ⟨u1, u2, u3⟩ := rfs_0 h0
  have hgt := pc_gt (hO k h1).1 u2 u3
  have hwy := n_why0 hg hx hy (by omega) (hO k h1).1 (by omega) hM.1 h0
  obtain ⟨P9, gr9, us9, R9, kU9, rem9⟩ := m_remember (gp := gp) (gt := gt) (mk := mk) (fr := fr) (c := (0, 0)) (MR_t (t' := 0) h8)
  obtain ⟨g9, mk9, fr9, hg9, op9⟩ := n_takesGuess (P := P9) (mk := mk) (fr := fr) (c := (0, 0)) hg hI hx hy h1 hgt u2
  generalize hb9 : ((gsA a k w 4 : Nat) : Int) = b9 at op9
  refine ⟨P9, g9, gp, gt, gr9, gs, mk9, fr9, kp, bM, oM, us9, b9, MR_g R9 hg9 ⟨iA_gs hI h1 hgt u2, iB_gs hB⟩, fun _ => rfl, ?_⟩
  refine xCallW (N := 4) (M2 := m_M_guess) (pc2 := 3) (ls2 := [some (eR 0), some (eI x), some (eI y)]) (st2 := []) (y := m_M_noGuess) (as := [some (eR 0), some (eI x), some (eI y)]) (w2 := ([mW P, eA 0 964 g, eA 0 964 gp, eA 0 964 gt, eA 0 7712 gr, eA 0 1928 gs, eA 0 144 mk, eA 0 24 fr, eA 1 2 kp, eA 0 600 bM, eA 2 6 oM], (0, 0))) rfl (w_Z (z_noGuess (c := (0, 0)) hg hI hx h1 hy h2) rfl rfl rfl) ?_
  refine xEqT (N := 1) (x := 0) (y := 0) (A := ev m_M_guess 9 [some (eR 0), some (eI x), some (eI y)] [] ([mW (eUp P 10 0), eA 0 964 g, eA 0 964 gp, eA 0 964 gt, eA 0 7712 gr, eA 0 1928 gs, eA 0 144 mk, eA 0 24 fr, eA 1 2 kp, eA 0 600 bM, eA 2 6 oM], (0, 0))) (B := ev m_M_guess 34 [some (eR 0), some (eI x), some (eI y)] [] ([mW (eUp P 10 0), eA 0 964 g, eA 0 964 gp, eA 0 964 gt, eA 0 7712 gr, eA 0 1928 gs, eA 0 144 mk, eA 0 24 fr, eA 1 2 kp, eA 0 600 bM, eA 2 6 oM], (0, 0))) rfl (show wr 0 = 0 by decide) (show wr 0 = 0 by decide) (by decide) ?_
  refine xCall (N := 6) (M2 := m_M_guess) (pc2 := 16) (ls2 := [some (eR 0), some (eI x), some (eI y)]) (st2 := [eR 0]) (y := m_M_whyNotGuess) (as := [some (eR 1), some (eI x), some (eI y)]) (w2 := ([mW (eUp P 10 0), eA 0 964 g, eA 0 964 gp, eA 0 964 gt, eA 0 7712 gr, eA 0 1928 gs, eA 0 144 mk, eA 0 24 fr, eA 1 2 kp, eA 0 600 bM, eA 2 6 oM], (0, 0))) rfl (w_g hwy rfl rfl rfl) ?_
  refine xEqT (N := 1) (x := 0) (y := 0) (A := ev m_M_guess 26 [some (eR 0), some (eI x), some (eI y)] [eR 0] ([mW (eUp P 10 0), eA 0 964 g, eA 0 964 gp, eA 0 964 gt, eA 0 7712 gr, eA 0 1928 gs, eA 0 144 mk, eA 0 24 fr, eA 1 2 kp, eA 0 600 bM, eA 2 6 oM], (0, 0))) (B := ev m_M_guess 22 [some (eR 0), some (eI x), some (eI y)] [eR 0] ([mW (eUp P 10 0), eA 0 964 g, eA 0 964 gp, eA 0 964 gt, eA 0 7712 gr, eA 0 1928 gs, eA 0 144 mk, eA 0 24 fr, eA 1 2 kp, eA 0 600 bM, eA 2 6 oM], (0, 0))) rfl (show wr 0 = 0 by decide) (show wr 0 = 0 by decide) (by decide) ?_
  refine xCallW (N := 3) (M2 := m_M_guess) (pc2 := 28) (ls2 := [some (eR 0), some (eI x), some (eI y)]) (st2 := []) (y := m_M_refuses) (as := [some (eR 0), some (eI 0), some (eI 2)]) (w2 := ([mW (eUp P 10 0), eA 0 964 g, eA 0 964 gp, eA 0 964 gt, eA 0 7712 gr, eA 0 1928 gs, eA 0 144 mk, eA 0 24 fr, eA 1 2 kp, eA 0 600 bM, eA 2 6 oM], (0, 0))) rfl (w_Z (z_refF (c := (0, 0))) rfl rfl rfl) ?_
  refine xEqT (N := 1) (x := 0) (y := 0) (A := ev m_M_guess 36 [some (eR 0), some (eI x), some (eI y)] [] ([mW (eUp P 10 0), eA 0 964 g, eA 0 964 gp, eA 0 964 gt, eA 0 7712 gr, eA 0 1928 gs, eA 0 144 mk, eA 0 24 fr, eA 1 2 kp, eA 0 600 bM, eA 2 6 oM], (0, 0))) (B := ev m_M_guess 34 [some (eR 0), some (eI x), some (eI y)] [] ([mW (eUp P 10 0), eA 0 964 g, eA 0 964 gp, eA 0 964 gt, eA 0 7712 gr, eA 0 1928 gs, eA 0 144 mk, eA 0 24 fr, eA 1 2 kp, eA 0 600 bM, eA 2 6 oM], (0, 0))) rfl (show wr 0 = 0 by decide) (show wr 0 = 0 by decide) (by decide) ?_
  refine xCallWV (N := 2) (M2 := m_M_guess) (pc2 := 37) (ls2 := [some (eR 0), some (eI x), some (eI y)]) (st2 := []) (y := m_M_remember) (as := [some (eR 0)]) (w2 := ([mW (eUp P 10 0), eA 0 964 g, eA 0 964 gp, eA 0 964 gt, eA 0 7712 gr, eA 0 1928 gs, eA 0 144 mk, eA 0 24 fr, eA 1 2 kp, eA 0 600 bM, eA 2 6 oM], (0, 0))) rfl rem9 ?_
  refine xCallW (N := 6) (M2 := m_M_guess) (pc2 := 47) (ls2 := [some (eR 0), some (eI x), some (eI y)]) (st2 := []) (y := m_M_takesGuess) (as := [some (eR 0), some (eR 1), some (eI x), some (eI y)]) (w2 := ([mW P9, eA 0 964 g, eA 0 964 gp, eA 0 964 gt, eA 0 7712 gr9, eA 0 1928 gs, eA 0 144 mk, eA 0 24 fr, eA 1 2 kp, eA 0 600 bM, eA 2 6 oM], (0, 0))) rfl (w_row op9 rfl rfl rfl) ?_
  refine xSeg (N := 1) (r := some (.inl (some (eI b9)), ([mW P9, eA 0 964 g9, eA 0 964 gp, eA 0 964 gt, eA 0 7712 gr9, eA 0 1928 gs, eA 0 144 mk9, eA 0 24 fr9, eA 1 2 kp, eA 0 600 bM, eA 2 6 oM], (0, 0)))) rfl ?_
  rfl
theorem km_guessN {a : eRow} {X : xT} {x y : Int} {k w : Nat} (hx : x = (k : Int)) (h1 : k < a 3) (hy : y = (w : Int)) (h2 : w < a 2) (h0 : rfs (a 4) ((op a k).testBit w) (decide (pc 30 (op a k) = 1)) ≠ 0) : KM m_M_guess [some (eI x), some (eI y)] a X (a) (X) 2 (0) := by
  intro P g gp gt gr gs mk fr kp bM oM us t0 h
  have h8 := h
  obtain ⟨⟨hg, hI, hB⟩, r2, ⟨r3, r3n, r3b⟩, r4, ⟨r5, r5n, r5b⟩, ⟨p1, p2, p3, p4, p5⟩, r7⟩ := h
  have hI8 := hI
  obtain ⟨hG, ⟨v1, v2⟩, hO, hT, hM⟩ := hI8
  obtain ⟨⟨q1, q2, q3, q4, q5⟩, q6⟩ := hG
  have b5 := iT_24 q5 hT
  have e0 := hg 0 (by omega)
  have e1 := hg 1 (by omega)
  have e2 := hg 2 (by omega)
  have e3 := hg 3 (by omega)
  have e4 := hg 4 (by omega)
  have e5 := hg 5 (by omega)
  obtain ⟨z9, hz9, hwy⟩ := n_whyN hg hx hy (by omega) (hO k h1).1 (by omega) hM.1 h0
  refine ⟨eUp (eUp P 10 0) 10 2, g, gp, gt, gr, gs, mk, fr, kp, bM, oM, us, 0, MR_t (MR_t h8), fun _ => rfl, ?_⟩
  refine xCallW (N := 4) (M2 := m_M_guess) (pc2 := 3) (ls2 := [some (eR 0), some (eI x), some (eI y)]) (st2 := []) (y := m_M_noGuess) (as := [some (eR 0), some (eI x), some (eI y)]) (w2 := ([mW P, eA 0 964 g, eA 0 964 gp, eA 0 964 gt, eA 0 7712 gr, eA 0 1928 gs, eA 0 144 mk, eA 0 24 fr, eA 1 2 kp, eA 0 600 bM, eA 2 6 oM], (0, 0))) rfl (w_Z (z_noGuess (c := (0, 0)) hg hI hx h1 hy h2) rfl rfl rfl) ?_
  refine xEqT (N := 1) (x := 0) (y := 0) (A := ev m_M_guess 9 [some (eR 0), some (eI x), some (eI y)] [] ([mW (eUp P 10 0), eA 0 964 g, eA 0 964 gp, eA 0 964 gt, eA 0 7712 gr, eA 0 1928 gs, eA 0 144 mk, eA 0 24 fr, eA 1 2 kp, eA 0 600 bM, eA 2 6 oM], (0, 0))) (B := ev m_M_guess 34 [some (eR 0), some (eI x), some (eI y)] [] ([mW (eUp P 10 0), eA 0 964 g, eA 0 964 gp, eA 0 964 gt, eA 0 7712 gr, eA 0 1928 gs, eA 0 144 mk, eA 0 24 fr, eA 1 2 kp, eA 0 600 bM, eA 2 6 oM], (0, 0))) rfl (show wr 0 = 0 by decide) (show wr 0 = 0 by decide) (by decide) ?_
  refine xCall (N := 6) (M2 := m_M_guess) (pc2 := 16) (ls2 := [some (eR 0), some (eI x), some (eI y)]) (st2 := [eR 0]) (y := m_M_whyNotGuess) (as := [some (eR 1), some (eI x), some (eI y)]) (w2 := ([mW (eUp P 10 0), eA 0 964 g, eA 0 964 gp, eA 0 964 gt, eA 0 7712 gr, eA 0 1928 gs, eA 0 144 mk, eA 0 24 fr, eA 1 2 kp, eA 0 600 bM, eA 2 6 oM], (0, 0))) rfl (w_g hwy rfl rfl rfl) ?_
  refine xEqF (N := 1) (x := z9) (y := 0) (A := ev m_M_guess 26 [some (eR 0), some (eI x), some (eI y)] [eR 0] ([mW (eUp P 10 0), eA 0 964 g, eA 0 964 gp, eA 0 964 gt, eA 0 7712 gr, eA 0 1928 gs, eA 0 144 mk, eA 0 24 fr, eA 1 2 kp, eA 0 600 bM, eA 2 6 oM], (0, 0))) (B := ev m_M_guess 22 [some (eR 0), some (eI x), some (eI y)] [eR 0] ([mW (eUp P 10 0), eA 0 964 g, eA 0 964 gp, eA 0 964 gt, eA 0 7712 gr, eA 0 1928 gs, eA 0 144 mk, eA 0 24 fr, eA 1 2 kp, eA 0 600 bM, eA 2 6 oM], (0, 0))) rfl (wr_id (by omega) (by omega)) (show wr 0 = 0 by decide) (by omega) ?_
  refine xCallW (N := 4) (M2 := m_M_guess) (pc2 := 28) (ls2 := [some (eR 0), some (eI x), some (eI y)]) (st2 := []) (y := m_M_refuses) (as := [some (eR 0), some (eI 1), some (eI 2)]) (w2 := ([mW (eUp P 10 0), eA 0 964 g, eA 0 964 gp, eA 0 964 gt, eA 0 7712 gr, eA 0 1928 gs, eA 0 144 mk, eA 0 24 fr, eA 1 2 kp, eA 0 600 bM, eA 2 6 oM], (0, 0))) rfl (w_Z (z_refT (c := (0, 0)) (by omega)) rfl rfl rfl) ?_
  refine xEqF (N := 1) (x := 1) (y := 0) (A := ev m_M_guess 36 [some (eR 0), some (eI x), some (eI y)] [] ([mW (eUp (eUp P 10 0) 10 2), eA 0 964 g, eA 0 964 gp, eA 0 964 gt, eA 0 7712 gr, eA 0 1928 gs, eA 0 144 mk, eA 0 24 fr, eA 1 2 kp, eA 0 600 bM, eA 2 6 oM], (0, 0))) (B := ev m_M_guess 34 [some (eR 0), some (eI x), some (eI y)] [] ([mW (eUp (eUp P 10 0) 10 2), eA 0 964 g, eA 0 964 gp, eA 0 964 gt, eA 0 7712 gr, eA 0 1928 gs, eA 0 144 mk, eA 0 24 fr, eA 1 2 kp, eA 0 600 bM, eA 2 6 oM], (0, 0))) rfl (show wr 1 = 1 by decide) (show wr 0 = 0 by decide) (by decide) ?_
  refine xSeg (N := 2) (r := some (.inl (some (eI 0)), ([mW (eUp (eUp P 10 0) 10 2), eA 0 964 g, eA 0 964 gp, eA 0 964 gt, eA 0 7712 gr, eA 0 1928 gs, eA 0 144 mk, eA 0 24 fr, eA 1 2 kp, eA 0 600 bM, eA 2 6 oM], (0, 0)))) rfl ?_
  rfl
theorem km_guessX {a : eRow} {X : xT} {x y : Int} (bx : -2147483648 ≤ x ∧ x < 2147483648) (h : ¬ (0 ≤ x ∧ x < (a 3 : Int))) : KM m_M_guess [some (eI x), some (eI y)] a X (a) (X) 1 (0) := by
  intro P g gp gt gr gs mk fr kp bM oM us t0 h
  have h8 := h
  obtain ⟨⟨hg, hI, hB⟩, r2, ⟨r3, r3n, r3b⟩, r4, ⟨r5, r5n, r5b⟩, ⟨p1, p2, p3, p4, p5⟩, r7⟩ := h
  have hI8 := hI
  obtain ⟨hG, ⟨v1, v2⟩, hO, hT, hM⟩ := hI8
  obtain ⟨⟨q1, q2, q3, q4, q5⟩, q6⟩ := hG
  have b5 := iT_24 q5 hT
  have e0 := hg 0 (by omega)
  have e1 := hg 1 (by omega)
  have e2 := hg 2 (by omega)
  have e3 := hg 3 (by omega)
  have e4 := hg 4 (by omega)
  have e5 := hg 5 (by omega)
  refine ⟨eUp P 10 1, g, gp, gt, gr, gs, mk, fr, kp, bM, oM, us, 0, MR_t h8, fun _ => rfl, ?_⟩
  refine xCallW (N := 4) (M2 := m_M_guess) (pc2 := 3) (ls2 := [some (eR 0), some (eI x), some (eI y)]) (st2 := []) (y := m_M_noGuess) (as := [some (eR 0), some (eI x), some (eI y)]) (w2 := ([mW P, eA 0 964 g, eA 0 964 gp, eA 0 964 gt, eA 0 7712 gr, eA 0 1928 gs, eA 0 144 mk, eA 0 24 fr, eA 1 2 kp, eA 0 600 bM, eA 2 6 oM], (0, 0))) rfl (w_Z (z_noGuessX (c := (0, 0)) hg hI bx h) rfl rfl rfl) ?_
  refine xEqF (N := 1) (x := 1) (y := 0) (A := ev m_M_guess 9 [some (eR 0), some (eI x), some (eI y)] [] ([mW (eUp P 10 1), eA 0 964 g, eA 0 964 gp, eA 0 964 gt, eA 0 7712 gr, eA 0 1928 gs, eA 0 144 mk, eA 0 24 fr, eA 1 2 kp, eA 0 600 bM, eA 2 6 oM], (0, 0))) (B := ev m_M_guess 34 [some (eR 0), some (eI x), some (eI y)] [] ([mW (eUp P 10 1), eA 0 964 g, eA 0 964 gp, eA 0 964 gt, eA 0 7712 gr, eA 0 1928 gs, eA 0 144 mk, eA 0 24 fr, eA 1 2 kp, eA 0 600 bM, eA 2 6 oM], (0, 0))) rfl (show wr 1 = 1 by decide) (show wr 0 = 0 by decide) (by decide) ?_
  refine xSeg (N := 2) (r := some (.inl (some (eI 0)), ([mW (eUp P 10 1), eA 0 964 g, eA 0 964 gp, eA 0 964 gt, eA 0 7712 gr, eA 0 1928 gs, eA 0 144 mk, eA 0 24 fr, eA 1 2 kp, eA 0 600 bM, eA 2 6 oM], (0, 0)))) rfl ?_
  rfl
theorem km_guessY {a : eRow} {X : xT} {x y : Int} {k : Nat} (hx : x = (k : Int)) (h1 : k < a 3) (by_ : -2147483648 ≤ y ∧ y < 2147483648) (h : ¬ (0 ≤ y ∧ y < (a 2 : Int))) : KM m_M_guess [some (eI x), some (eI y)] a X (a) (X) 1 (0) := by
  intro P g gp gt gr gs mk fr kp bM oM us t0 h
  have h8 := h
  obtain ⟨⟨hg, hI, hB⟩, r2, ⟨r3, r3n, r3b⟩, r4, ⟨r5, r5n, r5b⟩, ⟨p1, p2, p3, p4, p5⟩, r7⟩ := h
  have hI8 := hI
  obtain ⟨hG, ⟨v1, v2⟩, hO, hT, hM⟩ := hI8
  obtain ⟨⟨q1, q2, q3, q4, q5⟩, q6⟩ := hG
  have b5 := iT_24 q5 hT
  have e0 := hg 0 (by omega)
  have e1 := hg 1 (by omega)
  have e2 := hg 2 (by omega)
  have e3 := hg 3 (by omega)
  have e4 := hg 4 (by omega)
  have e5 := hg 5 (by omega)
  refine ⟨eUp P 10 1, g, gp, gt, gr, gs, mk, fr, kp, bM, oM, us, 0, MR_t h8, fun _ => rfl, ?_⟩
  refine xCallW (N := 4) (M2 := m_M_guess) (pc2 := 3) (ls2 := [some (eR 0), some (eI x), some (eI y)]) (st2 := []) (y := m_M_noGuess) (as := [some (eR 0), some (eI x), some (eI y)]) (w2 := ([mW P, eA 0 964 g, eA 0 964 gp, eA 0 964 gt, eA 0 7712 gr, eA 0 1928 gs, eA 0 144 mk, eA 0 24 fr, eA 1 2 kp, eA 0 600 bM, eA 2 6 oM], (0, 0))) rfl (w_Z (z_noGuessY (c := (0, 0)) hg hI hx h1 by_ h) rfl rfl rfl) ?_
  refine xEqF (N := 1) (x := 1) (y := 0) (A := ev m_M_guess 9 [some (eR 0), some (eI x), some (eI y)] [] ([mW (eUp P 10 1), eA 0 964 g, eA 0 964 gp, eA 0 964 gt, eA 0 7712 gr, eA 0 1928 gs, eA 0 144 mk, eA 0 24 fr, eA 1 2 kp, eA 0 600 bM, eA 2 6 oM], (0, 0))) (B := ev m_M_guess 34 [some (eR 0), some (eI x), some (eI y)] [] ([mW (eUp P 10 1), eA 0 964 g, eA 0 964 gp, eA 0 964 gt, eA 0 7712 gr, eA 0 1928 gs, eA 0 144 mk, eA 0 24 fr, eA 1 2 kp, eA 0 600 bM, eA 2 6 oM], (0, 0))) rfl (show wr 1 = 1 by decide) (show wr 0 = 0 by decide) (by decide) ?_
  refine xSeg (N := 2) (r := some (.inl (some (eI 0)), ([mW (eUp P 10 1), eA 0 964 g, eA 0 964 gp, eA 0 964 gt, eA 0 7712 gr, eA 0 1928 gs, eA 0 144 mk, eA 0 24 fr, eA 1 2 kp, eA 0 600 bM, eA 2 6 oM], (0, 0)))) rfl ?_
  rfl
theorem km_setLetter {a : eRow} {X : xT} {x y z : Int} {xn yn : Nat} (hx : x = (xn : Int)) (hy : y = (yn : Int)) (h1 : xn < a 0) (h2 : yn < a 1) {v : Nat} (hz : z = (v : Int)) (hz0 : z = 0) (hb : a (16 + (6 * yn + xn)) = 0) : KM m_M_setLetter [some (eI x), some (eI y), some (eI z)] a X (lvA a (6 * yn + xn) v) (pushX X a) 0 (((a (52 + (6 * yn + xn)) : Nat) : Int)) := by
  intro P g gp gt gr gs mk fr kp bM oM us t0 h
  have h8 := h
  obtain ⟨⟨hg, hI, hB⟩, r2, ⟨r3, r3n, r3b⟩, r4, ⟨r5, r5n, r5b⟩, ⟨p1, p2, p3, p4, p5⟩, r7⟩ := h
  have hI8 := hI
  obtain ⟨hG, ⟨v1, v2⟩, hO, hT, hM⟩ := hI8
  obtain ⟨⟨q1, q2, q3, q4, q5⟩, q6⟩ := hG
  have b5 := iT_24 q5 hT
  have e0 := hg 0 (by omega)
  have e1 := hg 1 (by omega)
  have e2 := hg 2 (by omega)
  have e3 := hg 3 (by omega)
  have e4 := hg 4 (by omega)
  have e5 := hg 5 (by omega)
  obtain ⟨ze, hze⟩ : ∃ ze : Int, ze = 6 * y + x := ⟨_, rfl⟩
  have q7 := q6.1 (6 * yn + xn) (by omega)
  have e16 := hg (16 + (6 * yn + xn)) (by omega)
  obtain ⟨P9, gr9, us9, R9, kU9, rem9⟩ := m_remember (gp := gp) (gt := gt) (mk := mk) (fr := fr) (c := (0, 0)) (MR_t (t' := 0) h8)
  obtain ⟨g9, mk9, fr9, hg9, op9⟩ := n_gives (P := P9) (mk := mk) (fr := fr) (c := (0, 0)) (x := ze) (y := z) (e := 6 * yn + xn) (v := v) hg hI (by omega) hz (by omega) (by omega)
  generalize hb9 : ((a (52 + (6 * yn + xn)) : Nat) : Int) = b9 at op9
  refine ⟨P9, g9, gp, gt, gr9, gs, mk9, fr9, kp, bM, oM, us9, b9, MR_g R9 hg9 ⟨iA_lv hI (by omega) (by omega), iB_lv (by omega) hB⟩, fun _ => rfl, ?_⟩
  refine xCallW (N := 4) (M2 := m_M_setLetter) (pc2 := 3) (ls2 := [some (eR 0), some (eI x), some (eI y), some (eI z)]) (st2 := []) (y := m_M_noCell) (as := [some (eR 0), some (eI x), some (eI y)]) (w2 := ([mW P, eA 0 964 g, eA 0 964 gp, eA 0 964 gt, eA 0 7712 gr, eA 0 1928 gs, eA 0 144 mk, eA 0 24 fr, eA 1 2 kp, eA 0 600 bM, eA 2 6 oM], (0, 0))) rfl (w_Z (z_noCell (c := (0, 0)) hg hI hx hy h1 h2) rfl rfl rfl) ?_
  refine xEqT (N := 1) (x := 0) (y := 0) (A := ev m_M_setLetter 9 [some (eR 0), some (eI x), some (eI y), some (eI z)] [] ([mW (eUp P 10 0), eA 0 964 g, eA 0 964 gp, eA 0 964 gt, eA 0 7712 gr, eA 0 1928 gs, eA 0 144 mk, eA 0 24 fr, eA 1 2 kp, eA 0 600 bM, eA 2 6 oM], (0, 0))) (B := ev m_M_setLetter 71 [some (eR 0), some (eI x), some (eI y), some (eI z)] [] ([mW (eUp P 10 0), eA 0 964 g, eA 0 964 gp, eA 0 964 gt, eA 0 7712 gr, eA 0 1928 gs, eA 0 144 mk, eA 0 24 fr, eA 1 2 kp, eA 0 600 bM, eA 2 6 oM], (0, 0))) rfl (show wr 0 = 0 by decide) (show wr 0 = 0 by decide) (by decide) ?_
  refine xEqT (N := 3) (x := z) (y := 0) (A := ev m_M_setLetter 29 [some (eR 0), some (eI x), some (eI y), some (eI z)] [eR 0] ([mW (eUp P 10 0), eA 0 964 g, eA 0 964 gp, eA 0 964 gt, eA 0 7712 gr, eA 0 1928 gs, eA 0 144 mk, eA 0 24 fr, eA 1 2 kp, eA 0 600 bM, eA 2 6 oM], (0, 0))) (B := ev m_M_setLetter 14 [some (eR 0), some (eI x), some (eI y), some (eI z)] [eR 0] ([mW (eUp P 10 0), eA 0 964 g, eA 0 964 gp, eA 0 964 gt, eA 0 7712 gr, eA 0 1928 gs, eA 0 144 mk, eA 0 24 fr, eA 1 2 kp, eA 0 600 bM, eA 2 6 oM], (0, 0))) rfl (wr_id (by omega) (by omega)) (show wr 0 = 0 by decide) hz0 ?_
  refine xCallW (N := 3) (M2 := m_M_setLetter) (pc2 := 31) (ls2 := [some (eR 0), some (eI x), some (eI y), some (eI z)]) (st2 := []) (y := m_M_refuses) (as := [some (eR 0), some (eI 0), some (eI 1)]) (w2 := ([mW (eUp P 10 0), eA 0 964 g, eA 0 964 gp, eA 0 964 gt, eA 0 7712 gr, eA 0 1928 gs, eA 0 144 mk, eA 0 24 fr, eA 1 2 kp, eA 0 600 bM, eA 2 6 oM], (0, 0))) rfl (w_Z (z_refF (c := (0, 0))) rfl rfl rfl) ?_
  refine xEqT (N := 1) (x := 0) (y := 0) (A := ev m_M_setLetter 37 [some (eR 0), some (eI x), some (eI y), some (eI z)] [] ([mW (eUp P 10 0), eA 0 964 g, eA 0 964 gp, eA 0 964 gt, eA 0 7712 gr, eA 0 1928 gs, eA 0 144 mk, eA 0 24 fr, eA 1 2 kp, eA 0 600 bM, eA 2 6 oM], (0, 0))) (B := ev m_M_setLetter 71 [some (eR 0), some (eI x), some (eI y), some (eI z)] [] ([mW (eUp P 10 0), eA 0 964 g, eA 0 964 gp, eA 0 964 gt, eA 0 7712 gr, eA 0 1928 gs, eA 0 144 mk, eA 0 24 fr, eA 1 2 kp, eA 0 600 bM, eA 2 6 oM], (0, 0))) rfl (show wr 0 = 0 by decide) (show wr 0 = 0 by decide) (by decide) ?_
  refine xCall (N := 9) (M2 := m_M_setLetter) (pc2 := 50) (ls2 := [some (eR 0), some (eI x), some (eI y), some (eI z)]) (st2 := [eI 16, eR 1, eR 0]) (y := m_M_cellOf) (as := [some (eR 1), some (eI x), some (eI y)]) (w2 := ([mW (eUp P 10 0), eA 0 964 g, eA 0 964 gp, eA 0 964 gt, eA 0 7712 gr, eA 0 1928 gs, eA 0 144 mk, eA 0 24 fr, eA 1 2 kp, eA 0 600 bM, eA 2 6 oM], (0, 0))) rfl (n_co hze) ?_
  refine xLd (N := 2) (n := 964) (i := 16 + ze) (F := fun zq => ev m_M_setLetter 55 [some (eR 0), some (eI x), some (eI y), some (eI z)] [eI (g zq), eR 0] ([mW (eUp P 10 0), eA 0 964 g, eA 0 964 gp, eA 0 964 gt, eA 0 7712 gr, eA 0 1928 gs, eA 0 144 mk, eA 0 24 fr, eA 1 2 kp, eA 0 600 bM, eA 2 6 oM], (0, 0))) (k := 16 + (6 * yn + xn)) rfl (wr_nat (by omega) (by omega)) (by omega) ?_
  refine xEqF (N := 2) (x := g (16 + (6 * yn + xn))) (y := 1) (A := ev m_M_setLetter 59 [some (eR 0), some (eI x), some (eI y), some (eI z)] [eR 0] ([mW (eUp P 10 0), eA 0 964 g, eA 0 964 gp, eA 0 964 gt, eA 0 7712 gr, eA 0 1928 gs, eA 0 144 mk, eA 0 24 fr, eA 1 2 kp, eA 0 600 bM, eA 2 6 oM], (0, 0))) (B := ev m_M_setLetter 63 [some (eR 0), some (eI x), some (eI y), some (eI z)] [eR 0] ([mW (eUp P 10 0), eA 0 964 g, eA 0 964 gp, eA 0 964 gt, eA 0 7712 gr, eA 0 1928 gs, eA 0 144 mk, eA 0 24 fr, eA 1 2 kp, eA 0 600 bM, eA 2 6 oM], (0, 0))) rfl (wr_id (by omega) (by omega)) (show wr 1 = 1 by decide) (by omega) ?_
  refine xCallW (N := 3) (M2 := m_M_setLetter) (pc2 := 65) (ls2 := [some (eR 0), some (eI x), some (eI y), some (eI z)]) (st2 := []) (y := m_M_refuses) (as := [some (eR 0), some (eI 0), some (eI 2)]) (w2 := ([mW (eUp P 10 0), eA 0 964 g, eA 0 964 gp, eA 0 964 gt, eA 0 7712 gr, eA 0 1928 gs, eA 0 144 mk, eA 0 24 fr, eA 1 2 kp, eA 0 600 bM, eA 2 6 oM], (0, 0))) rfl (w_Z (z_refF (c := (0, 0))) rfl rfl rfl) ?_
  refine xEqT (N := 1) (x := 0) (y := 0) (A := ev m_M_setLetter 73 [some (eR 0), some (eI x), some (eI y), some (eI z)] [] ([mW (eUp P 10 0), eA 0 964 g, eA 0 964 gp, eA 0 964 gt, eA 0 7712 gr, eA 0 1928 gs, eA 0 144 mk, eA 0 24 fr, eA 1 2 kp, eA 0 600 bM, eA 2 6 oM], (0, 0))) (B := ev m_M_setLetter 71 [some (eR 0), some (eI x), some (eI y), some (eI z)] [] ([mW (eUp P 10 0), eA 0 964 g, eA 0 964 gp, eA 0 964 gt, eA 0 7712 gr, eA 0 1928 gs, eA 0 144 mk, eA 0 24 fr, eA 1 2 kp, eA 0 600 bM, eA 2 6 oM], (0, 0))) rfl (show wr 0 = 0 by decide) (show wr 0 = 0 by decide) (by decide) ?_
  refine xCallWV (N := 2) (M2 := m_M_setLetter) (pc2 := 74) (ls2 := [some (eR 0), some (eI x), some (eI y), some (eI z)]) (st2 := []) (y := m_M_remember) (as := [some (eR 0)]) (w2 := ([mW (eUp P 10 0), eA 0 964 g, eA 0 964 gp, eA 0 964 gt, eA 0 7712 gr, eA 0 1928 gs, eA 0 144 mk, eA 0 24 fr, eA 1 2 kp, eA 0 600 bM, eA 2 6 oM], (0, 0))) rfl rem9 ?_
  refine xCall (N := 8) (M2 := m_M_setLetter) (pc2 := 88) (ls2 := [some (eR 0), some (eI x), some (eI y), some (eI z)]) (st2 := [eR 1, eR 0]) (y := m_M_cellOf) (as := [some (eR 1), some (eI x), some (eI y)]) (w2 := ([mW P9, eA 0 964 g, eA 0 964 gp, eA 0 964 gt, eA 0 7712 gr9, eA 0 1928 gs, eA 0 144 mk, eA 0 24 fr, eA 1 2 kp, eA 0 600 bM, eA 2 6 oM], (0, 0))) rfl (n_co hze) ?_
  refine xCallW (N := 2) (M2 := m_M_setLetter) (pc2 := 92) (ls2 := [some (eR 0), some (eI x), some (eI y), some (eI z)]) (st2 := []) (y := m_M_gives) (as := [some (eR 0), some (eR 1), some (eI ze), some (eI z)]) (w2 := ([mW P9, eA 0 964 g, eA 0 964 gp, eA 0 964 gt, eA 0 7712 gr9, eA 0 1928 gs, eA 0 144 mk, eA 0 24 fr, eA 1 2 kp, eA 0 600 bM, eA 2 6 oM], (0, 0))) rfl (w_row op9 rfl rfl rfl) ?_
  refine xSeg (N := 1) (r := some (.inl (some (eI b9)), ([mW P9, eA 0 964 g9, eA 0 964 gp, eA 0 964 gt, eA 0 7712 gr9, eA 0 1928 gs, eA 0 144 mk9, eA 0 24 fr9, eA 1 2 kp, eA 0 600 bM, eA 2 6 oM], (0, 0)))) rfl ?_
  rfl
theorem km_setLetterB {a : eRow} {X : xT} {x y z : Int} {xn yn : Nat} (hx : x = (xn : Int)) (hy : y = (yn : Int)) (h1 : xn < a 0) (h2 : yn < a 1) {v : Nat} (hz : z = (v : Int)) (hz0 : z = 0) (hb : a (16 + (6 * yn + xn)) ≠ 0) : KM m_M_setLetter [some (eI x), some (eI y), some (eI z)] a X (a) (X) 2 (0) := by
  intro P g gp gt gr gs mk fr kp bM oM us t0 h
  have h8 := h
  obtain ⟨⟨hg, hI, hB⟩, r2, ⟨r3, r3n, r3b⟩, r4, ⟨r5, r5n, r5b⟩, ⟨p1, p2, p3, p4, p5⟩, r7⟩ := h
  have hI8 := hI
  obtain ⟨hG, ⟨v1, v2⟩, hO, hT, hM⟩ := hI8
  obtain ⟨⟨q1, q2, q3, q4, q5⟩, q6⟩ := hG
  have b5 := iT_24 q5 hT
  have e0 := hg 0 (by omega)
  have e1 := hg 1 (by omega)
  have e2 := hg 2 (by omega)
  have e3 := hg 3 (by omega)
  have e4 := hg 4 (by omega)
  have e5 := hg 5 (by omega)
  obtain ⟨ze, hze⟩ : ∃ ze : Int, ze = 6 * y + x := ⟨_, rfl⟩
  have q7 := q6.1 (6 * yn + xn) (by omega)
  have e16 := hg (16 + (6 * yn + xn)) (by omega)
  refine ⟨eUp (eUp P 10 0) 10 2, g, gp, gt, gr, gs, mk, fr, kp, bM, oM, us, 0, MR_t (MR_t h8), fun _ => rfl, ?_⟩
  refine xCallW (N := 4) (M2 := m_M_setLetter) (pc2 := 3) (ls2 := [some (eR 0), some (eI x), some (eI y), some (eI z)]) (st2 := []) (y := m_M_noCell) (as := [some (eR 0), some (eI x), some (eI y)]) (w2 := ([mW P, eA 0 964 g, eA 0 964 gp, eA 0 964 gt, eA 0 7712 gr, eA 0 1928 gs, eA 0 144 mk, eA 0 24 fr, eA 1 2 kp, eA 0 600 bM, eA 2 6 oM], (0, 0))) rfl (w_Z (z_noCell (c := (0, 0)) hg hI hx hy h1 h2) rfl rfl rfl) ?_
  refine xEqT (N := 1) (x := 0) (y := 0) (A := ev m_M_setLetter 9 [some (eR 0), some (eI x), some (eI y), some (eI z)] [] ([mW (eUp P 10 0), eA 0 964 g, eA 0 964 gp, eA 0 964 gt, eA 0 7712 gr, eA 0 1928 gs, eA 0 144 mk, eA 0 24 fr, eA 1 2 kp, eA 0 600 bM, eA 2 6 oM], (0, 0))) (B := ev m_M_setLetter 71 [some (eR 0), some (eI x), some (eI y), some (eI z)] [] ([mW (eUp P 10 0), eA 0 964 g, eA 0 964 gp, eA 0 964 gt, eA 0 7712 gr, eA 0 1928 gs, eA 0 144 mk, eA 0 24 fr, eA 1 2 kp, eA 0 600 bM, eA 2 6 oM], (0, 0))) rfl (show wr 0 = 0 by decide) (show wr 0 = 0 by decide) (by decide) ?_
  refine xEqT (N := 3) (x := z) (y := 0) (A := ev m_M_setLetter 29 [some (eR 0), some (eI x), some (eI y), some (eI z)] [eR 0] ([mW (eUp P 10 0), eA 0 964 g, eA 0 964 gp, eA 0 964 gt, eA 0 7712 gr, eA 0 1928 gs, eA 0 144 mk, eA 0 24 fr, eA 1 2 kp, eA 0 600 bM, eA 2 6 oM], (0, 0))) (B := ev m_M_setLetter 14 [some (eR 0), some (eI x), some (eI y), some (eI z)] [eR 0] ([mW (eUp P 10 0), eA 0 964 g, eA 0 964 gp, eA 0 964 gt, eA 0 7712 gr, eA 0 1928 gs, eA 0 144 mk, eA 0 24 fr, eA 1 2 kp, eA 0 600 bM, eA 2 6 oM], (0, 0))) rfl (wr_id (by omega) (by omega)) (show wr 0 = 0 by decide) hz0 ?_
  refine xCallW (N := 3) (M2 := m_M_setLetter) (pc2 := 31) (ls2 := [some (eR 0), some (eI x), some (eI y), some (eI z)]) (st2 := []) (y := m_M_refuses) (as := [some (eR 0), some (eI 0), some (eI 1)]) (w2 := ([mW (eUp P 10 0), eA 0 964 g, eA 0 964 gp, eA 0 964 gt, eA 0 7712 gr, eA 0 1928 gs, eA 0 144 mk, eA 0 24 fr, eA 1 2 kp, eA 0 600 bM, eA 2 6 oM], (0, 0))) rfl (w_Z (z_refF (c := (0, 0))) rfl rfl rfl) ?_
  refine xEqT (N := 1) (x := 0) (y := 0) (A := ev m_M_setLetter 37 [some (eR 0), some (eI x), some (eI y), some (eI z)] [] ([mW (eUp P 10 0), eA 0 964 g, eA 0 964 gp, eA 0 964 gt, eA 0 7712 gr, eA 0 1928 gs, eA 0 144 mk, eA 0 24 fr, eA 1 2 kp, eA 0 600 bM, eA 2 6 oM], (0, 0))) (B := ev m_M_setLetter 71 [some (eR 0), some (eI x), some (eI y), some (eI z)] [] ([mW (eUp P 10 0), eA 0 964 g, eA 0 964 gp, eA 0 964 gt, eA 0 7712 gr, eA 0 1928 gs, eA 0 144 mk, eA 0 24 fr, eA 1 2 kp, eA 0 600 bM, eA 2 6 oM], (0, 0))) rfl (show wr 0 = 0 by decide) (show wr 0 = 0 by decide) (by decide) ?_
  refine xCall (N := 9) (M2 := m_M_setLetter) (pc2 := 50) (ls2 := [some (eR 0), some (eI x), some (eI y), some (eI z)]) (st2 := [eI 16, eR 1, eR 0]) (y := m_M_cellOf) (as := [some (eR 1), some (eI x), some (eI y)]) (w2 := ([mW (eUp P 10 0), eA 0 964 g, eA 0 964 gp, eA 0 964 gt, eA 0 7712 gr, eA 0 1928 gs, eA 0 144 mk, eA 0 24 fr, eA 1 2 kp, eA 0 600 bM, eA 2 6 oM], (0, 0))) rfl (n_co hze) ?_
  refine xLd (N := 2) (n := 964) (i := 16 + ze) (F := fun zq => ev m_M_setLetter 55 [some (eR 0), some (eI x), some (eI y), some (eI z)] [eI (g zq), eR 0] ([mW (eUp P 10 0), eA 0 964 g, eA 0 964 gp, eA 0 964 gt, eA 0 7712 gr, eA 0 1928 gs, eA 0 144 mk, eA 0 24 fr, eA 1 2 kp, eA 0 600 bM, eA 2 6 oM], (0, 0))) (k := 16 + (6 * yn + xn)) rfl (wr_nat (by omega) (by omega)) (by omega) ?_
  refine xEqT (N := 2) (x := g (16 + (6 * yn + xn))) (y := 1) (A := ev m_M_setLetter 59 [some (eR 0), some (eI x), some (eI y), some (eI z)] [eR 0] ([mW (eUp P 10 0), eA 0 964 g, eA 0 964 gp, eA 0 964 gt, eA 0 7712 gr, eA 0 1928 gs, eA 0 144 mk, eA 0 24 fr, eA 1 2 kp, eA 0 600 bM, eA 2 6 oM], (0, 0))) (B := ev m_M_setLetter 63 [some (eR 0), some (eI x), some (eI y), some (eI z)] [eR 0] ([mW (eUp P 10 0), eA 0 964 g, eA 0 964 gp, eA 0 964 gt, eA 0 7712 gr, eA 0 1928 gs, eA 0 144 mk, eA 0 24 fr, eA 1 2 kp, eA 0 600 bM, eA 2 6 oM], (0, 0))) rfl (wr_id (by omega) (by omega)) (show wr 1 = 1 by decide) (by omega) ?_
  refine xCallW (N := 4) (M2 := m_M_setLetter) (pc2 := 65) (ls2 := [some (eR 0), some (eI x), some (eI y), some (eI z)]) (st2 := []) (y := m_M_refuses) (as := [some (eR 0), some (eI 1), some (eI 2)]) (w2 := ([mW (eUp P 10 0), eA 0 964 g, eA 0 964 gp, eA 0 964 gt, eA 0 7712 gr, eA 0 1928 gs, eA 0 144 mk, eA 0 24 fr, eA 1 2 kp, eA 0 600 bM, eA 2 6 oM], (0, 0))) rfl (w_Z (z_refT (c := (0, 0)) (by omega)) rfl rfl rfl) ?_
  refine xEqF (N := 1) (x := 1) (y := 0) (A := ev m_M_setLetter 73 [some (eR 0), some (eI x), some (eI y), some (eI z)] [] ([mW (eUp (eUp P 10 0) 10 2), eA 0 964 g, eA 0 964 gp, eA 0 964 gt, eA 0 7712 gr, eA 0 1928 gs, eA 0 144 mk, eA 0 24 fr, eA 1 2 kp, eA 0 600 bM, eA 2 6 oM], (0, 0))) (B := ev m_M_setLetter 71 [some (eR 0), some (eI x), some (eI y), some (eI z)] [] ([mW (eUp (eUp P 10 0) 10 2), eA 0 964 g, eA 0 964 gp, eA 0 964 gt, eA 0 7712 gr, eA 0 1928 gs, eA 0 144 mk, eA 0 24 fr, eA 1 2 kp, eA 0 600 bM, eA 2 6 oM], (0, 0))) rfl (show wr 1 = 1 by decide) (show wr 0 = 0 by decide) (by decide) ?_
  refine xSeg (N := 2) (r := some (.inl (some (eI 0)), ([mW (eUp (eUp P 10 0) 10 2), eA 0 964 g, eA 0 964 gp, eA 0 964 gt, eA 0 7712 gr, eA 0 1928 gs, eA 0 144 mk, eA 0 24 fr, eA 1 2 kp, eA 0 600 bM, eA 2 6 oM], (0, 0)))) rfl ?_
  rfl
theorem km_setLetterL {a : eRow} {X : xT} {x y z : Int} {xn yn : Nat} (hx : x = (xn : Int)) (hy : y = (yn : Int)) (h1 : xn < a 0) (h2 : yn < a 1) {v : Nat} (hz : z = (v : Int)) (hz0 : 97 ≤ z ∧ z ≤ 122) (hb : a (16 + (6 * yn + xn)) = 0) : KM m_M_setLetter [some (eI x), some (eI y), some (eI z)] a X (lvA a (6 * yn + xn) v) (pushX X a) 0 (((a (52 + (6 * yn + xn)) : Nat) : Int)) := by
  intro P g gp gt gr gs mk fr kp bM oM us t0 h
  have h8 := h
  obtain ⟨⟨hg, hI, hB⟩, r2, ⟨r3, r3n, r3b⟩, r4, ⟨r5, r5n, r5b⟩, ⟨p1, p2, p3, p4, p5⟩, r7⟩ := h
  have hI8 := hI
  obtain ⟨hG, ⟨v1, v2⟩, hO, hT, hM⟩ := hI8
  obtain ⟨⟨q1, q2, q3, q4, q5⟩, q6⟩ := hG
  have b5 := iT_24 q5 hT
  have e0 := hg 0 (by omega)
  have e1 := hg 1 (by omega)
  have e2 := hg 2 (by omega)
  have e3 := hg 3 (by omega)
  have e4 := hg 4 (by omega)
  have e5 := hg 5 (by omega)
  obtain ⟨ze, hze⟩ : ∃ ze : Int, ze = 6 * y + x := ⟨_, rfl⟩
  have q7 := q6.1 (6 * yn + xn) (by omega)
  have e16 := hg (16 + (6 * yn + xn)) (by omega)
  have hbt : ev m_M_isBetween 0 [some (eI z), some (eI 97), some (eI 122)] [] ([mW (eUp P 10 0), eA 0 964 g, eA 0 964 gp, eA 0 964 gt, eA 0 7712 gr, eA 0 1928 gs, eA 0 144 mk, eA 0 24 fr, eA 1 2 kp, eA 0 600 bM, eA 2 6 oM], (0, 0)) = _ := n_between (by omega) (by omega) (by omega)
  rw [decide_eq_true (by omega)] at hbt
  change _ = some (Sum.inl (some (eI 1)), _) at hbt
  obtain ⟨P9, gr9, us9, R9, kU9, rem9⟩ := m_remember (gp := gp) (gt := gt) (mk := mk) (fr := fr) (c := (0, 0)) (MR_t (t' := 0) h8)
  obtain ⟨g9, mk9, fr9, hg9, op9⟩ := n_gives (P := P9) (mk := mk) (fr := fr) (c := (0, 0)) (x := ze) (y := z) (e := 6 * yn + xn) (v := v) hg hI (by omega) hz (by omega) (by omega)
  generalize hb9 : ((a (52 + (6 * yn + xn)) : Nat) : Int) = b9 at op9
  refine ⟨P9, g9, gp, gt, gr9, gs, mk9, fr9, kp, bM, oM, us9, b9, MR_g R9 hg9 ⟨iA_lv hI (by omega) (by omega), iB_lv (by omega) hB⟩, fun _ => rfl, ?_⟩
  refine xCallW (N := 4) (M2 := m_M_setLetter) (pc2 := 3) (ls2 := [some (eR 0), some (eI x), some (eI y), some (eI z)]) (st2 := []) (y := m_M_noCell) (as := [some (eR 0), some (eI x), some (eI y)]) (w2 := ([mW P, eA 0 964 g, eA 0 964 gp, eA 0 964 gt, eA 0 7712 gr, eA 0 1928 gs, eA 0 144 mk, eA 0 24 fr, eA 1 2 kp, eA 0 600 bM, eA 2 6 oM], (0, 0))) rfl (w_Z (z_noCell (c := (0, 0)) hg hI hx hy h1 h2) rfl rfl rfl) ?_
  refine xEqT (N := 1) (x := 0) (y := 0) (A := ev m_M_setLetter 9 [some (eR 0), some (eI x), some (eI y), some (eI z)] [] ([mW (eUp P 10 0), eA 0 964 g, eA 0 964 gp, eA 0 964 gt, eA 0 7712 gr, eA 0 1928 gs, eA 0 144 mk, eA 0 24 fr, eA 1 2 kp, eA 0 600 bM, eA 2 6 oM], (0, 0))) (B := ev m_M_setLetter 71 [some (eR 0), some (eI x), some (eI y), some (eI z)] [] ([mW (eUp P 10 0), eA 0 964 g, eA 0 964 gp, eA 0 964 gt, eA 0 7712 gr, eA 0 1928 gs, eA 0 144 mk, eA 0 24 fr, eA 1 2 kp, eA 0 600 bM, eA 2 6 oM], (0, 0))) rfl (show wr 0 = 0 by decide) (show wr 0 = 0 by decide) (by decide) ?_
  refine xEqF (N := 3) (x := z) (y := 0) (A := ev m_M_setLetter 29 [some (eR 0), some (eI x), some (eI y), some (eI z)] [eR 0] ([mW (eUp P 10 0), eA 0 964 g, eA 0 964 gp, eA 0 964 gt, eA 0 7712 gr, eA 0 1928 gs, eA 0 144 mk, eA 0 24 fr, eA 1 2 kp, eA 0 600 bM, eA 2 6 oM], (0, 0))) (B := ev m_M_setLetter 14 [some (eR 0), some (eI x), some (eI y), some (eI z)] [eR 0] ([mW (eUp P 10 0), eA 0 964 g, eA 0 964 gp, eA 0 964 gt, eA 0 7712 gr, eA 0 1928 gs, eA 0 144 mk, eA 0 24 fr, eA 1 2 kp, eA 0 600 bM, eA 2 6 oM], (0, 0))) rfl (wr_id (by omega) (by omega)) (show wr 0 = 0 by decide) (by omega) ?_
  refine xCall (N := 4) (M2 := m_M_setLetter) (pc2 := 19) (ls2 := [some (eR 0), some (eI x), some (eI y), some (eI z)]) (st2 := [eR 0]) (y := m_M_isBetween) (as := [some (eI z), some (eI 97), some (eI 122)]) (w2 := ([mW (eUp P 10 0), eA 0 964 g, eA 0 964 gp, eA 0 964 gt, eA 0 7712 gr, eA 0 1928 gs, eA 0 144 mk, eA 0 24 fr, eA 1 2 kp, eA 0 600 bM, eA 2 6 oM], (0, 0))) rfl hbt ?_
  refine xEqF (N := 1) (x := 1) (y := 0) (A := ev m_M_setLetter 25 [some (eR 0), some (eI x), some (eI y), some (eI z)] [eR 0] ([mW (eUp P 10 0), eA 0 964 g, eA 0 964 gp, eA 0 964 gt, eA 0 7712 gr, eA 0 1928 gs, eA 0 144 mk, eA 0 24 fr, eA 1 2 kp, eA 0 600 bM, eA 2 6 oM], (0, 0))) (B := ev m_M_setLetter 29 [some (eR 0), some (eI x), some (eI y), some (eI z)] [eR 0] ([mW (eUp P 10 0), eA 0 964 g, eA 0 964 gp, eA 0 964 gt, eA 0 7712 gr, eA 0 1928 gs, eA 0 144 mk, eA 0 24 fr, eA 1 2 kp, eA 0 600 bM, eA 2 6 oM], (0, 0))) rfl (show wr 1 = 1 by decide) (show wr 0 = 0 by decide) (by decide) ?_
  refine xCallW (N := 3) (M2 := m_M_setLetter) (pc2 := 31) (ls2 := [some (eR 0), some (eI x), some (eI y), some (eI z)]) (st2 := []) (y := m_M_refuses) (as := [some (eR 0), some (eI 0), some (eI 1)]) (w2 := ([mW (eUp P 10 0), eA 0 964 g, eA 0 964 gp, eA 0 964 gt, eA 0 7712 gr, eA 0 1928 gs, eA 0 144 mk, eA 0 24 fr, eA 1 2 kp, eA 0 600 bM, eA 2 6 oM], (0, 0))) rfl (w_Z (z_refF (c := (0, 0))) rfl rfl rfl) ?_
  refine xEqT (N := 1) (x := 0) (y := 0) (A := ev m_M_setLetter 37 [some (eR 0), some (eI x), some (eI y), some (eI z)] [] ([mW (eUp P 10 0), eA 0 964 g, eA 0 964 gp, eA 0 964 gt, eA 0 7712 gr, eA 0 1928 gs, eA 0 144 mk, eA 0 24 fr, eA 1 2 kp, eA 0 600 bM, eA 2 6 oM], (0, 0))) (B := ev m_M_setLetter 71 [some (eR 0), some (eI x), some (eI y), some (eI z)] [] ([mW (eUp P 10 0), eA 0 964 g, eA 0 964 gp, eA 0 964 gt, eA 0 7712 gr, eA 0 1928 gs, eA 0 144 mk, eA 0 24 fr, eA 1 2 kp, eA 0 600 bM, eA 2 6 oM], (0, 0))) rfl (show wr 0 = 0 by decide) (show wr 0 = 0 by decide) (by decide) ?_
  refine xCall (N := 9) (M2 := m_M_setLetter) (pc2 := 50) (ls2 := [some (eR 0), some (eI x), some (eI y), some (eI z)]) (st2 := [eI 16, eR 1, eR 0]) (y := m_M_cellOf) (as := [some (eR 1), some (eI x), some (eI y)]) (w2 := ([mW (eUp P 10 0), eA 0 964 g, eA 0 964 gp, eA 0 964 gt, eA 0 7712 gr, eA 0 1928 gs, eA 0 144 mk, eA 0 24 fr, eA 1 2 kp, eA 0 600 bM, eA 2 6 oM], (0, 0))) rfl (n_co hze) ?_
  refine xLd (N := 2) (n := 964) (i := 16 + ze) (F := fun zq => ev m_M_setLetter 55 [some (eR 0), some (eI x), some (eI y), some (eI z)] [eI (g zq), eR 0] ([mW (eUp P 10 0), eA 0 964 g, eA 0 964 gp, eA 0 964 gt, eA 0 7712 gr, eA 0 1928 gs, eA 0 144 mk, eA 0 24 fr, eA 1 2 kp, eA 0 600 bM, eA 2 6 oM], (0, 0))) (k := 16 + (6 * yn + xn)) rfl (wr_nat (by omega) (by omega)) (by omega) ?_
  refine xEqF (N := 2) (x := g (16 + (6 * yn + xn))) (y := 1) (A := ev m_M_setLetter 59 [some (eR 0), some (eI x), some (eI y), some (eI z)] [eR 0] ([mW (eUp P 10 0), eA 0 964 g, eA 0 964 gp, eA 0 964 gt, eA 0 7712 gr, eA 0 1928 gs, eA 0 144 mk, eA 0 24 fr, eA 1 2 kp, eA 0 600 bM, eA 2 6 oM], (0, 0))) (B := ev m_M_setLetter 63 [some (eR 0), some (eI x), some (eI y), some (eI z)] [eR 0] ([mW (eUp P 10 0), eA 0 964 g, eA 0 964 gp, eA 0 964 gt, eA 0 7712 gr, eA 0 1928 gs, eA 0 144 mk, eA 0 24 fr, eA 1 2 kp, eA 0 600 bM, eA 2 6 oM], (0, 0))) rfl (wr_id (by omega) (by omega)) (show wr 1 = 1 by decide) (by omega) ?_
  refine xCallW (N := 3) (M2 := m_M_setLetter) (pc2 := 65) (ls2 := [some (eR 0), some (eI x), some (eI y), some (eI z)]) (st2 := []) (y := m_M_refuses) (as := [some (eR 0), some (eI 0), some (eI 2)]) (w2 := ([mW (eUp P 10 0), eA 0 964 g, eA 0 964 gp, eA 0 964 gt, eA 0 7712 gr, eA 0 1928 gs, eA 0 144 mk, eA 0 24 fr, eA 1 2 kp, eA 0 600 bM, eA 2 6 oM], (0, 0))) rfl (w_Z (z_refF (c := (0, 0))) rfl rfl rfl) ?_
  refine xEqT (N := 1) (x := 0) (y := 0) (A := ev m_M_setLetter 73 [some (eR 0), some (eI x), some (eI y), some (eI z)] [] ([mW (eUp P 10 0), eA 0 964 g, eA 0 964 gp, eA 0 964 gt, eA 0 7712 gr, eA 0 1928 gs, eA 0 144 mk, eA 0 24 fr, eA 1 2 kp, eA 0 600 bM, eA 2 6 oM], (0, 0))) (B := ev m_M_setLetter 71 [some (eR 0), some (eI x), some (eI y), some (eI z)] [] ([mW (eUp P 10 0), eA 0 964 g, eA 0 964 gp, eA 0 964 gt, eA 0 7712 gr, eA 0 1928 gs, eA 0 144 mk, eA 0 24 fr, eA 1 2 kp, eA 0 600 bM, eA 2 6 oM], (0, 0))) rfl (show wr 0 = 0 by decide) (show wr 0 = 0 by decide) (by decide) ?_
  refine xCallWV (N := 2) (M2 := m_M_setLetter) (pc2 := 74) (ls2 := [some (eR 0), some (eI x), some (eI y), some (eI z)]) (st2 := []) (y := m_M_remember) (as := [some (eR 0)]) (w2 := ([mW (eUp P 10 0), eA 0 964 g, eA 0 964 gp, eA 0 964 gt, eA 0 7712 gr, eA 0 1928 gs, eA 0 144 mk, eA 0 24 fr, eA 1 2 kp, eA 0 600 bM, eA 2 6 oM], (0, 0))) rfl rem9 ?_
  refine xCall (N := 8) (M2 := m_M_setLetter) (pc2 := 88) (ls2 := [some (eR 0), some (eI x), some (eI y), some (eI z)]) (st2 := [eR 1, eR 0]) (y := m_M_cellOf) (as := [some (eR 1), some (eI x), some (eI y)]) (w2 := ([mW P9, eA 0 964 g, eA 0 964 gp, eA 0 964 gt, eA 0 7712 gr9, eA 0 1928 gs, eA 0 144 mk, eA 0 24 fr, eA 1 2 kp, eA 0 600 bM, eA 2 6 oM], (0, 0))) rfl (n_co hze) ?_
  refine xCallW (N := 2) (M2 := m_M_setLetter) (pc2 := 92) (ls2 := [some (eR 0), some (eI x), some (eI y), some (eI z)]) (st2 := []) (y := m_M_gives) (as := [some (eR 0), some (eR 1), some (eI ze), some (eI z)]) (w2 := ([mW P9, eA 0 964 g, eA 0 964 gp, eA 0 964 gt, eA 0 7712 gr9, eA 0 1928 gs, eA 0 144 mk, eA 0 24 fr, eA 1 2 kp, eA 0 600 bM, eA 2 6 oM], (0, 0))) rfl (w_row op9 rfl rfl rfl) ?_
  refine xSeg (N := 1) (r := some (.inl (some (eI b9)), ([mW P9, eA 0 964 g9, eA 0 964 gp, eA 0 964 gt, eA 0 7712 gr9, eA 0 1928 gs, eA 0 144 mk9, eA 0 24 fr9, eA 1 2 kp, eA 0 600 bM, eA 2 6 oM], (0, 0)))) rfl ?_
  rfl
theorem km_setLetterLB {a : eRow} {X : xT} {x y z : Int} {xn yn : Nat} (hx : x = (xn : Int)) (hy : y = (yn : Int)) (h1 : xn < a 0) (h2 : yn < a 1) {v : Nat} (hz : z = (v : Int)) (hz0 : 97 ≤ z ∧ z ≤ 122) (hb : a (16 + (6 * yn + xn)) ≠ 0) : KM m_M_setLetter [some (eI x), some (eI y), some (eI z)] a X (a) (X) 2 (0) := by
  intro P g gp gt gr gs mk fr kp bM oM us t0 h
  have h8 := h
  obtain ⟨⟨hg, hI, hB⟩, r2, ⟨r3, r3n, r3b⟩, r4, ⟨r5, r5n, r5b⟩, ⟨p1, p2, p3, p4, p5⟩, r7⟩ := h
  have hI8 := hI
  obtain ⟨hG, ⟨v1, v2⟩, hO, hT, hM⟩ := hI8
  obtain ⟨⟨q1, q2, q3, q4, q5⟩, q6⟩ := hG
  have b5 := iT_24 q5 hT
  have e0 := hg 0 (by omega)
  have e1 := hg 1 (by omega)
  have e2 := hg 2 (by omega)
  have e3 := hg 3 (by omega)
  have e4 := hg 4 (by omega)
  have e5 := hg 5 (by omega)
  obtain ⟨ze, hze⟩ : ∃ ze : Int, ze = 6 * y + x := ⟨_, rfl⟩
  have q7 := q6.1 (6 * yn + xn) (by omega)
  have e16 := hg (16 + (6 * yn + xn)) (by omega)
  have hbt : ev m_M_isBetween 0 [some (eI z), some (eI 97), some (eI 122)] [] ([mW (eUp P 10 0), eA 0 964 g, eA 0 964 gp, eA 0 964 gt, eA 0 7712 gr, eA 0 1928 gs, eA 0 144 mk, eA 0 24 fr, eA 1 2 kp, eA 0 600 bM, eA 2 6 oM], (0, 0)) = _ := n_between (by omega) (by omega) (by omega)
  rw [decide_eq_true (by omega)] at hbt
  change _ = some (Sum.inl (some (eI 1)), _) at hbt
  refine ⟨eUp (eUp P 10 0) 10 2, g, gp, gt, gr, gs, mk, fr, kp, bM, oM, us, 0, MR_t (MR_t h8), fun _ => rfl, ?_⟩
  refine xCallW (N := 4) (M2 := m_M_setLetter) (pc2 := 3) (ls2 := [some (eR 0), some (eI x), some (eI y), some (eI z)]) (st2 := []) (y := m_M_noCell) (as := [some (eR 0), some (eI x), some (eI y)]) (w2 := ([mW P, eA 0 964 g, eA 0 964 gp, eA 0 964 gt, eA 0 7712 gr, eA 0 1928 gs, eA 0 144 mk, eA 0 24 fr, eA 1 2 kp, eA 0 600 bM, eA 2 6 oM], (0, 0))) rfl (w_Z (z_noCell (c := (0, 0)) hg hI hx hy h1 h2) rfl rfl rfl) ?_
  refine xEqT (N := 1) (x := 0) (y := 0) (A := ev m_M_setLetter 9 [some (eR 0), some (eI x), some (eI y), some (eI z)] [] ([mW (eUp P 10 0), eA 0 964 g, eA 0 964 gp, eA 0 964 gt, eA 0 7712 gr, eA 0 1928 gs, eA 0 144 mk, eA 0 24 fr, eA 1 2 kp, eA 0 600 bM, eA 2 6 oM], (0, 0))) (B := ev m_M_setLetter 71 [some (eR 0), some (eI x), some (eI y), some (eI z)] [] ([mW (eUp P 10 0), eA 0 964 g, eA 0 964 gp, eA 0 964 gt, eA 0 7712 gr, eA 0 1928 gs, eA 0 144 mk, eA 0 24 fr, eA 1 2 kp, eA 0 600 bM, eA 2 6 oM], (0, 0))) rfl (show wr 0 = 0 by decide) (show wr 0 = 0 by decide) (by decide) ?_
  refine xEqF (N := 3) (x := z) (y := 0) (A := ev m_M_setLetter 29 [some (eR 0), some (eI x), some (eI y), some (eI z)] [eR 0] ([mW (eUp P 10 0), eA 0 964 g, eA 0 964 gp, eA 0 964 gt, eA 0 7712 gr, eA 0 1928 gs, eA 0 144 mk, eA 0 24 fr, eA 1 2 kp, eA 0 600 bM, eA 2 6 oM], (0, 0))) (B := ev m_M_setLetter 14 [some (eR 0), some (eI x), some (eI y), some (eI z)] [eR 0] ([mW (eUp P 10 0), eA 0 964 g, eA 0 964 gp, eA 0 964 gt, eA 0 7712 gr, eA 0 1928 gs, eA 0 144 mk, eA 0 24 fr, eA 1 2 kp, eA 0 600 bM, eA 2 6 oM], (0, 0))) rfl (wr_id (by omega) (by omega)) (show wr 0 = 0 by decide) (by omega) ?_
  refine xCall (N := 4) (M2 := m_M_setLetter) (pc2 := 19) (ls2 := [some (eR 0), some (eI x), some (eI y), some (eI z)]) (st2 := [eR 0]) (y := m_M_isBetween) (as := [some (eI z), some (eI 97), some (eI 122)]) (w2 := ([mW (eUp P 10 0), eA 0 964 g, eA 0 964 gp, eA 0 964 gt, eA 0 7712 gr, eA 0 1928 gs, eA 0 144 mk, eA 0 24 fr, eA 1 2 kp, eA 0 600 bM, eA 2 6 oM], (0, 0))) rfl hbt ?_
  refine xEqF (N := 1) (x := 1) (y := 0) (A := ev m_M_setLetter 25 [some (eR 0), some (eI x), some (eI y), some (eI z)] [eR 0] ([mW (eUp P 10 0), eA 0 964 g, eA 0 964 gp, eA 0 964 gt, eA 0 7712 gr, eA 0 1928 gs, eA 0 144 mk, eA 0 24 fr, eA 1 2 kp, eA 0 600 bM, eA 2 6 oM], (0, 0))) (B := ev m_M_setLetter 29 [some (eR 0), some (eI x), some (eI y), some (eI z)] [eR 0] ([mW (eUp P 10 0), eA 0 964 g, eA 0 964 gp, eA 0 964 gt, eA 0 7712 gr, eA 0 1928 gs, eA 0 144 mk, eA 0 24 fr, eA 1 2 kp, eA 0 600 bM, eA 2 6 oM], (0, 0))) rfl (show wr 1 = 1 by decide) (show wr 0 = 0 by decide) (by decide) ?_
  refine xCallW (N := 3) (M2 := m_M_setLetter) (pc2 := 31) (ls2 := [some (eR 0), some (eI x), some (eI y), some (eI z)]) (st2 := []) (y := m_M_refuses) (as := [some (eR 0), some (eI 0), some (eI 1)]) (w2 := ([mW (eUp P 10 0), eA 0 964 g, eA 0 964 gp, eA 0 964 gt, eA 0 7712 gr, eA 0 1928 gs, eA 0 144 mk, eA 0 24 fr, eA 1 2 kp, eA 0 600 bM, eA 2 6 oM], (0, 0))) rfl (w_Z (z_refF (c := (0, 0))) rfl rfl rfl) ?_
  refine xEqT (N := 1) (x := 0) (y := 0) (A := ev m_M_setLetter 37 [some (eR 0), some (eI x), some (eI y), some (eI z)] [] ([mW (eUp P 10 0), eA 0 964 g, eA 0 964 gp, eA 0 964 gt, eA 0 7712 gr, eA 0 1928 gs, eA 0 144 mk, eA 0 24 fr, eA 1 2 kp, eA 0 600 bM, eA 2 6 oM], (0, 0))) (B := ev m_M_setLetter 71 [some (eR 0), some (eI x), some (eI y), some (eI z)] [] ([mW (eUp P 10 0), eA 0 964 g, eA 0 964 gp, eA 0 964 gt, eA 0 7712 gr, eA 0 1928 gs, eA 0 144 mk, eA 0 24 fr, eA 1 2 kp, eA 0 600 bM, eA 2 6 oM], (0, 0))) rfl (show wr 0 = 0 by decide) (show wr 0 = 0 by decide) (by decide) ?_
  refine xCall (N := 9) (M2 := m_M_setLetter) (pc2 := 50) (ls2 := [some (eR 0), some (eI x), some (eI y), some (eI z)]) (st2 := [eI 16, eR 1, eR 0]) (y := m_M_cellOf) (as := [some (eR 1), some (eI x), some (eI y)]) (w2 := ([mW (eUp P 10 0), eA 0 964 g, eA 0 964 gp, eA 0 964 gt, eA 0 7712 gr, eA 0 1928 gs, eA 0 144 mk, eA 0 24 fr, eA 1 2 kp, eA 0 600 bM, eA 2 6 oM], (0, 0))) rfl (n_co hze) ?_
  refine xLd (N := 2) (n := 964) (i := 16 + ze) (F := fun zq => ev m_M_setLetter 55 [some (eR 0), some (eI x), some (eI y), some (eI z)] [eI (g zq), eR 0] ([mW (eUp P 10 0), eA 0 964 g, eA 0 964 gp, eA 0 964 gt, eA 0 7712 gr, eA 0 1928 gs, eA 0 144 mk, eA 0 24 fr, eA 1 2 kp, eA 0 600 bM, eA 2 6 oM], (0, 0))) (k := 16 + (6 * yn + xn)) rfl (wr_nat (by omega) (by omega)) (by omega) ?_
  refine xEqT (N := 2) (x := g (16 + (6 * yn + xn))) (y := 1) (A := ev m_M_setLetter 59 [some (eR 0), some (eI x), some (eI y), some (eI z)] [eR 0] ([mW (eUp P 10 0), eA 0 964 g, eA 0 964 gp, eA 0 964 gt, eA 0 7712 gr, eA 0 1928 gs, eA 0 144 mk, eA 0 24 fr, eA 1 2 kp, eA 0 600 bM, eA 2 6 oM], (0, 0))) (B := ev m_M_setLetter 63 [some (eR 0), some (eI x), some (eI y), some (eI z)] [eR 0] ([mW (eUp P 10 0), eA 0 964 g, eA 0 964 gp, eA 0 964 gt, eA 0 7712 gr, eA 0 1928 gs, eA 0 144 mk, eA 0 24 fr, eA 1 2 kp, eA 0 600 bM, eA 2 6 oM], (0, 0))) rfl (wr_id (by omega) (by omega)) (show wr 1 = 1 by decide) (by omega) ?_
  refine xCallW (N := 4) (M2 := m_M_setLetter) (pc2 := 65) (ls2 := [some (eR 0), some (eI x), some (eI y), some (eI z)]) (st2 := []) (y := m_M_refuses) (as := [some (eR 0), some (eI 1), some (eI 2)]) (w2 := ([mW (eUp P 10 0), eA 0 964 g, eA 0 964 gp, eA 0 964 gt, eA 0 7712 gr, eA 0 1928 gs, eA 0 144 mk, eA 0 24 fr, eA 1 2 kp, eA 0 600 bM, eA 2 6 oM], (0, 0))) rfl (w_Z (z_refT (c := (0, 0)) (by omega)) rfl rfl rfl) ?_
  refine xEqF (N := 1) (x := 1) (y := 0) (A := ev m_M_setLetter 73 [some (eR 0), some (eI x), some (eI y), some (eI z)] [] ([mW (eUp (eUp P 10 0) 10 2), eA 0 964 g, eA 0 964 gp, eA 0 964 gt, eA 0 7712 gr, eA 0 1928 gs, eA 0 144 mk, eA 0 24 fr, eA 1 2 kp, eA 0 600 bM, eA 2 6 oM], (0, 0))) (B := ev m_M_setLetter 71 [some (eR 0), some (eI x), some (eI y), some (eI z)] [] ([mW (eUp (eUp P 10 0) 10 2), eA 0 964 g, eA 0 964 gp, eA 0 964 gt, eA 0 7712 gr, eA 0 1928 gs, eA 0 144 mk, eA 0 24 fr, eA 1 2 kp, eA 0 600 bM, eA 2 6 oM], (0, 0))) rfl (show wr 1 = 1 by decide) (show wr 0 = 0 by decide) (by decide) ?_
  refine xSeg (N := 2) (r := some (.inl (some (eI 0)), ([mW (eUp (eUp P 10 0) 10 2), eA 0 964 g, eA 0 964 gp, eA 0 964 gt, eA 0 7712 gr, eA 0 1928 gs, eA 0 144 mk, eA 0 24 fr, eA 1 2 kp, eA 0 600 bM, eA 2 6 oM], (0, 0)))) rfl ?_
  rfl
theorem km_setLetterZ {a : eRow} {X : xT} {x y z : Int} {xn yn : Nat} (hx : x = (xn : Int)) (hy : y = (yn : Int)) (h1 : xn < a 0) (h2 : yn < a 1) (bz : -2147483648 ≤ z ∧ z < 2147483648) (hz : z ≠ 0) (hz2 : ¬ (97 ≤ z ∧ z ≤ 122)) : KM m_M_setLetter [some (eI x), some (eI y), some (eI z)] a X (a) (X) 1 (0) := by
  intro P g gp gt gr gs mk fr kp bM oM us t0 h
  have h8 := h
  obtain ⟨⟨hg, hI, hB⟩, r2, ⟨r3, r3n, r3b⟩, r4, ⟨r5, r5n, r5b⟩, ⟨p1, p2, p3, p4, p5⟩, r7⟩ := h
  have hI8 := hI
  obtain ⟨hG, ⟨v1, v2⟩, hO, hT, hM⟩ := hI8
  obtain ⟨⟨q1, q2, q3, q4, q5⟩, q6⟩ := hG
  have b5 := iT_24 q5 hT
  have e0 := hg 0 (by omega)
  have e1 := hg 1 (by omega)
  have e2 := hg 2 (by omega)
  have e3 := hg 3 (by omega)
  have e4 := hg 4 (by omega)
  have e5 := hg 5 (by omega)
  have hbt : ev m_M_isBetween 0 [some (eI z), some (eI 97), some (eI 122)] [] ([mW (eUp P 10 0), eA 0 964 g, eA 0 964 gp, eA 0 964 gt, eA 0 7712 gr, eA 0 1928 gs, eA 0 144 mk, eA 0 24 fr, eA 1 2 kp, eA 0 600 bM, eA 2 6 oM], (0, 0)) = _ := n_between (by omega) (by omega) (by omega)
  rw [decide_eq_false (by omega)] at hbt
  change _ = some (Sum.inl (some (eI 0)), _) at hbt
  refine ⟨eUp (eUp P 10 0) 10 1, g, gp, gt, gr, gs, mk, fr, kp, bM, oM, us, 0, MR_t (MR_t h8), fun _ => rfl, ?_⟩
  refine xCallW (N := 4) (M2 := m_M_setLetter) (pc2 := 3) (ls2 := [some (eR 0), some (eI x), some (eI y), some (eI z)]) (st2 := []) (y := m_M_noCell) (as := [some (eR 0), some (eI x), some (eI y)]) (w2 := ([mW P, eA 0 964 g, eA 0 964 gp, eA 0 964 gt, eA 0 7712 gr, eA 0 1928 gs, eA 0 144 mk, eA 0 24 fr, eA 1 2 kp, eA 0 600 bM, eA 2 6 oM], (0, 0))) rfl (w_Z (z_noCell (c := (0, 0)) hg hI hx hy h1 h2) rfl rfl rfl) ?_
  refine xEqT (N := 1) (x := 0) (y := 0) (A := ev m_M_setLetter 9 [some (eR 0), some (eI x), some (eI y), some (eI z)] [] ([mW (eUp P 10 0), eA 0 964 g, eA 0 964 gp, eA 0 964 gt, eA 0 7712 gr, eA 0 1928 gs, eA 0 144 mk, eA 0 24 fr, eA 1 2 kp, eA 0 600 bM, eA 2 6 oM], (0, 0))) (B := ev m_M_setLetter 71 [some (eR 0), some (eI x), some (eI y), some (eI z)] [] ([mW (eUp P 10 0), eA 0 964 g, eA 0 964 gp, eA 0 964 gt, eA 0 7712 gr, eA 0 1928 gs, eA 0 144 mk, eA 0 24 fr, eA 1 2 kp, eA 0 600 bM, eA 2 6 oM], (0, 0))) rfl (show wr 0 = 0 by decide) (show wr 0 = 0 by decide) (by decide) ?_
  refine xEqF (N := 3) (x := z) (y := 0) (A := ev m_M_setLetter 29 [some (eR 0), some (eI x), some (eI y), some (eI z)] [eR 0] ([mW (eUp P 10 0), eA 0 964 g, eA 0 964 gp, eA 0 964 gt, eA 0 7712 gr, eA 0 1928 gs, eA 0 144 mk, eA 0 24 fr, eA 1 2 kp, eA 0 600 bM, eA 2 6 oM], (0, 0))) (B := ev m_M_setLetter 14 [some (eR 0), some (eI x), some (eI y), some (eI z)] [eR 0] ([mW (eUp P 10 0), eA 0 964 g, eA 0 964 gp, eA 0 964 gt, eA 0 7712 gr, eA 0 1928 gs, eA 0 144 mk, eA 0 24 fr, eA 1 2 kp, eA 0 600 bM, eA 2 6 oM], (0, 0))) rfl (wr_id (by omega) (by omega)) (show wr 0 = 0 by decide) hz ?_
  refine xCall (N := 4) (M2 := m_M_setLetter) (pc2 := 19) (ls2 := [some (eR 0), some (eI x), some (eI y), some (eI z)]) (st2 := [eR 0]) (y := m_M_isBetween) (as := [some (eI z), some (eI 97), some (eI 122)]) (w2 := ([mW (eUp P 10 0), eA 0 964 g, eA 0 964 gp, eA 0 964 gt, eA 0 7712 gr, eA 0 1928 gs, eA 0 144 mk, eA 0 24 fr, eA 1 2 kp, eA 0 600 bM, eA 2 6 oM], (0, 0))) rfl hbt ?_
  refine xEqT (N := 1) (x := 0) (y := 0) (A := ev m_M_setLetter 25 [some (eR 0), some (eI x), some (eI y), some (eI z)] [eR 0] ([mW (eUp P 10 0), eA 0 964 g, eA 0 964 gp, eA 0 964 gt, eA 0 7712 gr, eA 0 1928 gs, eA 0 144 mk, eA 0 24 fr, eA 1 2 kp, eA 0 600 bM, eA 2 6 oM], (0, 0))) (B := ev m_M_setLetter 29 [some (eR 0), some (eI x), some (eI y), some (eI z)] [eR 0] ([mW (eUp P 10 0), eA 0 964 g, eA 0 964 gp, eA 0 964 gt, eA 0 7712 gr, eA 0 1928 gs, eA 0 144 mk, eA 0 24 fr, eA 1 2 kp, eA 0 600 bM, eA 2 6 oM], (0, 0))) rfl (show wr 0 = 0 by decide) (show wr 0 = 0 by decide) (by decide) ?_
  refine xCallW (N := 4) (M2 := m_M_setLetter) (pc2 := 31) (ls2 := [some (eR 0), some (eI x), some (eI y), some (eI z)]) (st2 := []) (y := m_M_refuses) (as := [some (eR 0), some (eI 1), some (eI 1)]) (w2 := ([mW (eUp P 10 0), eA 0 964 g, eA 0 964 gp, eA 0 964 gt, eA 0 7712 gr, eA 0 1928 gs, eA 0 144 mk, eA 0 24 fr, eA 1 2 kp, eA 0 600 bM, eA 2 6 oM], (0, 0))) rfl (w_Z (z_refT (c := (0, 0)) (by omega)) rfl rfl rfl) ?_
  refine xEqF (N := 1) (x := 1) (y := 0) (A := ev m_M_setLetter 37 [some (eR 0), some (eI x), some (eI y), some (eI z)] [] ([mW (eUp (eUp P 10 0) 10 1), eA 0 964 g, eA 0 964 gp, eA 0 964 gt, eA 0 7712 gr, eA 0 1928 gs, eA 0 144 mk, eA 0 24 fr, eA 1 2 kp, eA 0 600 bM, eA 2 6 oM], (0, 0))) (B := ev m_M_setLetter 71 [some (eR 0), some (eI x), some (eI y), some (eI z)] [] ([mW (eUp (eUp P 10 0) 10 1), eA 0 964 g, eA 0 964 gp, eA 0 964 gt, eA 0 7712 gr, eA 0 1928 gs, eA 0 144 mk, eA 0 24 fr, eA 1 2 kp, eA 0 600 bM, eA 2 6 oM], (0, 0))) rfl (show wr 1 = 1 by decide) (show wr 0 = 0 by decide) (by decide) ?_
  refine xSeg (N := 2) (r := some (.inl (some (eI 0)), ([mW (eUp (eUp P 10 0) 10 1), eA 0 964 g, eA 0 964 gp, eA 0 964 gt, eA 0 7712 gr, eA 0 1928 gs, eA 0 144 mk, eA 0 24 fr, eA 1 2 kp, eA 0 600 bM, eA 2 6 oM], (0, 0)))) rfl ?_
  rfl
theorem km_setLetterX {a : eRow} {X : xT} {x y z : Int} (bx : -2147483648 ≤ x ∧ x < 2147483648) (by_ : -2147483648 ≤ y ∧ y < 2147483648) (h : inG (a 0) (a 1) x y = false) : KM m_M_setLetter [some (eI x), some (eI y), some (eI z)] a X (a) (X) 1 (0) := by
  intro P g gp gt gr gs mk fr kp bM oM us t0 h
  have h8 := h
  obtain ⟨⟨hg, hI, hB⟩, r2, ⟨r3, r3n, r3b⟩, r4, ⟨r5, r5n, r5b⟩, ⟨p1, p2, p3, p4, p5⟩, r7⟩ := h
  have hI8 := hI
  obtain ⟨hG, ⟨v1, v2⟩, hO, hT, hM⟩ := hI8
  obtain ⟨⟨q1, q2, q3, q4, q5⟩, q6⟩ := hG
  have b5 := iT_24 q5 hT
  have e0 := hg 0 (by omega)
  have e1 := hg 1 (by omega)
  have e2 := hg 2 (by omega)
  have e3 := hg 3 (by omega)
  have e4 := hg 4 (by omega)
  have e5 := hg 5 (by omega)
  refine ⟨eUp P 10 1, g, gp, gt, gr, gs, mk, fr, kp, bM, oM, us, 0, MR_t h8, fun _ => rfl, ?_⟩
  refine xCallW (N := 4) (M2 := m_M_setLetter) (pc2 := 3) (ls2 := [some (eR 0), some (eI x), some (eI y), some (eI z)]) (st2 := []) (y := m_M_noCell) (as := [some (eR 0), some (eI x), some (eI y)]) (w2 := ([mW P, eA 0 964 g, eA 0 964 gp, eA 0 964 gt, eA 0 7712 gr, eA 0 1928 gs, eA 0 144 mk, eA 0 24 fr, eA 1 2 kp, eA 0 600 bM, eA 2 6 oM], (0, 0))) rfl (w_Z (z_noCellX (c := (0, 0)) hg hI bx by_ h) rfl rfl rfl) ?_
  refine xEqF (N := 1) (x := 1) (y := 0) (A := ev m_M_setLetter 9 [some (eR 0), some (eI x), some (eI y), some (eI z)] [] ([mW (eUp P 10 1), eA 0 964 g, eA 0 964 gp, eA 0 964 gt, eA 0 7712 gr, eA 0 1928 gs, eA 0 144 mk, eA 0 24 fr, eA 1 2 kp, eA 0 600 bM, eA 2 6 oM], (0, 0))) (B := ev m_M_setLetter 71 [some (eR 0), some (eI x), some (eI y), some (eI z)] [] ([mW (eUp P 10 1), eA 0 964 g, eA 0 964 gp, eA 0 964 gt, eA 0 7712 gr, eA 0 1928 gs, eA 0 144 mk, eA 0 24 fr, eA 1 2 kp, eA 0 600 bM, eA 2 6 oM], (0, 0))) rfl (show wr 1 = 1 by decide) (show wr 0 = 0 by decide) (by decide) ?_
  refine xSeg (N := 2) (r := some (.inl (some (eI 0)), ([mW (eUp P 10 1), eA 0 964 g, eA 0 964 gp, eA 0 964 gt, eA 0 7712 gr, eA 0 1928 gs, eA 0 144 mk, eA 0 24 fr, eA 1 2 kp, eA 0 600 bM, eA 2 6 oM], (0, 0)))) rfl ?_
  rfl
