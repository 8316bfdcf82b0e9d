/-! The model's methods, in its eleven cells. -/
def erV : Option (Nat × Nat) → Int × Int
  | none => (0, -1)
  | some (k, s) => ((k : Int), (s : Int))
theorem erM_V {P : Nat → Int} {e : Option (Nat × Nat)} (h : erM P e) : P 18 = (erV e).1 ∧ P 19 = (erV e).2 := by
  cases e with
  | none => exact h
  | some z => obtain ⟨k, s⟩ := z; exact ⟨h.1, h.2.1⟩
theorem erM_up {P : Nat → Int} {e : Option (Nat × Nat)} {k : Nat} {z : Int} (hk : k ≠ 18 ∧ k ≠ 19) (h : erM P e) : erM (eUp P k z) e := by
  cases e with
  | none => exact ⟨by rw [eUp_ne (by omega)]; exact h.1, by rw [eUp_ne (by omega)]; exact h.2⟩
  | some z => obtain ⟨k, s⟩ := z; exact ⟨by rw [eUp_ne (by omega)]; exact h.1, by rw [eUp_ne (by omega)]; exact h.2.1, h.2.2⟩
theorem MR_in {P g gr gs kp bM bM' oM : Nat → Int} {us : Nat} {a : eRow} {X : xT} {t : Int} {n : Nat} {B : Nat → Nat} {z : Int} (h : MR P g gr gs kp bM oM us a X t) (hz : z = (n : Int)) (hn : n ≤ 600) (hb : ∀ i, i < n → bM' i = (B i : Int) ∧ B i < 256) : MR (eUp P 12 z) g gr gs kp bM' oM us a (inX X n B) t := by
  obtain ⟨r1, r2, r3, r4, r5, r6, r7⟩ := h
  refine ⟨r1, ?_, ⟨by rw [eUp_at]; exact hz, hn, hb⟩, erM_up (by omega) r4, ?_, ?_, r7⟩
  · rw [eUp_ne (by omega)]; exact r2
  · show eUp P 12 z 21 = _ ∧ _
    rw [eUp_ne (by omega)]; exact r5
  · show eUp P 12 z 8 = _ ∧ _ ∧ eUp P 12 z 9 = _ ∧ _
    rw [eUp_ne (by omega), eUp_ne (by omega)]; exact r6
theorem MR_sav {P g gr gs kp bM oM : Nat → Int} {us : Nat} {a : eRow} {X : xT} {t : Int} {k : Nat} (h : MR P g gr gs kp bM oM us a X t) (hk : k < 2) : MR P g gr (cpR g gs 0 (964 * k) 964) (eUp kp k 1) bM oM us a (savX X k a) t := by
  obtain ⟨r1, r2, r3, r4, r5, r6, r7⟩ := h
  refine ⟨r1, r2, r3, r4, r5, r6, fun i hi => ?_⟩
  show match (if i = k then some a else X.2.1 i) with
  | none => eUp kp k 1 i = 0
  | some r => eUp kp k 1 i = 1 ∧ rgA (cpR g gs 0 (964 * k) 964) (964 * i) r ∧ okR r
  by_cases hik : i = k
  · rw [if_pos hik, hik]
    exact ⟨eUp_at, rgA_in r1.1, r1.2⟩
  · rw [if_neg hik]
    have := r7 i hi
    cases hx : X.2.1 i with
    | none => rw [hx] at this; dsimp only; rw [eUp_ne hik]; exact this
    | some r => rw [hx] at this; dsimp only; rw [eUp_ne hik]; exact ⟨this.1, rgA_out this.2.1 hik, this.2.2⟩
section
variable {P g gp gt gr gs mk fr kp bM oM : Nat → Int} {c : Nat × Nat} {y : Nat} {o : Option eV ⊕ Nat}
theorem w_g {as as' : eL} (h : ev y 0 as [] ([eA 0 964 g], (0, 0)) = some (o, ([eA 0 964 g], (0, 0)))) (ha : okLU eSt 1 as = true) (has : rL eSt [1] as = as') (ho : rO eSt [1] o = o) : ev y 0 as' [] ([mW P, eA 0 964 g, eA 0 964 gp, eA 0 964 gt, eA 0 7712 gr, eA 0 1928 gs, eA 0 144 mk, eA 0 24 fr, eA 1 2 kp, eA 0 600 bM, eA 2 6 oM], c) = some (o, ([mW P, eA 0 964 g, eA 0 964 gp, eA 0 964 gt, eA 0 7712 gr, eA 0 1928 gs, eA 0 144 mk, eA 0 24 fr, eA 1 2 kp, eA 0 600 bM, eA 2 6 oM], c)) :=
  xAt (σ := eSt) (α := [1]) h rfl rfl rfl rfl rfl ha has ho rfl
theorem w_gt {as as' : eL} (h : ev y 0 as [] ([eA 0 964 gt], (0, 0)) = some (o, ([eA 0 964 gt], (0, 0)))) (ha : okLU eSt 1 as = true) (has : rL eSt [3] as = as') (ho : rO eSt [3] o = o) : ev y 0 as' [] ([mW P, eA 0 964 g, eA 0 964 gp, eA 0 964 gt, eA 0 7712 gr, eA 0 1928 gs, eA 0 144 mk, eA 0 24 fr, eA 1 2 kp, eA 0 600 bM, eA 2 6 oM], c) = some (o, ([mW P, eA 0 964 g, eA 0 964 gp, eA 0 964 gt, eA 0 7712 gr, eA 0 1928 gs, eA 0 144 mk, eA 0 24 fr, eA 1 2 kp, eA 0 600 bM, eA 2 6 oM], c)) :=
  xAt (σ := eSt) (α := [3]) h rfl rfl rfl rfl rfl ha has ho rfl
end
def fwM (a : eRow) (n : Nat) (B : Nat → Nat) : Int := if (2 ≤ n ∧ n ≤ 6) ∧ allN (fun p => isL (B (0 + p))) n = true then fnd (fun k => decide (a (88 + k) = cdF B 0 n)) (a 2) 0 else -1
theorem cdF_pos {B : Nat → Nat} {n : Nat} (h : (2 ≤ n ∧ n ≤ 6) ∧ allN (fun p => isL (B (0 + p))) n = true) : cdF B 0 n ≠ 0 ∧ cdF B 0 n < 2147483648 := by
  have hb : ∀ q, q < n → 97 ≤ B (0 + q) ∧ B (0 + q) ≤ 122 := fun q hq => by
    have := allN_iff.mp h.2 q hq
    unfold isL at this
    simpa using this
  refine ⟨(loN_L (cdF_ok hb h.1.1 h.1.2)).2, Nat.lt_of_lt_of_le (cdF_lt hb) ?_⟩
  exact Nat.le_trans (Nat.pow_le_pow_right (by omega) h.1.2) (by decide)
theorem m_cf {P bY : Nat → Int} {B : Nat → Nat} {n : Nat} {x z : Int} {a : eRow} (hn : n ≤ 600) (hby : ∀ i, i < n → bY i = (B i : Int) ∧ B i < 256) (hx : x = 0) (hz : z = (n : Int)) : ∃ z9 : Int, ev m_M_codeFrom 0 [some (eR 0), some (eI x), some (eI z)] [] ([mN P, eA 0 600 bY], (0, 0)) = some (.inl (some (eI z9)), ([mN P, eA 0 600 bY], (0, 0))) ∧ ((z9 = 0 ∧ fwM a n B = -1) ∨ ∃ cd : Nat, z9 = (cd : Int) ∧ z9 ≠ 0 ∧ cd < 2147483648 ∧ fwM a n B = fnd (fun k => decide (a (88 + k) = cd)) (a 2) 0) := by
  refine ⟨_, n_codeFrom (S := 0) hn hby hx hz (by omega), ?_⟩
  by_cases hl : (2 ≤ n ∧ n ≤ 6) ∧ allN (fun p => isL (B (0 + p))) n = true
  · obtain ⟨h1, h2⟩ := cdF_pos hl
    refine Or.inr ⟨cdF B 0 n, ?_, ?_, h2, if_pos hl⟩
    · rw [if_pos hl]
    · rw [if_pos hl]; omega
  · exact Or.inl ⟨by rw [if_neg hl]; rfl, if_neg hl⟩
set_option maxRecDepth 100000
theorem km_errorCode {a : eRow} {X : xT} : KM m_M_errorCode [] a X (a) (X) 0 ((erV X.2.2.2.1).1) := by
  intro P g gp gt gr gs mk fr kp bM oM us t0 h
  have h8 := h
  obtain ⟨⟨hg, hI, hB⟩, r2, ⟨r3, r3n, r3b⟩, r4, ⟨r5, r5n, r5b⟩, ⟨p1, p2, p3, p4, p5⟩, r7⟩ := h
  have hI8 := hI
  obtain ⟨hG, ⟨v1, v2⟩, hO, hT, hM⟩ := hI8
  obtain ⟨⟨q1, q2, q3, q4, q5⟩, q6⟩ := hG
  refine ⟨eUp P 10 0, g, gp, gt, gr, gs, mk, fr, kp, bM, oM, us, P 18, MR_t h8, fun _ => (erM_V r4).1, ?_⟩
  refine xSeg (N := 6) (r := some (.inl (some (eI (P 18))), ([mW (eUp P 10 0), eA 0 964 g, eA 0 964 gp, eA 0 964 gt, eA 0 7712 gr, eA 0 1928 gs, eA 0 144 mk, eA 0 24 fr, eA 1 2 kp, eA 0 600 bM, eA 2 6 oM], (0, 0)))) rfl ?_
  rfl
theorem km_errorPosition {a : eRow} {X : xT} : KM m_M_errorPosition [] a X (a) (X) 0 ((erV X.2.2.2.1).2) := by
  intro P g gp gt gr gs mk fr kp bM oM us t0 h
  have h8 := h
  obtain ⟨⟨hg, hI, hB⟩, r2, ⟨r3, r3n, r3b⟩, r4, ⟨r5, r5n, r5b⟩, ⟨p1, p2, p3, p4, p5⟩, r7⟩ := h
  have hI8 := hI
  obtain ⟨hG, ⟨v1, v2⟩, hO, hT, hM⟩ := hI8
  obtain ⟨⟨q1, q2, q3, q4, q5⟩, q6⟩ := hG
  refine ⟨eUp P 10 0, g, gp, gt, gr, gs, mk, fr, kp, bM, oM, us, P 19, MR_t h8, fun _ => (erM_V r4).2, ?_⟩
  refine xSeg (N := 6) (r := some (.inl (some (eI (P 19))), ([mW (eUp P 10 0), eA 0 964 g, eA 0 964 gp, eA 0 964 gt, eA 0 7712 gr, eA 0 1928 gs, eA 0 144 mk, eA 0 24 fr, eA 1 2 kp, eA 0 600 bM, eA 2 6 oM], (0, 0)))) rfl ?_
  rfl
theorem km_truncateInput {a : eRow} {X : xT} {x : Int} {n : Nat} (hx : x = (n : Int)) (hn : n ≤ X.2.2.1.1) : KM m_M_truncateInput [some (eI x)] a X (a) (inX X n X.2.2.1.2) 0 (x) := by
  intro P g gp gt gr gs mk fr kp bM oM us t0 h
  have h8 := h
  obtain ⟨⟨hg, hI, hB⟩, r2, ⟨r3, r3n, r3b⟩, r4, ⟨r5, r5n, r5b⟩, ⟨p1, p2, p3, p4, p5⟩, r7⟩ := h
  have hI8 := hI
  obtain ⟨hG, ⟨v1, v2⟩, hO, hT, hM⟩ := hI8
  obtain ⟨⟨q1, q2, q3, q4, q5⟩, q6⟩ := hG
  refine ⟨eUp (eUp P 10 0) 12 x, g, gp, gt, gr, gs, mk, fr, kp, bM, oM, us, x, MR_in (MR_t h8) hx (by omega) (fun i hi => r3b i (by omega)), fun _ => rfl, ?_⟩
  refine xCallW (N := 6) (M2 := m_M_truncateInput) (pc2 := 7) (ls2 := [some (eR 0), some (eI x)]) (st2 := []) (y := m_M_noNumber) (as := [some (eR 0), some (eI x), some (eI 0), some (eI (P 12))]) (w2 := ([mW P, eA 0 964 g, eA 0 964 gp, eA 0 964 gt, eA 0 7712 gr, eA 0 1928 gs, eA 0 144 mk, eA 0 24 fr, eA 1 2 kp, eA 0 600 bM, eA 2 6 oM], (0, 0))) rfl (w_Z (z_noNum (c := (0, 0)) (P := P) (by omega) (by omega) (by omega) (by omega)) rfl rfl rfl) ?_
  refine xEqT (N := 1) (x := 0) (y := 0) (A := ev m_M_truncateInput 15 [some (eR 0), some (eI x)] [] ([mW (eUp P 10 0), eA 0 964 g, eA 0 964 gp, eA 0 964 gt, eA 0 7712 gr, eA 0 1928 gs, eA 0 144 mk, eA 0 24 fr, eA 1 2 kp, eA 0 600 bM, eA 2 6 oM], (0, 0))) (B := ev m_M_truncateInput 13 [some (eR 0), some (eI x)] [] ([mW (eUp P 10 0), eA 0 964 g, eA 0 964 gp, eA 0 964 gt, eA 0 7712 gr, eA 0 1928 gs, eA 0 144 mk, eA 0 24 fr, eA 1 2 kp, eA 0 600 bM, eA 2 6 oM], (0, 0))) rfl (show wr 0 = 0 by decide) (show wr 0 = 0 by decide) (by decide) ?_
  refine xSeg (N := 5) (r := some (.inl (some (eI x)), ([mW (eUp (eUp P 10 0) 12 x), eA 0 964 g, eA 0 964 gp, eA 0 964 gt, eA 0 7712 gr, eA 0 1928 gs, eA 0 144 mk, eA 0 24 fr, eA 1 2 kp, eA 0 600 bM, eA 2 6 oM], (0, 0)))) rfl ?_
  rfl
theorem km_truncateInputX {a : eRow} {X : xT} {x : Int} (bx : -2147483648 ≤ x ∧ x < 2147483648) (hn : ¬ (0 ≤ x ∧ x ≤ (X.2.2.1.1 : Int))) : KM m_M_truncateInput [some (eI x)] a X (a) (X) 1 (0) := by
  intro P g gp gt gr gs mk fr kp bM oM us t0 h
  have h8 := h
  obtain ⟨⟨hg, hI, hB⟩, r2, ⟨r3, r3n, r3b⟩, r4, ⟨r5, r5n, r5b⟩, ⟨p1, p2, p3, p4, p5⟩, r7⟩ := h
  have hI8 := hI
  obtain ⟨hG, ⟨v1, v2⟩, hO, hT, hM⟩ := hI8
  obtain ⟨⟨q1, q2, q3, q4, q5⟩, q6⟩ := hG
  refine ⟨eUp P 10 1, g, gp, gt, gr, gs, mk, fr, kp, bM, oM, us, 0, MR_t h8, fun _ => rfl, ?_⟩
  refine xCallW (N := 6) (M2 := m_M_truncateInput) (pc2 := 7) (ls2 := [some (eR 0), some (eI x)]) (st2 := []) (y := m_M_noNumber) (as := [some (eR 0), some (eI x), some (eI 0), some (eI (P 12))]) (w2 := ([mW P, eA 0 964 g, eA 0 964 gp, eA 0 964 gt, eA 0 7712 gr, eA 0 1928 gs, eA 0 144 mk, eA 0 24 fr, eA 1 2 kp, eA 0 600 bM, eA 2 6 oM], (0, 0))) rfl (w_Z (z_noNumX (c := (0, 0)) (P := P) (by omega) (by omega) (by omega) (by omega)) rfl rfl rfl) ?_
  refine xEqF (N := 1) (x := 1) (y := 0) (A := ev m_M_truncateInput 15 [some (eR 0), some (eI x)] [] ([mW (eUp P 10 1), eA 0 964 g, eA 0 964 gp, eA 0 964 gt, eA 0 7712 gr, eA 0 1928 gs, eA 0 144 mk, eA 0 24 fr, eA 1 2 kp, eA 0 600 bM, eA 2 6 oM], (0, 0))) (B := ev m_M_truncateInput 13 [some (eR 0), some (eI x)] [] ([mW (eUp P 10 1), eA 0 964 g, eA 0 964 gp, eA 0 964 gt, eA 0 7712 gr, eA 0 1928 gs, eA 0 144 mk, eA 0 24 fr, eA 1 2 kp, eA 0 600 bM, eA 2 6 oM], (0, 0))) rfl (show wr 1 = 1 by decide) (show wr 0 = 0 by decide) (by decide) ?_
  refine xSeg (N := 2) (r := some (.inl (some (eI 0)), ([mW (eUp P 10 1), eA 0 964 g, eA 0 964 gp, eA 0 964 gt, eA 0 7712 gr, eA 0 1928 gs, eA 0 144 mk, eA 0 24 fr, eA 1 2 kp, eA 0 600 bM, eA 2 6 oM], (0, 0)))) rfl ?_
  rfl
theorem km_outputByte {a : eRow} {X : xT} {x : Int} {n : Nat} (hx : x = (n : Int)) (hn : n < X.2.2.2.2.1) : KM m_M_outputByte [some (eI x)] a X (a) (X) 0 ((X.2.2.2.2.2 n : Int)) := by
  intro P g gp gt gr gs mk fr kp bM oM us t0 h
  have h8 := h
  obtain ⟨⟨hg, hI, hB⟩, r2, ⟨r3, r3n, r3b⟩, r4, ⟨r5, r5n, r5b⟩, ⟨p1, p2, p3, p4, p5⟩, r7⟩ := h
  have hI8 := hI
  obtain ⟨hG, ⟨v1, v2⟩, hO, hT, hM⟩ := hI8
  obtain ⟨⟨q1, q2, q3, q4, q5⟩, q6⟩ := hG
  refine ⟨eUp P 10 0, g, gp, gt, gr, gs, mk, fr, kp, bM, oM, us, oM n, MR_t h8, fun _ => r5b n hn, ?_⟩
  refine xCallW (N := 8) (M2 := m_M_outputByte) (pc2 := 9) (ls2 := [some (eR 0), some (eI x)]) (st2 := []) (y := m_M_noNumber) (as := [some (eR 0), some (eI x), some (eI 0), some (eI ((P 21) - 1))]) (w2 := ([mW P, eA 0 964 g, eA 0 964 gp, eA 0 964 gt, eA 0 7712 gr, eA 0 1928 gs, eA 0 144 mk, eA 0 24 fr, eA 1 2 kp, eA 0 600 bM, eA 2 6 oM], (0, 0))) rfl (w_Z (z_noNum (c := (0, 0)) (P := P) (by omega) (by omega) (by omega) (by omega)) rfl rfl rfl) ?_
  refine xEqT (N := 1) (x := 0) (y := 0) (A := ev m_M_outputByte 17 [some (eR 0), some (eI x)] [] ([mW (eUp P 10 0), eA 0 964 g, eA 0 964 gp, eA 0 964 gt, eA 0 7712 gr, eA 0 1928 gs, eA 0 144 mk, eA 0 24 fr, eA 1 2 kp, eA 0 600 bM, eA 2 6 oM], (0, 0))) (B := ev m_M_outputByte 15 [some (eR 0), some (eI x)] [] ([mW (eUp P 10 0), eA 0 964 g, eA 0 964 gp, eA 0 964 gt, eA 0 7712 gr, eA 0 1928 gs, eA 0 144 mk, eA 0 24 fr, eA 1 2 kp, eA 0 600 bM, eA 2 6 oM], (0, 0))) rfl (show wr 0 = 0 by decide) (show wr 0 = 0 by decide) (by decide) ?_
  refine xLd (N := 4) (n := 6) (i := x) (F := fun zq => ev m_M_outputByte 23 [some (eR 0), some (eI x)] [eI (oM zq)] ([mW (eUp P 10 0), eA 0 964 g, eA 0 964 gp, eA 0 964 gt, eA 0 7712 gr, eA 0 1928 gs, eA 0 144 mk, eA 0 24 fr, eA 1 2 kp, eA 0 600 bM, eA 2 6 oM], (0, 0))) (k := n) rfl (wr_nat (by omega) (by omega)) (by omega) ?_
  refine xSeg (N := 1) (r := some (.inl (some (eI (oM n))), ([mW (eUp P 10 0), eA 0 964 g, eA 0 964 gp, eA 0 964 gt, eA 0 7712 gr, eA 0 1928 gs, eA 0 144 mk, eA 0 24 fr, eA 1 2 kp, eA 0 600 bM, eA 2 6 oM], (0, 0)))) rfl ?_
  rfl
theorem km_outputByteX {a : eRow} {X : xT} {x : Int} (bx : -2147483648 ≤ x ∧ x < 2147483648) (hn : ¬ (0 ≤ x ∧ x < (X.2.2.2.2.1 : Int))) : KM m_M_outputByte [some (eI x)] a X (a) (X) 1 (0) := by
  intro P g gp gt gr gs mk fr kp bM oM us t0 h
  have h8 := h
  obtain ⟨⟨hg, hI, hB⟩, r2, ⟨r3, r3n, r3b⟩, r4, ⟨r5, r5n, r5b⟩, ⟨p1, p2, p3, p4, p5⟩, r7⟩ := h
  have hI8 := hI
  obtain ⟨hG, ⟨v1, v2⟩, hO, hT, hM⟩ := hI8
  obtain ⟨⟨q1, q2, q3, q4, q5⟩, q6⟩ := hG
  refine ⟨eUp P 10 1, g, gp, gt, gr, gs, mk, fr, kp, bM, oM, us, 0, MR_t h8, fun _ => rfl, ?_⟩
  refine xCallW (N := 8) (M2 := m_M_outputByte) (pc2 := 9) (ls2 := [some (eR 0), some (eI x)]) (st2 := []) (y := m_M_noNumber) (as := [some (eR 0), some (eI x), some (eI 0), some (eI ((P 21) - 1))]) (w2 := ([mW P, eA 0 964 g, eA 0 964 gp, eA 0 964 gt, eA 0 7712 gr, eA 0 1928 gs, eA 0 144 mk, eA 0 24 fr, eA 1 2 kp, eA 0 600 bM, eA 2 6 oM], (0, 0))) rfl (w_Z (z_noNumX (c := (0, 0)) (P := P) (by omega) (by omega) (by omega) (by omega)) rfl rfl rfl) ?_
  refine xEqF (N := 1) (x := 1) (y := 0) (A := ev m_M_outputByte 17 [some (eR 0), some (eI x)] [] ([mW (eUp P 10 1), eA 0 964 g, eA 0 964 gp, eA 0 964 gt, eA 0 7712 gr, eA 0 1928 gs, eA 0 144 mk, eA 0 24 fr, eA 1 2 kp, eA 0 600 bM, eA 2 6 oM], (0, 0))) (B := ev m_M_outputByte 15 [some (eR 0), some (eI x)] [] ([mW (eUp P 10 1), eA 0 964 g, eA 0 964 gp, eA 0 964 gt, eA 0 7712 gr, eA 0 1928 gs, eA 0 144 mk, eA 0 24 fr, eA 1 2 kp, eA 0 600 bM, eA 2 6 oM], (0, 0))) rfl (show wr 1 = 1 by decide) (show wr 0 = 0 by decide) (by decide) ?_
  refine xSeg (N := 2) (r := some (.inl (some (eI 0)), ([mW (eUp P 10 1), eA 0 964 g, eA 0 964 gp, eA 0 964 gt, eA 0 7712 gr, eA 0 1928 gs, eA 0 144 mk, eA 0 24 fr, eA 1 2 kp, eA 0 600 bM, eA 2 6 oM], (0, 0)))) rfl ?_
  rfl
theorem km_findWord {a : eRow} {X : xT} : KM m_M_findWord [] a X (a) (X) 0 (fwM a X.2.2.1.1 X.2.2.1.2) := by
  intro P g gp gt gr gs mk fr kp bM oM us t0 h
  have h8 := h
  obtain ⟨⟨hg, hI, hB⟩, r2, ⟨r3, r3n, r3b⟩, r4, ⟨r5, r5n, r5b⟩, ⟨p1, p2, p3, p4, p5⟩, r7⟩ := h
  have hI8 := hI
  obtain ⟨hG, ⟨v1, v2⟩, hO, hT, hM⟩ := hI8
  obtain ⟨⟨q1, q2, q3, q4, q5⟩, q6⟩ := hG
  obtain ⟨z9, hcf, hz⟩ := m_cf (P := eUp P 10 0) (a := a) (x := 0) (z := P 12) r3n r3b rfl r3
  rcases hz with ⟨hz, hv⟩ | ⟨cd, hz9, hz, hzl, hv⟩
  · rw [hv]
    refine ⟨eUp P 10 0, g, gp, gt, gr, gs, mk, fr, kp, bM, oM, us, -1, MR_t h8, fun _ => rfl, ?_⟩
    refine xCallW (N := 8) (M2 := m_M_findWord) (pc2 := 11) (ls2 := [some (eR 0)]) (st2 := []) (y := m_M_codeFrom) (as := [some (eR 0), some (eI 0), some (eI (P 12))]) (w2 := ([mW (eUp P 10 0), eA 0 964 g, eA 0 964 gp, eA 0 964 gt, eA 0 7712 gr, eA 0 1928 gs, eA 0 144 mk, eA 0 24 fr, eA 1 2 kp, eA 0 600 bM, eA 2 6 oM], (0, 0))) rfl (w_N hcf rfl rfl rfl) ?_
    refine xEqT (N := 3) (x := z9) (y := 0) (A := ev m_M_findWord 19 [some (eR 0), some (eI z9)] [] ([mW (eUp P 10 0), eA 0 964 g, eA 0 964 gp, eA 0 964 gt, eA 0 7712 gr, eA 0 1928 gs, eA 0 144 mk, eA 0 24 fr, eA 1 2 kp, eA 0 600 bM, eA 2 6 oM], (0, 0))) (B := ev m_M_findWord 23 [some (eR 0), some (eI z9)] [] ([mW (eUp P 10 0), eA 0 964 g, eA 0 964 gp, eA 0 964 gt, eA 0 7712 gr, eA 0 1928 gs, eA 0 144 mk, eA 0 24 fr, eA 1 2 kp, eA 0 600 bM, eA 2 6 oM], (0, 0))) rfl (wr_id (by omega) (by omega)) (show wr 0 = 0 by decide) hz ?_
    refine xSeg (N := 3) (r := some (.inl (some (eI (-1))), ([mW (eUp P 10 0), eA 0 964 g, eA 0 964 gp, eA 0 964 gt, eA 0 7712 gr, eA 0 1928 gs, eA 0 144 mk, eA 0 24 fr, eA 1 2 kp, eA 0 600 bM, eA 2 6 oM], (0, 0)))) rfl ?_
    rfl
  · rw [hv]
    have hwo := n_wordOf (c := (0, 0)) hg ⟨v1, v2⟩ hz9 hzl
    generalize fnd (fun k => decide (a (88 + k) = cd)) (a 2) 0 = r9 at hwo ⊢
    refine ⟨eUp P 10 0, g, gp, gt, gr, gs, mk, fr, kp, bM, oM, us, r9, MR_t h8, fun _ => rfl, ?_⟩
    refine xCallW (N := 8) (M2 := m_M_findWord) (pc2 := 11) (ls2 := [some (eR 0)]) (st2 := []) (y := m_M_codeFrom) (as := [some (eR 0), some (eI 0), some (eI (P 12))]) (w2 := ([mW (eUp P 10 0), eA 0 964 g, eA 0 964 gp, eA 0 964 gt, eA 0 7712 gr, eA 0 1928 gs, eA 0 144 mk, eA 0 24 fr, eA 1 2 kp, eA 0 600 bM, eA 2 6 oM], (0, 0))) rfl (w_N hcf rfl rfl rfl) ?_
    refine xEqF (N := 3) (x := z9) (y := 0) (A := ev m_M_findWord 19 [some (eR 0), some (eI z9)] [] ([mW (eUp P 10 0), eA 0 964 g, eA 0 964 gp, eA 0 964 gt, eA 0 7712 gr, eA 0 1928 gs, eA 0 144 mk, eA 0 24 fr, eA 1 2 kp, eA 0 600 bM, eA 2 6 oM], (0, 0))) (B := ev m_M_findWord 23 [some (eR 0), some (eI z9)] [] ([mW (eUp P 10 0), eA 0 964 g, eA 0 964 gp, eA 0 964 gt, eA 0 7712 gr, eA 0 1928 gs, eA 0 144 mk, eA 0 24 fr, eA 1 2 kp, eA 0 600 bM, eA 2 6 oM], (0, 0))) rfl (wr_id (by omega) (by omega)) (show wr 0 = 0 by decide) hz ?_
    refine xCall (N := 4) (M2 := m_M_findWord) (pc2 := 28) (ls2 := [some (eR 0), some (eI z9)]) (st2 := []) (y := m_M_wordOf) (as := [some (eR 1), some (eI z9)]) (w2 := ([mW (eUp P 10 0), eA 0 964 g, eA 0 964 gp, eA 0 964 gt, eA 0 7712 gr, eA 0 1928 gs, eA 0 144 mk, eA 0 24 fr, eA 1 2 kp, eA 0 600 bM, eA 2 6 oM], (0, 0))) rfl (w_g hwo rfl rfl rfl) ?_
    refine xSeg (N := 1) (r := some (.inl (some (eI r9)), ([mW (eUp P 10 0), eA 0 964 g, eA 0 964 gp, eA 0 964 gt, eA 0 7712 gr, eA 0 1928 gs, eA 0 144 mk, eA 0 24 fr, eA 1 2 kp, eA 0 600 bM, eA 2 6 oM], (0, 0)))) rfl ?_
    rfl
theorem km_save {a : eRow} {X : xT} {x : Int} {n : Nat} (hx : x = (n : Int)) (hn : n < 2) : KM m_M_save [some (eI x)] a X (a) (savX X n a) 0 ((a 2 : Int)) := by
  intro P g gp gt gr gs mk fr kp bM oM us t0 h
  have h8 := h
  obtain ⟨⟨hg, hI, hB⟩, r2, ⟨r3, r3n, r3b⟩, r4, ⟨r5, r5n, r5b⟩, ⟨p1, p2, p3, p4, p5⟩, r7⟩ := h
  have hI8 := hI
  obtain ⟨hG, ⟨v1, v2⟩, hO, hT, hM⟩ := hI8
  obtain ⟨⟨q1, q2, q3, q4, q5⟩, q6⟩ := hG
  refine ⟨eUp P 10 0, g, gp, gt, gr, cpR g gs 0 (964 * n) 964, mk, fr, eUp kp n 1, bM, oM, us, g 2, MR_sav (MR_t h8) hn, fun _ => hg 2 (by omega), ?_⟩
  have hJ : (964 : Int) * x = ((964 * n : Nat) : Int) := by omega
  have hcp := n_copyRow (f := g) (h := gs) (c := (0, 0)) (x := 0) (y := 964 * x) (n := 964) (n2 := 1928) (I := 0) (J := 964 * n) rfl hJ (by omega) (by omega) (by omega) (by omega)
  generalize cpR g gs 0 (964 * n) 964 = gs9 at hcp ⊢
  refine xCallW (N := 5) (M2 := m_M_save) (pc2 := 4) (ls2 := [some (eR 0), some (eI x)]) (st2 := []) (y := m_M_noNumber) (as := [some (eR 0), some (eI x), some (eI 0), some (eI 1)]) (w2 := ([mW P, eA 0 964 g, eA 0 964 gp, eA 0 964 gt, eA 0 7712 gr, eA 0 1928 gs, eA 0 144 mk, eA 0 24 fr, eA 1 2 kp, eA 0 600 bM, eA 2 6 oM], (0, 0))) rfl (w_Z (z_noNum (c := (0, 0)) (P := P) (by omega) (by omega) (by omega) (by omega)) rfl rfl rfl) ?_
  refine xEqT (N := 1) (x := 0) (y := 0) (A := ev m_M_save 12 [some (eR 0), some (eI x)] [] ([mW (eUp P 10 0), eA 0 964 g, eA 0 964 gp, eA 0 964 gt, eA 0 7712 gr, eA 0 1928 gs, eA 0 144 mk, eA 0 24 fr, eA 1 2 kp, eA 0 600 bM, eA 2 6 oM], (0, 0))) (B := ev m_M_save 10 [some (eR 0), some (eI x)] [] ([mW (eUp P 10 0), eA 0 964 g, eA 0 964 gp, eA 0 964 gt, eA 0 7712 gr, eA 0 1928 gs, eA 0 144 mk, eA 0 24 fr, eA 1 2 kp, eA 0 600 bM, eA 2 6 oM], (0, 0))) rfl (show wr 0 = 0 by decide) (show wr 0 = 0 by decide) (by decide) ?_
  refine xCallV (N := 9) (M2 := m_M_save) (pc2 := 26) (ls2 := [some (eR 0), some (eI x)]) (st2 := []) (y := m_M_copyRow) (as := [some (eR 1), some (eI 0), some (eR 5), some (eI (964 * x))]) (w2 := ([mW (eUp P 10 0), eA 0 964 g, eA 0 964 gp, eA 0 964 gt, eA 0 7712 gr, eA 0 1928 gs, eA 0 144 mk, eA 0 24 fr, eA 1 2 kp, eA 0 600 bM, eA 2 6 oM], (0, 0))) rfl (w_cpS hcp rfl rfl rfl) ?_
  refine xLd (N := 5) (n := 2) (i := x) (F := fun zq => ev m_M_save 36 [some (eR 0), some (eI x)] [] ([mW (eUp P 10 0), eA 0 964 g, eA 0 964 gp, eA 0 964 gt, eA 0 7712 gr, eA 0 1928 gs9, eA 0 144 mk, eA 0 24 fr, eA 1 2 (eUp kp zq 1), eA 0 600 bM, eA 2 6 oM], (0, 0))) (k := n) rfl (wr_nat (by omega) (by omega)) (by omega) ?_
  refine xLd (N := 4) (n := 964) (i := 2) (F := fun zq => ev m_M_save 42 [some (eR 0), some (eI x)] [eI (g zq)] ([mW (eUp P 10 0), eA 0 964 g, eA 0 964 gp, eA 0 964 gt, eA 0 7712 gr, eA 0 1928 gs9, eA 0 144 mk, eA 0 24 fr, eA 1 2 (eUp kp n 1), eA 0 600 bM, eA 2 6 oM], (0, 0))) (k := 2) rfl (show wr 2 = ((2 : Nat) : Int) by decide) (by omega) ?_
  refine xSeg (N := 1) (r := some (.inl (some (eI (g 2))), ([mW (eUp P 10 0), eA 0 964 g, eA 0 964 gp, eA 0 964 gt, eA 0 7712 gr, eA 0 1928 gs9, eA 0 144 mk, eA 0 24 fr, eA 1 2 (eUp kp n 1), eA 0 600 bM, eA 2 6 oM], (0, 0)))) rfl ?_
  rfl
theorem km_saveX {a : eRow} {X : xT} {x : Int} (bx : -2147483648 ≤ x ∧ x < 2147483648) (hn : ¬ (0 ≤ x ∧ x < 2)) : KM m_M_save [some (eI x)] a X (a) (X) 1 (0) := by
  intro P g gp gt gr gs mk fr kp bM oM us t0 h
  have h8 := h
  obtain ⟨⟨hg, hI, hB⟩, r2, ⟨r3, r3n, r3b⟩, r4, ⟨r5, r5n, r5b⟩, ⟨p1, p2, p3, p4, p5⟩, r7⟩ := h
  have hI8 := hI
  obtain ⟨hG, ⟨v1, v2⟩, hO, hT, hM⟩ := hI8
  obtain ⟨⟨q1, q2, q3, q4, q5⟩, q6⟩ := hG
  refine ⟨eUp P 10 1, g, gp, gt, gr, gs, mk, fr, kp, bM, oM, us, 0, MR_t h8, fun _ => rfl, ?_⟩
  refine xCallW (N := 5) (M2 := m_M_save) (pc2 := 4) (ls2 := [some (eR 0), some (eI x)]) (st2 := []) (y := m_M_noNumber) (as := [some (eR 0), some (eI x), some (eI 0), some (eI 1)]) (w2 := ([mW P, eA 0 964 g, eA 0 964 gp, eA 0 964 gt, eA 0 7712 gr, eA 0 1928 gs, eA 0 144 mk, eA 0 24 fr, eA 1 2 kp, eA 0 600 bM, eA 2 6 oM], (0, 0))) rfl (w_Z (z_noNumX (c := (0, 0)) (P := P) (by omega) (by omega) (by omega) (by omega)) rfl rfl rfl) ?_
  refine xEqF (N := 1) (x := 1) (y := 0) (A := ev m_M_save 12 [some (eR 0), some (eI x)] [] ([mW (eUp P 10 1), eA 0 964 g, eA 0 964 gp, eA 0 964 gt, eA 0 7712 gr, eA 0 1928 gs, eA 0 144 mk, eA 0 24 fr, eA 1 2 kp, eA 0 600 bM, eA 2 6 oM], (0, 0))) (B := ev m_M_save 10 [some (eR 0), some (eI x)] [] ([mW (eUp P 10 1), eA 0 964 g, eA 0 964 gp, eA 0 964 gt, eA 0 7712 gr, eA 0 1928 gs, eA 0 144 mk, eA 0 24 fr, eA 1 2 kp, eA 0 600 bM, eA 2 6 oM], (0, 0))) rfl (show wr 1 = 1 by decide) (show wr 0 = 0 by decide) (by decide) ?_
  refine xSeg (N := 2) (r := some (.inl (some (eI 0)), ([mW (eUp P 10 1), eA 0 964 g, eA 0 964 gp, eA 0 964 gt, eA 0 7712 gr, eA 0 1928 gs, eA 0 144 mk, eA 0 24 fr, eA 1 2 kp, eA 0 600 bM, eA 2 6 oM], (0, 0)))) rfl ?_
  rfl
