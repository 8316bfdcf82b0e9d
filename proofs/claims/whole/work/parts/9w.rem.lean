/-! The model remembers. -/
def pushX (x : xT) (a : eRow) : xT := ((min (x.1.1 + 1) 8, fun j => if j = 0 then a else x.1.2 (j - 1)), x.2)
def popX (x : xT) : xT := ((x.1.1 - 1, fun j => x.1.2 (j + 1)), x.2)
def savX (x : xT) (i : Nat) (a : eRow) : xT := (x.1, (fun k => if k = i then some a else x.2.1 k, x.2.2))
def inX (x : xT) (n : Nat) (B : Nat → Nat) : xT := (x.1, (x.2.1, ((n, B), x.2.2.2)))
def erX (x : xT) (er : Option (Nat × Nat)) : xT := (x.1, (x.2.1, (x.2.2.1, (er, x.2.2.2.2))))
def ouX (x : xT) (on : Nat) (ou : Nat → Nat) : xT := (x.1, (x.2.1, (x.2.2.1, (x.2.2.2.1, (on, ou)))))
theorem bRem8 {z : Int} {m : Nat} (h : z = (m : Int)) (hm : m < 2147483648) : bRem z 8 = ((m % 8 : Nat) : Int) := by
  rw [h]
  exact bRem_n (b := 8) hm (by omega) (by omega)
theorem rgA_in {g gr : Nat → Int} {a : eRow} {J : Nat} (h : rg g a) : rgA (cpR g gr 0 J 964) J a := fun i hi => by
  rw [cpR_in hi, Nat.zero_add]
  exact h i hi
theorem rgA_out {g gr : Nat → Int} {a : eRow} {J K : Nat} (h : rgA gr (964 * K) a) (hJ : K ≠ J) : rgA (cpR g gr 0 (964 * J) 964) (964 * K) a := fun i hi => by
  rw [cpR_out (by omega)]
  exact h i hi
theorem MR_t {P g gr gs kp bM oM : Nat → Int} {us : Nat} {a : eRow} {x : xT} {t t' : Int} (h : MR P g gr gs kp bM oM us a x t) : MR (eUp P 10 t') g gr gs kp bM oM us a x t' := by
  obtain ⟨r1, r2, r3, r4, r5, r6, r7⟩ := h
  refine ⟨r1, eUp_at, ?_, ?_, ?_, ?_, r7⟩
  · rw [eUp_ne (by omega)]; exact r3
  · cases hx : x.2.2.2.1 with
    | none => rw [hx] at r4; exact ⟨by rw [eUp_ne (by omega)]; exact r4.1, by rw [eUp_ne (by omega)]; exact r4.2⟩
    | some z => obtain ⟨k, s⟩ := z; rw [hx] at r4; exact ⟨by rw [eUp_ne (by omega)]; exact r4.1, by rw [eUp_ne (by omega)]; exact r4.2.1, r4.2.2⟩
  · rw [eUp_ne (by omega)]; exact r5
  · rw [eUp_ne (by omega), eUp_ne (by omega)]; exact r6
/-- the row changes -/
theorem MR_g {P g g' gr gs kp bM oM : Nat → Int} {us : Nat} {a a' : eRow} {x : xT} {t : Int} (h : MR P g gr gs kp bM oM us a x t) (hg : rg g' a') (ho : okR a') : MR P g' gr gs kp bM oM us a' x t := ⟨⟨hg, ho⟩, h.2⟩
/-- undoable and undoStart alone change -/
def kU (P P' : Nat → Int) : Prop := ∀ j, j ≠ 8 → j ≠ 9 → P' j = P j
set_option maxRecDepth 100000
theorem MR_push {P P' g gr gs kp bM oM : Nat → Int} {us us' : Nat} {a : eRow} {x : xT} {t : Int} (h : MR P g gr gs kp bM oM us a x t) (hk : kU P P') (h8 : P' 8 = ((min (x.1.1 + 1) 8 : Nat) : Int)) (h9 : P' 9 = (us' : Int)) (hu : us' < 8) (hus : (x.1.1 < 8 → us' = us) ∧ (x.1.1 = 8 → us' = (us + 1) % 8)) : MR P' g (cpR g gr 0 (964 * ((us' + min (x.1.1 + 1) 8 - 1) % 8)) 964) gs kp bM oM us' a (pushX x a) t := by
  obtain ⟨⟨r1, r1'⟩, r2, r3, r4, r5, ⟨p1, p2, p3, p4, p5⟩, r7⟩ := h
  refine ⟨⟨r1, r1'⟩, (hk 10 (by omega) (by omega)).trans r2, ?_, ?_, ?_, ⟨h8, by show min (x.1.1 + 1) 8 ≤ 8; omega, h9, hu, fun j hj => ?_⟩, r7⟩
  · show P' 12 = _ ∧ _
    rw [hk 12 (by omega) (by omega)]; exact r3
  · show erM P' x.2.2.2.1
    cases hx : x.2.2.2.1 with
    | none => rw [hx] at r4; exact ⟨(hk 18 (by omega) (by omega)).trans r4.1, (hk 19 (by omega) (by omega)).trans r4.2⟩
    | some z => obtain ⟨k, s⟩ := z; rw [hx] at r4; exact ⟨(hk 18 (by omega) (by omega)).trans r4.1, (hk 19 (by omega) (by omega)).trans r4.2.1, r4.2.2⟩
  · show P' 21 = _ ∧ _
    rw [hk 21 (by omega) (by omega)]; exact r5
  · have hj : j < min (x.1.1 + 1) 8 := hj
    show rgA _ (964 * ((us' + min (x.1.1 + 1) 8 - 1 - j) % 8)) (if j = 0 then a else x.1.2 (j - 1)) ∧ okR (if j = 0 then a else x.1.2 (j - 1))
    by_cases h0 : j = 0
    · rw [if_pos h0, h0, Nat.sub_zero]
      exact ⟨rgA_in r1, r1'⟩
    · rw [if_neg h0]
      obtain ⟨s1, s2⟩ := p5 (j - 1) (by omega)
      have he : (us' + min (x.1.1 + 1) 8 - 1 - j) % 8 = (us + x.1.1 - 1 - (j - 1)) % 8 := by
        by_cases h8' : x.1.1 < 8
        · rw [hus.1 h8']; omega
        · rw [hus.2 (by omega)]; omega
      rw [← he] at s1
      refine ⟨rgA_out s1 ?_, s2⟩
      omega
theorem m_remember {P g gp gt gr gs mk fr kp bM oM : Nat → Int} {us : Nat} {a : eRow} {x : xT} {t : Int} {c : Nat × Nat} (h : MR P g gr gs kp bM oM us a x t) : ∃ (P' gr' : Nat → Int) (us' : Nat), MR P' g gr' gs kp bM oM us' a (pushX x a) t ∧ kU P P' ∧ ev m_M_remember 0 [some (eR 0)] [] ([mW P, eA 0 964 g, eA 0 964 gp, eA 0 964 gt, eA 0 7712 gr, eA 0 1928 gs, eA 0 144 mk, eA 0 24 fr, eA 1 2 kp, eA 0 600 bM, eA 2 6 oM], c) = some (.inl none, ([mW P', eA 0 964 g, eA 0 964 gp, eA 0 964 gt, eA 0 7712 gr', eA 0 1928 gs, eA 0 144 mk, eA 0 24 fr, eA 1 2 kp, eA 0 600 bM, eA 2 6 oM], c)) := by
  have h' := h
  obtain ⟨⟨r1, r1'⟩, r2, r3, r4, r5, ⟨p1, p2, p3, p4, p5⟩, r7⟩ := h
  by_cases h8 : x.1.1 < 8
  · have hJ : (964 : Int) * bRem (P 9 + P 8) 8 = ((964 * ((us + x.1.1) % 8) : Nat) : Int) := by
      rw [bRem8 (m := us + x.1.1) (by omega) (by omega)]; omega
    have hmr := MR_push (P' := eUp P 8 (P 8 + 1)) (us' := us) h' (fun j h1 h2 => eUp_ne h1) (by rw [eUp_at]; omega) (by rw [eUp_ne (by omega)]; exact p3) p4 ⟨fun _ => rfl, fun h => by omega⟩
    have he : (us + min (x.1.1 + 1) 8 - 1) % 8 = (us + x.1.1) % 8 := by omega
    rw [he] at hmr
    have hcp := n_copyRow (f := g) (h := gr) (c := (0, 0)) (x := 0) (y := 964 * bRem (P 9 + P 8) 8) (n := 964) (n2 := 7712) (I := 0) (J := 964 * ((us + x.1.1) % 8)) rfl hJ (by omega) (by omega) (by omega) (by omega)
    refine ⟨_, cpR g gr 0 (964 * ((us + x.1.1) % 8)) 964, us, hmr, fun j h1 h2 => eUp_ne h1, ?_⟩
    generalize cpR g gr 0 (964 * ((us + x.1.1) % 8)) 964 = gr9 at hcp ⊢
    refine xEqF (N := 4) (x := P 8) (y := 8) (A := ev m_M_remember 9 [some (eR 0)] [] ([mW P, eA 0 964 g, eA 0 964 gp, eA 0 964 gt, eA 0 7712 gr, eA 0 1928 gs, eA 0 144 mk, eA 0 24 fr, eA 1 2 kp, eA 0 600 bM, eA 2 6 oM], c)) (B := ev m_M_remember 32 [some (eR 0)] [] ([mW P, eA 0 964 g, eA 0 964 gp, eA 0 964 gt, eA 0 7712 gr, eA 0 1928 gs, eA 0 144 mk, eA 0 24 fr, eA 1 2 kp, eA 0 600 bM, eA 2 6 oM], c)) rfl (wr_id (by omega) (by omega)) (show wr 8 = 8 by decide) (by omega) ?_
    refine xNz (N := 13) (y := 8) (A := ev m_M_remember 56 [some (eR 0)] [eI (bRem ((P 9) + (P 8)) 8), eI 964, eR 4, eI 0, eR 1] ([mW P, eA 0 964 g, eA 0 964 gp, eA 0 964 gt, eA 0 7712 gr, eA 0 1928 gs, eA 0 144 mk, eA 0 24 fr, eA 1 2 kp, eA 0 600 bM, eA 2 6 oM], c)) rfl (by decide) ?_
    refine xCallV (N := 2) (M2 := m_M_remember) (pc2 := 57) (ls2 := [some (eR 0)]) (st2 := []) (y := m_M_copyRow) (as := [some (eR 1), some (eI 0), some (eR 4), some (eI (964 * (bRem ((P 9) + (P 8)) 8)))]) (w2 := ([mW P, eA 0 964 g, eA 0 964 gp, eA 0 964 gt, eA 0 7712 gr, eA 0 1928 gs, eA 0 144 mk, eA 0 24 fr, eA 1 2 kp, eA 0 600 bM, eA 2 6 oM], c)) rfl (w_cpR hcp rfl rfl rfl) ?_
    refine xSeg (N := 7) (r := some (.inl none, ([mW (eUp P 8 ((P 8) + 1)), eA 0 964 g, eA 0 964 gp, eA 0 964 gt, eA 0 7712 gr9, eA 0 1928 gs, eA 0 144 mk, eA 0 24 fr, eA 1 2 kp, eA 0 600 bM, eA 2 6 oM], c))) rfl ?_
    rfl
  · have hb1 : bRem (P 9 + 1) 8 = (((us + 1) % 8 : Nat) : Int) := bRem8 (m := us + 1) (by omega) (by omega)
    have hJ : (964 : Int) * bRem (bRem (P 9 + 1) 8 + (P 8 - 1)) 8 = ((964 * (((us + 1) % 8 + 7) % 8) : Nat) : Int) := by
      rw [bRem8 (z := bRem (P 9 + 1) 8 + (P 8 - 1)) (m := (us + 1) % 8 + 7) (by rw [hb1]; omega) (by omega)]; omega
    have hmr := MR_push (P' := eUp (eUp (eUp P 9 (bRem (P 9 + 1) 8)) 8 (P 8 - 1)) 8 (P 8 - 1 + 1)) (us' := (us + 1) % 8) h' (fun j h1 h2 => by rw [eUp_ne h1, eUp_ne h1, eUp_ne h2]) (by rw [eUp_at]; omega) (by rw [eUp_ne (by omega), eUp_ne (by omega), eUp_at]; exact hb1) (by omega) ⟨fun h => by omega, fun _ => rfl⟩
    have he : ((us + 1) % 8 + min (x.1.1 + 1) 8 - 1) % 8 = ((us + 1) % 8 + 7) % 8 := by omega
    rw [he] at hmr
    have hcp := n_copyRow (f := g) (h := gr) (c := (0, 0)) (x := 0) (y := 964 * bRem (bRem (P 9 + 1) 8 + (P 8 - 1)) 8) (n := 964) (n2 := 7712) (I := 0) (J := 964 * (((us + 1) % 8 + 7) % 8)) rfl hJ (by omega) (by omega) (by omega) (by omega)
    refine ⟨_, cpR g gr 0 (964 * (((us + 1) % 8 + 7) % 8)) 964, (us + 1) % 8, hmr, fun j h1 h2 => by rw [eUp_ne h1, eUp_ne h1, eUp_ne h2], ?_⟩
    generalize cpR g gr 0 (964 * (((us + 1) % 8 + 7) % 8)) 964 = gr9 at hcp ⊢
    refine xEqT (N := 4) (x := P 8) (y := 8) (A := ev m_M_remember 9 [some (eR 0)] [] ([mW P, eA 0 964 g, eA 0 964 gp, eA 0 964 gt, eA 0 7712 gr, eA 0 1928 gs, eA 0 144 mk, eA 0 24 fr, eA 1 2 kp, eA 0 600 bM, eA 2 6 oM], c)) (B := ev m_M_remember 32 [some (eR 0)] [] ([mW P, eA 0 964 g, eA 0 964 gp, eA 0 964 gt, eA 0 7712 gr, eA 0 1928 gs, eA 0 144 mk, eA 0 24 fr, eA 1 2 kp, eA 0 600 bM, eA 2 6 oM], c)) rfl (wr_id (by omega) (by omega)) (show wr 8 = 8 by decide) (by omega) ?_
    refine xNz (N := 7) (y := 8) (A := ev m_M_remember 19 [some (eR 0)] [eI (bRem ((P 9) + 1) 8), eR 0] ([mW P, eA 0 964 g, eA 0 964 gp, eA 0 964 gt, eA 0 7712 gr, eA 0 1928 gs, eA 0 144 mk, eA 0 24 fr, eA 1 2 kp, eA 0 600 bM, eA 2 6 oM], c)) rfl (by decide) ?_
    refine xNz (N := 20) (y := 8) (A := ev m_M_remember 56 [some (eR 0)] [eI (bRem ((bRem ((P 9) + 1) 8) + ((P 8) - 1)) 8), eI 964, eR 4, eI 0, eR 1] ([mW (eUp (eUp P 9 (bRem ((P 9) + 1) 8)) 8 ((P 8) - 1)), eA 0 964 g, eA 0 964 gp, eA 0 964 gt, eA 0 7712 gr, eA 0 1928 gs, eA 0 144 mk, eA 0 24 fr, eA 1 2 kp, eA 0 600 bM, eA 2 6 oM], c)) rfl (by decide) ?_
    refine xCallV (N := 2) (M2 := m_M_remember) (pc2 := 57) (ls2 := [some (eR 0)]) (st2 := []) (y := m_M_copyRow) (as := [some (eR 1), some (eI 0), some (eR 4), some (eI (964 * (bRem ((bRem ((P 9) + 1) 8) + ((P 8) - 1)) 8)))]) (w2 := ([mW (eUp (eUp P 9 (bRem ((P 9) + 1) 8)) 8 ((P 8) - 1)), eA 0 964 g, eA 0 964 gp, eA 0 964 gt, eA 0 7712 gr, eA 0 1928 gs, eA 0 144 mk, eA 0 24 fr, eA 1 2 kp, eA 0 600 bM, eA 2 6 oM], c)) rfl (w_cpR hcp rfl rfl rfl) ?_
    refine xSeg (N := 7) (r := some (.inl none, ([mW (eUp (eUp (eUp P 9 (bRem (P 9 + 1) 8)) 8 (P 8 - 1)) 8 ((P 8 - 1) + 1)), eA 0 964 g, eA 0 964 gp, eA 0 964 gt, eA 0 7712 gr9, eA 0 1928 gs, eA 0 144 mk, eA 0 24 fr, eA 1 2 kp, eA 0 600 bM, eA 2 6 oM], c))) rfl ?_
    rfl
