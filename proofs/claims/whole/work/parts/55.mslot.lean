/-! The model makes a slot. -/
set_option maxRecDepth 100000
theorem n_isFree2 {g : Nat → Int} {c : Nat × Nat} {x y x' y' : Int} {W H : Nat} {B : Nat → Nat} (e0 : g 0 = (W : Int)) (e1 : g 1 = (H : Int)) (hW : W < 7) (hH : H < 7) (hB : ∀ e, e < 36 → g (16 + e) = (B e : Int) ∧ B e ≤ 1) (hx : x = x') (hy : y = y') (bx : -2147483648 ≤ x' ∧ x' < 2147483648) (by_ : -2147483648 ≤ y' ∧ y' < 2147483648) : ev m_M_isFree 0 [some (eR 0), some (eI x), some (eI y)] [] ([eA 0 964 g], c) = some (.inl (some (eI (bI (opn W H B x' y')))), ([eA 0 964 g], c)) := by
  subst hx
  subst hy
  refine xLd (N := 5) (n := 964) (i := 0) (F := fun zq => ev m_M_isFree 5 [some (eR 0), some (eI x), some (eI y)] [eI (g zq), eI 0, eI x] ([eA 0 964 g], c)) (k := 0) rfl (show wr 0 = ((0 : Nat) : Int) by decide) (by omega) ?_
  refine xCallI (N := 3) (v := bI (decide (0 ≤ x ∧ x ≤ (g 0) - 1))) (M2 := m_M_isFree) (pc2 := 7) (ls2 := [some (eR 0), some (eI x), some (eI y)]) (st2 := []) (y := m_M_isBetween) (as := [some (eI x), some (eI 0), some (eI ((g 0) - 1))]) (w2 := ([eA 0 964 g], c)) rfl (n_between (by omega) (by omega) (by omega)) (fun r7 hr7 => ?_)
  have hq := bI_1 hr7
  refine xEq (N := 1) (x := r7) (y := 0) (A := ev m_M_isFree 44 [some (eR 0), some (eI x), some (eI y)] [] ([eA 0 964 g], c)) (B := ev m_M_isFree 13 [some (eR 0), some (eI x), some (eI y)] [] ([eA 0 964 g], c)) rfl (wr_id (by omega) (by omega)) (show wr 0 = 0 by decide) (fun h10 => ?_) (fun h10 => ?_)
  · refine xRb (N := 2) (v := 0) (w2 := ([eA 0 964 g], c)) rfl (by decide) ?_
    first | exact lf (bT (by unfold opn; rw [hG]; exact decide_eq_true (by omega))) | exact lf (bF (by unfold opn; rw [hG]; exact decide_eq_false (by omega))) | exact lf (bF (by unfold opn; rw [inG_F (by have h9 := of_decide_eq_false (hq2.2.2.mp (by omega)); omega)]; rfl)) | exact lf (bF (by unfold opn; rw [inG_F (by have h9 := of_decide_eq_false (hq.2.2.mp (by omega)); omega)]; rfl))
  · have hx2 := of_decide_eq_true (hq.2.1.mp (by omega))
    refine xLd (N := 5) (n := 964) (i := 1) (F := fun zq => ev m_M_isFree 18 [some (eR 0), some (eI x), some (eI y)] [eI (g zq), eI 0, eI y] ([eA 0 964 g], c)) (k := 1) rfl (show wr 1 = ((1 : Nat) : Int) by decide) (by omega) ?_
    refine xCallI (N := 3) (v := bI (decide (0 ≤ y ∧ y ≤ (g 1) - 1))) (M2 := m_M_isFree) (pc2 := 20) (ls2 := [some (eR 0), some (eI x), some (eI y)]) (st2 := []) (y := m_M_isBetween) (as := [some (eI y), some (eI 0), some (eI ((g 1) - 1))]) (w2 := ([eA 0 964 g], c)) rfl (n_between (by omega) (by omega) (by omega)) (fun r20 hr20 => ?_)
    have hq2 := bI_1 hr20
    refine xEq (N := 1) (x := r20) (y := 0) (A := ev m_M_isFree 44 [some (eR 0), some (eI x), some (eI y)] [] ([eA 0 964 g], c)) (B := ev m_M_isFree 26 [some (eR 0), some (eI x), some (eI y)] [] ([eA 0 964 g], c)) rfl (wr_id (by omega) (by omega)) (show wr 0 = 0 by decide) (fun h23 => ?_) (fun h23 => ?_)
    · refine xRb (N := 2) (v := 0) (w2 := ([eA 0 964 g], c)) rfl (by decide) ?_
      first | exact lf (bT (by unfold opn; rw [hG]; exact decide_eq_true (by omega))) | exact lf (bF (by unfold opn; rw [hG]; exact decide_eq_false (by omega))) | exact lf (bF (by unfold opn; rw [inG_F (by have h9 := of_decide_eq_false (hq2.2.2.mp (by omega)); omega)]; rfl)) | exact lf (bF (by unfold opn; rw [inG_F (by have h9 := of_decide_eq_false (hq.2.2.mp (by omega)); omega)]; rfl))
    · have hy2 := of_decide_eq_true (hq2.2.1.mp (by omega))
      have hG : inG W H x y = true := inG_T (by omega)
      have e3 := (hB (y * 6 + x).toNat (by omega)).1
      have e4 := (hB (y * 6 + x).toNat (by omega)).2
      refine xCallI (N := 6) (v := 6 * y + x) (M2 := m_M_isFree) (pc2 := 32) (ls2 := [some (eR 0), some (eI x), some (eI y)]) (st2 := [eI 16, eR 0]) (y := m_M_cellOf) (as := [some (eR 0), some (eI x), some (eI y)]) (w2 := ([eA 0 964 g], c)) rfl n_cellOf (fun r32 hr32 => ?_)
      refine xLd (N := 2) (n := 964) (i := 16 + r32) (F := fun zq => ev m_M_isFree 37 [some (eR 0), some (eI x), some (eI y)] [eI (g zq)] ([eA 0 964 g], c)) (k := 16 + ((y * 6 + x).toNat)) rfl (wr_nat (by omega) (by omega)) (by omega) ?_
      refine xEq (N := 1) (x := g (16 + ((y * 6 + x).toNat))) (y := 0) (A := ev m_M_isFree 40 [some (eR 0), some (eI x), some (eI y)] [] ([eA 0 964 g], c)) (B := ev m_M_isFree 44 [some (eR 0), some (eI x), some (eI y)] [] ([eA 0 964 g], c)) rfl (wr_id (by omega) (by omega)) (show wr 0 = 0 by decide) (fun h37 => ?_) (fun h37 => ?_)
      · refine xRb (N := 3) (v := 1) (w2 := ([eA 0 964 g], c)) rfl (by decide) ?_
        first | exact lf (bT (by unfold opn; rw [hG]; exact decide_eq_true (by omega))) | exact lf (bF (by unfold opn; rw [hG]; exact decide_eq_false (by omega))) | exact lf (bF (by unfold opn; rw [inG_F (by have h9 := of_decide_eq_false (hq2.2.2.mp (by omega)); omega)]; rfl)) | exact lf (bF (by unfold opn; rw [inG_F (by have h9 := of_decide_eq_false (hq.2.2.mp (by omega)); omega)]; rfl))
      · refine xRb (N := 2) (v := 0) (w2 := ([eA 0 964 g], c)) rfl (by decide) ?_
        first | exact lf (bT (by unfold opn; rw [hG]; exact decide_eq_true (by omega))) | exact lf (bF (by unfold opn; rw [hG]; exact decide_eq_false (by omega))) | exact lf (bF (by unfold opn; rw [inG_F (by have h9 := of_decide_eq_false (hq2.2.2.mp (by omega)); omega)]; rfl)) | exact lf (bF (by unfold opn; rw [inG_F (by have h9 := of_decide_eq_false (hq.2.2.mp (by omega)); omega)]; rfl))
/-- the cells of the run are told -/
def base (d : Nat) : Nat := if d = 1 then 280 else 244
def runA (a : eRow) (d X Y p : Nat) : eRow := fun i => if base d ≤ i ∧ i < base d + 36 ∧ iru d X Y p (i - base d) = true then a 3 + 1 else a i
def slS (a : eRow) (d X Y L : Nat) : eRow := up (up (up (up (up (runA a d X Y L) (148 + 4 * a 3) X) (148 + 4 * a 3 + 1) Y) (148 + 4 * a 3 + 2) L) (148 + 4 * a 3 + 3) d) 3 (a 3 + 1)
def mkS (d : Nat) (a : eRow) (X Y : Nat) : eRow := bif begs (a 0) (a 1) (bl a) d X Y then slS a d X Y (rlen (a 0) (a 1) (bl a) d X Y) else a
theorem runA_lo {a : eRow} {d X Y p i : Nat} (h : i < 244) : runA a d X Y p i = a i := by
  unfold runA base
  rw [if_neg (by split <;> omega)]
theorem runA_0 {a : eRow} {d X Y : Nat} : runA a d X Y 0 = a := by
  funext i
  have h : iru d X Y 0 (i - base d) = false := by unfold iru; split <;> exact decide_eq_false (by omega)
  unfold runA
  rw [h, if_neg (fun e => by cases e.2.2)]
theorem runA_step {a : eRow} {d X Y p : Nat} (hd : d ≤ 1) (h6 : X + p * (1 - d) < 6) (hY : Y + p * d < 6) : up (runA a d X Y p) (base d + (6 * (Y + p * d) + (X + p * (1 - d)))) (a 3 + 1) = runA a d X Y (p + 1) := by
  funext i
  unfold up runA
  rcases Nat.lt_or_ge d 1 with hd0 | hd0
  · obtain rfl : d = 0 := by omega
    simp only [Nat.mul_zero, Nat.add_zero, Nat.sub_zero, Nat.mul_one] at h6 ⊢
    have hi : ∀ q e, iru 0 X Y q e = decide (e / 6 = Y ∧ X ≤ e % 6 ∧ e % 6 < X + q) := fun q e => rfl
    have hb : base 0 = 244 := rfl
    rw [hi, hi, hb]
    by_cases he : i = 244 + (6 * Y + (X + p))
    · rw [if_pos he, if_pos ⟨by omega, by omega, decide_eq_true (by omega)⟩]
    · rw [if_neg he]
      by_cases h : 244 ≤ i ∧ i < 244 + 36 ∧ decide ((i - 244) / 6 = Y ∧ X ≤ (i - 244) % 6 ∧ (i - 244) % 6 < X + p) = true
      · have h2 := of_decide_eq_true h.2.2
        rw [if_pos h, if_pos ⟨h.1, h.2.1, decide_eq_true (by omega)⟩]
      · rw [if_neg h, if_neg (fun e => by
          have h2 := of_decide_eq_true e.2.2
          exact h ⟨e.1, e.2.1, decide_eq_true (by omega)⟩)]
  · obtain rfl : d = 1 := by omega
    simp only [Nat.mul_one, Nat.sub_self, Nat.mul_zero, Nat.add_zero] at h6 hY ⊢
    have hi : ∀ q e, iru 1 X Y q e = decide (e % 6 = X ∧ Y ≤ e / 6 ∧ e / 6 < Y + q) := fun q e => rfl
    have hb : base 1 = 280 := rfl
    rw [hi, hi, hb]
    by_cases he : i = 280 + (6 * (Y + p) + X)
    · rw [if_pos he, if_pos ⟨by omega, by omega, decide_eq_true (by omega)⟩]
    · rw [if_neg he]
      by_cases h : 280 ≤ i ∧ i < 280 + 36 ∧ decide ((i - 280) % 6 = X ∧ Y ≤ (i - 280) / 6 ∧ (i - 280) / 6 < Y + p) = true
      · have h2 := of_decide_eq_true h.2.2
        rw [if_pos h, if_pos ⟨h.1, h.2.1, decide_eq_true (by omega)⟩]
      · rw [if_neg h, if_neg (fun e => by
          have h2 := of_decide_eq_true e.2.2
          exact h ⟨e.1, e.2.1, decide_eq_true (by omega)⟩)]
theorem up_rgi {g : Nat → Int} {a : eRow} {i v : Nat} {x : Int} (h : rg g a) (hx : x = (v : Int)) : rg (eUp g i x) (up a i v) := by
  subst hx
  exact up_rg h
theorem n_makeSlot0 {g : Nat → Int} {a : eRow} {c : Nat × Nat} {x y : Int} {X Y : Nat} (hg : rg g a) (hW : a 0 < 7) (hH : a 1 < 7) (hB : ∀ e, e < 36 → a (16 + e) ≤ 1) (hn : begs (a 0) (a 1) (bl a) 0 X Y = true → a 3 < 24) (hx : x = (X : Int)) (hy : y = (Y : Int)) (hX : X < 6) (hY : Y < 6) : ∃ g' : Nat → Int, rg g' (mkS 0 a X Y) ∧ ev m_M_makeSlot 0 [some (eR 0), some (eI x), some (eI y), some (eI 0)] [] ([eA 0 964 g], c) = some (.inl none, ([eA 0 964 g'], c)) := by
  obtain ⟨r1, r2, r3⟩ := rlen_spec (B := bl a) (d := 0) (X := X) (Y := Y) hW hH (by decide)
  have hlo : ∀ (p : Nat) (gp : Nat → Int), rg gp (runA a 0 X Y p) → gp 0 = (a 0 : Int) ∧ gp 1 = (a 1 : Int) ∧ gp 3 = (a 3 : Int) ∧ ∀ e, e < 36 → gp (16 + e) = (bl a e : Int) ∧ bl a e ≤ 1 := fun p gp h => ⟨by rw [h 0 (by omega), runA_lo (by omega)], by rw [h 1 (by omega), runA_lo (by omega)], by rw [h 3 (by omega), runA_lo (by omega)], fun e he => ⟨by rw [h (16 + e) (by omega), runA_lo (by omega)]; rfl, hB e he⟩⟩
  have hl : begs (a 0) (a 1) (bl a) 0 X Y = true → ∀ u : Int, u = ((148 + 4 * a 3 : Nat) : Int) → ∀ p : Nat, p ≤ rlen (a 0) (a 1) (bl a) 0 X Y → ∀ (gp : Nat → Int) (z : Int), rg gp (runA a 0 X Y p) → z = (p : Int) → ∃ g' : Nat → Int, rg g' (slS a 0 X Y (rlen (a 0) (a 1) (bl a) 0 X Y)) ∧ ev m_M_makeSlot 54 [some (eR 0), some (eI x), some (eI y), some (eI 0), some (eI 1), some (eI u), some (eI z)] [] ([eA 0 964 gp], c) = some (.inl none, ([eA 0 964 g'], c)) := by
    intro hbg u hu
    have hn24 := hn hbg
    generalize hL : rlen (a 0) (a 1) (bl a) 0 X Y = L at r1 r2 r3
    refine loop_up ?_ ?_
    · intro gp z hgp hz
      obtain ⟨l0, l1, l3, lB⟩ := hlo L gp hgp
      refine ⟨eUp (eUp (eUp (eUp (eUp gp (148 + 4 * a 3 + 0) x) (148 + 4 * a 3 + 1) y) (148 + 4 * a 3 + 2) z) (148 + 4 * a 3 + 3) 0) 3 (gp 3 + 1), ?_, ?_⟩
      · exact up_rgi (up_rgi (up_rgi (up_rgi (up_rgi hgp hx) hy) hz) rfl) (by omega)
      · have h3a : eUp (eUp (eUp (eUp gp (148 + 4 * a 3 + 0) x) (148 + 4 * a 3 + 1) y) (148 + 4 * a 3 + 2) z) (148 + 4 * a 3 + 3) 0 3 = gp 3 := by rw [eUp_ne (by omega), eUp_ne (by omega), eUp_ne (by omega), eUp_ne (by omega)]
        refine xCallI (N := 12) (v := bI (runq (a 0) (a 1) (bl a) 0 X Y L)) (M2 := m_M_makeSlot) (pc2 := 68) (ls2 := [some (eR 0), some (eI x), some (eI y), some (eI 0), some (eI 1), some (eI u), some (eI z)]) (st2 := []) (y := m_M_isFree) (as := [some (eR 0), some (eI (x + (z * 1))), some (eI (y + (z * 0)))]) (w2 := ([eA 0 964 gp], c)) rfl (n_isFree2 (x' := ((X + L * (1 - 0) : Nat) : Int)) (y' := ((Y + L * 0 : Nat) : Int)) l0 l1 hW hH lB (by omega) (by omega) (by omega) (by omega)) (fun r68 hr68 => ?_)
        have hq0 := (bI_1 hr68).2.2.mpr r3
        refine xEqT (N := 1) (x := r68) (y := 0) (A := ev m_M_makeSlot 119 [some (eR 0), some (eI x), some (eI y), some (eI 0), some (eI 1), some (eI u), some (eI z)] [] ([eA 0 964 gp], c)) (B := ev m_M_makeSlot 74 [some (eR 0), some (eI x), some (eI y), some (eI 0), some (eI 1), some (eI u), some (eI z)] [] ([eA 0 964 gp], c)) rfl (wr_id (by omega) (by omega)) (show wr 0 = 0 by decide) (by omega) ?_
        refine xLd (N := 6) (n := 964) (i := u + 0) (F := fun zq => ev m_M_makeSlot 126 [some (eR 0), some (eI x), some (eI y), some (eI 0), some (eI 1), some (eI u), some (eI z)] [] ([eA 0 964 (eUp gp zq x)], c)) (k := (148 + 4 * a 3) + 0) rfl (wr_nat (by omega) (by omega)) (by omega) ?_
        refine xLd (N := 6) (n := 964) (i := u + 1) (F := fun zq => ev m_M_makeSlot 133 [some (eR 0), some (eI x), some (eI y), some (eI 0), some (eI 1), some (eI u), some (eI z)] [] ([eA 0 964 (eUp (eUp gp ((148 + 4 * a 3) + 0) x) zq y)], c)) (k := (148 + 4 * a 3) + 1) rfl (wr_nat (by omega) (by omega)) (by omega) ?_
        refine xLd (N := 6) (n := 964) (i := u + 2) (F := fun zq => ev m_M_makeSlot 141 [some (eR 0), some (eI x), some (eI y), some (eI 0), some (eI 1), some (eI u), some (eI z)] [] ([eA 0 964 (eUp (eUp (eUp gp ((148 + 4 * a 3) + 0) x) ((148 + 4 * a 3) + 1) y) zq z)], c)) (k := (148 + 4 * a 3) + 2) rfl (wr_nat (by omega) (by omega)) (by omega) ?_
        refine xLd (N := 6) (n := 964) (i := u + 3) (F := fun zq => ev m_M_makeSlot 148 [some (eR 0), some (eI x), some (eI y), some (eI 0), some (eI 1), some (eI u), some (eI z)] [] ([eA 0 964 (eUp (eUp (eUp (eUp gp ((148 + 4 * a 3) + 0) x) ((148 + 4 * a 3) + 1) y) ((148 + 4 * a 3) + 2) z) zq 0)], c)) (k := (148 + 4 * a 3) + 3) rfl (wr_nat (by omega) (by omega)) (by omega) ?_
        refine xLd (N := 4) (n := 964) (i := 3) (F := fun zq => ev m_M_makeSlot 152 [some (eR 0), some (eI x), some (eI y), some (eI 0), some (eI 1), some (eI u), some (eI z)] [eI ((eUp (eUp (eUp (eUp gp ((148 + 4 * a 3) + 0) x) ((148 + 4 * a 3) + 1) y) ((148 + 4 * a 3) + 2) z) ((148 + 4 * a 3) + 3) 0) zq), eI 3, eR 0] ([eA 0 964 (eUp (eUp (eUp (eUp gp ((148 + 4 * a 3) + 0) x) ((148 + 4 * a 3) + 1) y) ((148 + 4 * a 3) + 2) z) ((148 + 4 * a 3) + 3) 0)], c)) (k := 3) rfl (show wr 3 = ((3 : Nat) : Int) by decide) (by omega) ?_
        refine xLd (N := 3) (n := 964) (i := 3) (F := fun zq => ev m_M_makeSlot 155 [some (eR 0), some (eI x), some (eI y), some (eI 0), some (eI 1), some (eI u), some (eI z)] [] ([eA 0 964 (eUp (eUp (eUp (eUp (eUp gp ((148 + 4 * a 3) + 0) x) ((148 + 4 * a 3) + 1) y) ((148 + 4 * a 3) + 2) z) ((148 + 4 * a 3) + 3) 0) zq (((eUp (eUp (eUp (eUp gp ((148 + 4 * a 3) + 0) x) ((148 + 4 * a 3) + 1) y) ((148 + 4 * a 3) + 2) z) ((148 + 4 * a 3) + 3) 0) 3) + 1))], c)) (k := 3) rfl (show wr 3 = ((3 : Nat) : Int) by decide) (by omega) ?_
        refine xSeg (N := 1) (r := some (.inl none, ([eA 0 964 (eUp (eUp (eUp (eUp (eUp gp ((148 + 4 * a 3) + 0) x) ((148 + 4 * a 3) + 1) y) ((148 + 4 * a 3) + 2) z) ((148 + 4 * a 3) + 3) 0) 3 (((eUp (eUp (eUp (eUp gp ((148 + 4 * a 3) + 0) x) ((148 + 4 * a 3) + 1) y) ((148 + 4 * a 3) + 2) z) ((148 + 4 * a 3) + 3) 0) 3) + 1))], c))) rfl ?_
        rw [h3a]
    · intro p hp ih gp z hgp hz
      obtain ⟨l0, l1, l3, lB⟩ := hlo p gp hgp
      have hrq := r2 p hp
      have hin := opn_in hrq
      have hnx : ∀ v : Int, v = ((a 3 + 1 : Nat) : Int) → rg (eUp gp (244 + (6 * (Y + p * 0) + (X + p * (1 - 0)))) v) (runA a 0 X Y (p + 1)) := fun v hv => by
        rw [← runA_step (a := a) (d := 0) (X := X) (Y := Y) (p := p) (by decide) (by omega) (by omega)]
        exact up_rgi hgp hv
      obtain ⟨g', w1, w2⟩ := ih (eUp gp (244 + (6 * (Y + p * 0) + (X + p * (1 - 0)))) (gp 3 + 1)) (z + 1) (hnx _ (by omega)) (by omega)
      refine ⟨g', w1, ?_⟩
      refine xCallI (N := 12) (v := bI (runq (a 0) (a 1) (bl a) 0 X Y p)) (M2 := m_M_makeSlot) (pc2 := 68) (ls2 := [some (eR 0), some (eI x), some (eI y), some (eI 0), some (eI 1), some (eI u), some (eI z)]) (st2 := []) (y := m_M_isFree) (as := [some (eR 0), some (eI (x + (z * 1))), some (eI (y + (z * 0)))]) (w2 := ([eA 0 964 gp], c)) rfl (n_isFree2 (x' := ((X + p * (1 - 0) : Nat) : Int)) (y' := ((Y + p * 0 : Nat) : Int)) l0 l1 hW hH lB (by omega) (by omega) (by omega) (by omega)) (fun r68 hr68 => ?_)
      have hq1 := (bI_1 hr68).2.1.mpr hrq
      refine xEqF (N := 1) (x := r68) (y := 0) (A := ev m_M_makeSlot 119 [some (eR 0), some (eI x), some (eI y), some (eI 0), some (eI 1), some (eI u), some (eI z)] [] ([eA 0 964 gp], c)) (B := ev m_M_makeSlot 74 [some (eR 0), some (eI x), some (eI y), some (eI 0), some (eI 1), some (eI u), some (eI z)] [] ([eA 0 964 gp], c)) rfl (wr_id (by omega) (by omega)) (show wr 0 = 0 by decide) (by omega) ?_
      refine xEqF (N := 4) (x := 0) (y := 1) (A := ev m_M_makeSlot 80 [some (eR 0), some (eI x), some (eI y), some (eI 0), some (eI 1), some (eI u), some (eI z)] [eR 0] ([eA 0 964 gp], c)) (B := ev m_M_makeSlot 86 [some (eR 0), some (eI x), some (eI y), some (eI 0), some (eI 1), some (eI u), some (eI z)] [eR 0] ([eA 0 964 gp], c)) rfl (show wr 0 = 0 by decide) (show wr 1 = 1 by decide) (by decide) ?_
      refine xCallI (N := 13) (v := 6 * (y + (z * 0)) + (x + (z * 1))) (M2 := m_M_makeSlot) (pc2 := 103) (ls2 := [some (eR 0), some (eI x), some (eI y), some (eI 0), some (eI 1), some (eI u), some (eI z)]) (st2 := [eI 244, eR 0]) (y := m_M_cellOf) (as := [some (eR 0), some (eI (x + (z * 1))), some (eI (y + (z * 0)))]) (w2 := ([eA 0 964 gp], c)) rfl n_cellOf (fun r103 hr103 => ?_)
      refine xLd (N := 4) (n := 964) (i := 3) (F := fun zq => ev m_M_makeSlot 110 [some (eR 0), some (eI x), some (eI y), some (eI 0), some (eI 1), some (eI u), some (eI z)] [eI (gp zq), eI (244 + r103), eR 0] ([eA 0 964 gp], c)) (k := 3) rfl (show wr 3 = ((3 : Nat) : Int) by decide) (by omega) ?_
      refine xLd (N := 3) (n := 964) (i := 244 + r103) (F := fun zq => ev m_M_makeSlot 113 [some (eR 0), some (eI x), some (eI y), some (eI 0), some (eI 1), some (eI u), some (eI z)] [] ([eA 0 964 (eUp gp zq ((gp 3) + 1))], c)) (k := 244 + (6 * (Y + p * 0) + (X + p * (1 - 0)))) rfl (wr_nat (by omega) (by omega)) (by omega) ?_
      refine xSeg (N := 2) (r := ev m_M_makeSlot 54 [some (eR 0), some (eI x), some (eI y), some (eI 0), some (eI 1), some (eI u), some (eI (z + 1))] [] ([eA 0 964 (eUp gp (244 + (6 * (Y + p * 0) + (X + p * (1 - 0)))) ((gp 3) + 1))], c)) rfl ?_
      exact w2
  obtain ⟨l0, l1, l3, lB⟩ := hlo 0 g (by rw [runA_0]; exact hg)
  cases hbg : begs (a 0) (a 1) (bl a) 0 X Y with
  | true =>
    have hn24 := hn hbg
    have hb := hbg
    unfold begs at hb
    simp only [Bool.and_eq_true, Bool.not_eq_true'] at hb
    obtain ⟨g', w1, w2⟩ := hl hbg ((148 : Int) + 4 * g 3) (by rw [l3]; omega) 0 (Nat.zero_le _) g 0 (by rw [runA_0]; exact hg) rfl
    refine ⟨g', by unfold mkS; rw [hbg]; exact w1, ?_⟩
    refine xCallI (N := 8) (v := bI (opn (a 0) (a 1) (bl a) (X : Int) (Y : Int))) (M2 := m_M_makeSlot) (pc2 := 8) (ls2 := [some (eR 0), some (eI x), some (eI y), some (eI 0), some (eI 1)]) (st2 := []) (y := m_M_isFree) (as := [some (eR 0), some (eI x), some (eI y)]) (w2 := ([eA 0 964 g], c)) rfl (n_isFree2 l0 l1 hW hH lB hx hy (by omega) (by omega)) (fun r8 hr8 => ?_)
    have hq1 := (bI_1 hr8).2.1.mpr hb.1
    refine xEqF (N := 1) (x := r8) (y := 0) (A := ev m_M_makeSlot 42 [some (eR 0), some (eI x), some (eI y), some (eI 0), some (eI 1)] [] ([eA 0 964 g], c)) (B := ev m_M_makeSlot 14 [some (eR 0), some (eI x), some (eI y), some (eI 0), some (eI 1)] [] ([eA 0 964 g], c)) rfl (wr_id (by omega) (by omega)) (show wr 0 = 0 by decide) (by omega) ?_
    refine xCallI (N := 8) (v := bI (opn (a 0) (a 1) (bl a) ((X : Int) - ((1 - 0 : Nat) : Int)) ((Y : Int) - ((0 : Nat) : Int)))) (M2 := m_M_makeSlot) (pc2 := 22) (ls2 := [some (eR 0), some (eI x), some (eI y), some (eI 0), some (eI 1)]) (st2 := []) (y := m_M_isFree) (as := [some (eR 0), some (eI (x - 1)), some (eI (y - 0))]) (w2 := ([eA 0 964 g], c)) rfl (n_isFree2 (x' := (X : Int) - ((1 - 0 : Nat) : Int)) (y' := (Y : Int) - ((0 : Nat) : Int)) l0 l1 hW hH lB (by omega) (by omega) (by omega) (by omega)) (fun r22 hr22 => ?_)
    have hq2 := (bI_1 hr22).2.2.mpr hb.2.1
    refine xEqT (N := 1) (x := r22) (y := 0) (A := ev m_M_makeSlot 28 [some (eR 0), some (eI x), some (eI y), some (eI 0), some (eI 1)] [] ([eA 0 964 g], c)) (B := ev m_M_makeSlot 42 [some (eR 0), some (eI x), some (eI y), some (eI 0), some (eI 1)] [] ([eA 0 964 g], c)) rfl (wr_id (by omega) (by omega)) (show wr 0 = 0 by decide) (by omega) ?_
    refine xCallI (N := 8) (v := bI (opn (a 0) (a 1) (bl a) ((X : Int) + ((1 - 0 : Nat) : Int)) ((Y : Int) + ((0 : Nat) : Int)))) (M2 := m_M_makeSlot) (pc2 := 36) (ls2 := [some (eR 0), some (eI x), some (eI y), some (eI 0), some (eI 1)]) (st2 := []) (y := m_M_isFree) (as := [some (eR 0), some (eI (x + 1)), some (eI (y + 0))]) (w2 := ([eA 0 964 g], c)) rfl (n_isFree2 (x' := (X : Int) + ((1 - 0 : Nat) : Int)) (y' := (Y : Int) + ((0 : Nat) : Int)) l0 l1 hW hH lB (by omega) (by omega) (by omega) (by omega)) (fun r36 hr36 => ?_)
    have hq3 := (bI_1 hr36).2.1.mpr hb.2.2
    refine xEqF (N := 1) (x := r36) (y := 0) (A := ev m_M_makeSlot 42 [some (eR 0), some (eI x), some (eI y), some (eI 0), some (eI 1)] [] ([eA 0 964 g], c)) (B := ev m_M_makeSlot 43 [some (eR 0), some (eI x), some (eI y), some (eI 0), some (eI 1)] [] ([eA 0 964 g], c)) rfl (wr_id (by omega) (by omega)) (show wr 0 = 0 by decide) (by omega) ?_
    refine xLd (N := 3) (n := 964) (i := 3) (F := fun zq => ev m_M_makeSlot 46 [some (eR 0), some (eI x), some (eI y), some (eI 0), some (eI 1)] [eI (g zq)] ([eA 0 964 g], c)) (k := 3) rfl (show wr 3 = ((3 : Nat) : Int) by decide) (by omega) ?_
    refine xCallI (N := 1) (v := 148 + 4 * (g 3)) (M2 := m_M_makeSlot) (pc2 := 46) (ls2 := [some (eR 0), some (eI x), some (eI y), some (eI 0), some (eI 1)]) (st2 := []) (y := m_M_ofSlot) (as := [some (eI (g 3))]) (w2 := ([eA 0 964 g], c)) rfl n_ofSlot (fun r46 hr46 => ?_)
    refine xSeg (N := 3) (r := ev m_M_makeSlot 54 [some (eR 0), some (eI x), some (eI y), some (eI 0), some (eI 1), some (eI r46), some (eI 0)] [] ([eA 0 964 g], c)) rfl ?_
    rw [hr46]
    exact w2
  | false =>
    refine ⟨g, by unfold mkS; rw [hbg]; exact hg, ?_⟩
    have hb := hbg
    unfold begs at hb
    refine xCallI (N := 8) (v := bI (opn (a 0) (a 1) (bl a) (X : Int) (Y : Int))) (M2 := m_M_makeSlot) (pc2 := 8) (ls2 := [some (eR 0), some (eI x), some (eI y), some (eI 0), some (eI 1)]) (st2 := []) (y := m_M_isFree) (as := [some (eR 0), some (eI x), some (eI y)]) (w2 := ([eA 0 964 g], c)) rfl (n_isFree2 l0 l1 hW hH lB hx hy (by omega) (by omega)) (fun r8 hr8 => ?_)
    have hq1 := bI_1 hr8
    refine xEq (N := 1) (x := r8) (y := 0) (A := ev m_M_makeSlot 42 [some (eR 0), some (eI x), some (eI y), some (eI 0), some (eI 1)] [] ([eA 0 964 g], c)) (B := ev m_M_makeSlot 14 [some (eR 0), some (eI x), some (eI y), some (eI 0), some (eI 1)] [] ([eA 0 964 g], c)) rfl (wr_id (by omega) (by omega)) (show wr 0 = 0 by decide) (fun h11 => ?_) (fun h11 => ?_)
    · refine xSeg (N := 1) (r := some (.inl none, ([eA 0 964 g], c))) rfl ?_
      rfl
    · refine xCallI (N := 8) (v := bI (opn (a 0) (a 1) (bl a) ((X : Int) - ((1 - 0 : Nat) : Int)) ((Y : Int) - ((0 : Nat) : Int)))) (M2 := m_M_makeSlot) (pc2 := 22) (ls2 := [some (eR 0), some (eI x), some (eI y), some (eI 0), some (eI 1)]) (st2 := []) (y := m_M_isFree) (as := [some (eR 0), some (eI (x - 1)), some (eI (y - 0))]) (w2 := ([eA 0 964 g], c)) rfl (n_isFree2 (x' := (X : Int) - ((1 - 0 : Nat) : Int)) (y' := (Y : Int) - ((0 : Nat) : Int)) l0 l1 hW hH lB (by omega) (by omega) (by omega) (by omega)) (fun r22 hr22 => ?_)
      have hq2 := bI_1 hr22
      refine xEq (N := 1) (x := r22) (y := 0) (A := ev m_M_makeSlot 28 [some (eR 0), some (eI x), some (eI y), some (eI 0), some (eI 1)] [] ([eA 0 964 g], c)) (B := ev m_M_makeSlot 42 [some (eR 0), some (eI x), some (eI y), some (eI 0), some (eI 1)] [] ([eA 0 964 g], c)) rfl (wr_id (by omega) (by omega)) (show wr 0 = 0 by decide) (fun h25 => ?_) (fun h25 => ?_)
      · refine xCallI (N := 8) (v := bI (opn (a 0) (a 1) (bl a) ((X : Int) + ((1 - 0 : Nat) : Int)) ((Y : Int) + ((0 : Nat) : Int)))) (M2 := m_M_makeSlot) (pc2 := 36) (ls2 := [some (eR 0), some (eI x), some (eI y), some (eI 0), some (eI 1)]) (st2 := []) (y := m_M_isFree) (as := [some (eR 0), some (eI (x + 1)), some (eI (y + 0))]) (w2 := ([eA 0 964 g], c)) rfl (n_isFree2 (x' := (X : Int) + ((1 - 0 : Nat) : Int)) (y' := (Y : Int) + ((0 : Nat) : Int)) l0 l1 hW hH lB (by omega) (by omega) (by omega) (by omega)) (fun r36 hr36 => ?_)
        have hq3 := bI_1 hr36
        refine xEq (N := 1) (x := r36) (y := 0) (A := ev m_M_makeSlot 42 [some (eR 0), some (eI x), some (eI y), some (eI 0), some (eI 1)] [] ([eA 0 964 g], c)) (B := ev m_M_makeSlot 43 [some (eR 0), some (eI x), some (eI y), some (eI 0), some (eI 1)] [] ([eA 0 964 g], c)) rfl (wr_id (by omega) (by omega)) (show wr 0 = 0 by decide) (fun h39 => ?_) (fun h39 => ?_)
        · refine xSeg (N := 1) (r := some (.inl none, ([eA 0 964 g], c))) rfl ?_
          rfl
        · exfalso
          rw [hq1.2.1.mp (by omega), hq2.2.2.mp (by omega), hq3.2.1.mp (by omega)] at hb
          cases hb
      · refine xSeg (N := 1) (r := some (.inl none, ([eA 0 964 g], c))) rfl ?_
        rfl
theorem n_makeSlot1 {g : Nat → Int} {a : eRow} {c : Nat × Nat} {x y : Int} {X Y : Nat} (hg : rg g a) (hW : a 0 < 7) (hH : a 1 < 7) (hB : ∀ e, e < 36 → a (16 + e) ≤ 1) (hn : begs (a 0) (a 1) (bl a) 1 X Y = true → a 3 < 24) (hx : x = (X : Int)) (hy : y = (Y : Int)) (hX : X < 6) (hY : Y < 6) : ∃ g' : Nat → Int, rg g' (mkS 1 a X Y) ∧ ev m_M_makeSlot 0 [some (eR 0), some (eI x), some (eI y), some (eI 1)] [] ([eA 0 964 g], c) = some (.inl none, ([eA 0 964 g'], c)) := by
  obtain ⟨r1, r2, r3⟩ := rlen_spec (B := bl a) (d := 1) (X := X) (Y := Y) hW hH (by decide)
  have hlo : ∀ (p : Nat) (gp : Nat → Int), rg gp (runA a 1 X Y p) → gp 0 = (a 0 : Int) ∧ gp 1 = (a 1 : Int) ∧ gp 3 = (a 3 : Int) ∧ ∀ e, e < 36 → gp (16 + e) = (bl a e : Int) ∧ bl a e ≤ 1 := fun p gp h => ⟨by rw [h 0 (by omega), runA_lo (by omega)], by rw [h 1 (by omega), runA_lo (by omega)], by rw [h 3 (by omega), runA_lo (by omega)], fun e he => ⟨by rw [h (16 + e) (by omega), runA_lo (by omega)]; rfl, hB e he⟩⟩
  have hl : begs (a 0) (a 1) (bl a) 1 X Y = true → ∀ u : Int, u = ((148 + 4 * a 3 : Nat) : Int) → ∀ p : Nat, p ≤ rlen (a 0) (a 1) (bl a) 1 X Y → ∀ (gp : Nat → Int) (z : Int), rg gp (runA a 1 X Y p) → z = (p : Int) → ∃ g' : Nat → Int, rg g' (slS a 1 X Y (rlen (a 0) (a 1) (bl a) 1 X Y)) ∧ ev m_M_makeSlot 54 [some (eR 0), some (eI x), some (eI y), some (eI 1), some (eI 0), some (eI u), some (eI z)] [] ([eA 0 964 gp], c) = some (.inl none, ([eA 0 964 g'], c)) := by
    intro hbg u hu
    have hn24 := hn hbg
    generalize hL : rlen (a 0) (a 1) (bl a) 1 X Y = L at r1 r2 r3
    refine loop_up ?_ ?_
    · intro gp z hgp hz
      obtain ⟨l0, l1, l3, lB⟩ := hlo L gp hgp
      refine ⟨eUp (eUp (eUp (eUp (eUp gp (148 + 4 * a 3 + 0) x) (148 + 4 * a 3 + 1) y) (148 + 4 * a 3 + 2) z) (148 + 4 * a 3 + 3) 1) 3 (gp 3 + 1), ?_, ?_⟩
      · exact up_rgi (up_rgi (up_rgi (up_rgi (up_rgi hgp hx) hy) hz) rfl) (by omega)
      · have h3a : eUp (eUp (eUp (eUp gp (148 + 4 * a 3 + 0) x) (148 + 4 * a 3 + 1) y) (148 + 4 * a 3 + 2) z) (148 + 4 * a 3 + 3) 1 3 = gp 3 := by rw [eUp_ne (by omega), eUp_ne (by omega), eUp_ne (by omega), eUp_ne (by omega)]
        refine xCallI (N := 12) (v := bI (runq (a 0) (a 1) (bl a) 1 X Y L)) (M2 := m_M_makeSlot) (pc2 := 68) (ls2 := [some (eR 0), some (eI x), some (eI y), some (eI 1), some (eI 0), some (eI u), some (eI z)]) (st2 := []) (y := m_M_isFree) (as := [some (eR 0), some (eI (x + (z * 0))), some (eI (y + (z * 1)))]) (w2 := ([eA 0 964 gp], c)) rfl (n_isFree2 (x' := ((X + L * (1 - 1) : Nat) : Int)) (y' := ((Y + L * 1 : Nat) : Int)) l0 l1 hW hH lB (by omega) (by omega) (by omega) (by omega)) (fun r68 hr68 => ?_)
        have hq0 := (bI_1 hr68).2.2.mpr r3
        refine xEqT (N := 1) (x := r68) (y := 0) (A := ev m_M_makeSlot 119 [some (eR 0), some (eI x), some (eI y), some (eI 1), some (eI 0), some (eI u), some (eI z)] [] ([eA 0 964 gp], c)) (B := ev m_M_makeSlot 74 [some (eR 0), some (eI x), some (eI y), some (eI 1), some (eI 0), some (eI u), some (eI z)] [] ([eA 0 964 gp], c)) rfl (wr_id (by omega) (by omega)) (show wr 0 = 0 by decide) (by omega) ?_
        refine xLd (N := 6) (n := 964) (i := u + 0) (F := fun zq => ev m_M_makeSlot 126 [some (eR 0), some (eI x), some (eI y), some (eI 1), some (eI 0), some (eI u), some (eI z)] [] ([eA 0 964 (eUp gp zq x)], c)) (k := (148 + 4 * a 3) + 0) rfl (wr_nat (by omega) (by omega)) (by omega) ?_
        refine xLd (N := 6) (n := 964) (i := u + 1) (F := fun zq => ev m_M_makeSlot 133 [some (eR 0), some (eI x), some (eI y), some (eI 1), some (eI 0), some (eI u), some (eI z)] [] ([eA 0 964 (eUp (eUp gp ((148 + 4 * a 3) + 0) x) zq y)], c)) (k := (148 + 4 * a 3) + 1) rfl (wr_nat (by omega) (by omega)) (by omega) ?_
        refine xLd (N := 6) (n := 964) (i := u + 2) (F := fun zq => ev m_M_makeSlot 141 [some (eR 0), some (eI x), some (eI y), some (eI 1), some (eI 0), some (eI u), some (eI z)] [] ([eA 0 964 (eUp (eUp (eUp gp ((148 + 4 * a 3) + 0) x) ((148 + 4 * a 3) + 1) y) zq z)], c)) (k := (148 + 4 * a 3) + 2) rfl (wr_nat (by omega) (by omega)) (by omega) ?_
        refine xLd (N := 6) (n := 964) (i := u + 3) (F := fun zq => ev m_M_makeSlot 148 [some (eR 0), some (eI x), some (eI y), some (eI 1), some (eI 0), some (eI u), some (eI z)] [] ([eA 0 964 (eUp (eUp (eUp (eUp gp ((148 + 4 * a 3) + 0) x) ((148 + 4 * a 3) + 1) y) ((148 + 4 * a 3) + 2) z) zq 1)], c)) (k := (148 + 4 * a 3) + 3) rfl (wr_nat (by omega) (by omega)) (by omega) ?_
        refine xLd (N := 4) (n := 964) (i := 3) (F := fun zq => ev m_M_makeSlot 152 [some (eR 0), some (eI x), some (eI y), some (eI 1), some (eI 0), some (eI u), some (eI z)] [eI ((eUp (eUp (eUp (eUp gp ((148 + 4 * a 3) + 0) x) ((148 + 4 * a 3) + 1) y) ((148 + 4 * a 3) + 2) z) ((148 + 4 * a 3) + 3) 1) zq), eI 3, eR 0] ([eA 0 964 (eUp (eUp (eUp (eUp gp ((148 + 4 * a 3) + 0) x) ((148 + 4 * a 3) + 1) y) ((148 + 4 * a 3) + 2) z) ((148 + 4 * a 3) + 3) 1)], c)) (k := 3) rfl (show wr 3 = ((3 : Nat) : Int) by decide) (by omega) ?_
        refine xLd (N := 3) (n := 964) (i := 3) (F := fun zq => ev m_M_makeSlot 155 [some (eR 0), some (eI x), some (eI y), some (eI 1), some (eI 0), some (eI u), some (eI z)] [] ([eA 0 964 (eUp (eUp (eUp (eUp (eUp gp ((148 + 4 * a 3) + 0) x) ((148 + 4 * a 3) + 1) y) ((148 + 4 * a 3) + 2) z) ((148 + 4 * a 3) + 3) 1) zq (((eUp (eUp (eUp (eUp gp ((148 + 4 * a 3) + 0) x) ((148 + 4 * a 3) + 1) y) ((148 + 4 * a 3) + 2) z) ((148 + 4 * a 3) + 3) 1) 3) + 1))], c)) (k := 3) rfl (show wr 3 = ((3 : Nat) : Int) by decide) (by omega) ?_
        refine xSeg (N := 1) (r := some (.inl none, ([eA 0 964 (eUp (eUp (eUp (eUp (eUp gp ((148 + 4 * a 3) + 0) x) ((148 + 4 * a 3) + 1) y) ((148 + 4 * a 3) + 2) z) ((148 + 4 * a 3) + 3) 1) 3 (((eUp (eUp (eUp (eUp gp ((148 + 4 * a 3) + 0) x) ((148 + 4 * a 3) + 1) y) ((148 + 4 * a 3) + 2) z) ((148 + 4 * a 3) + 3) 1) 3) + 1))], c))) rfl ?_
        rw [h3a]
    · intro p hp ih gp z hgp hz
      obtain ⟨l0, l1, l3, lB⟩ := hlo p gp hgp
      have hrq := r2 p hp
      have hin := opn_in hrq
      have hnx : ∀ v : Int, v = ((a 3 + 1 : Nat) : Int) → rg (eUp gp (280 + (6 * (Y + p * 1) + (X + p * (1 - 1)))) v) (runA a 1 X Y (p + 1)) := fun v hv => by
        rw [← runA_step (a := a) (d := 1) (X := X) (Y := Y) (p := p) (by decide) (by omega) (by omega)]
        exact up_rgi hgp hv
      obtain ⟨g', w1, w2⟩ := ih (eUp gp (280 + (6 * (Y + p * 1) + (X + p * (1 - 1)))) (gp 3 + 1)) (z + 1) (hnx _ (by omega)) (by omega)
      refine ⟨g', w1, ?_⟩
      refine xCallI (N := 12) (v := bI (runq (a 0) (a 1) (bl a) 1 X Y p)) (M2 := m_M_makeSlot) (pc2 := 68) (ls2 := [some (eR 0), some (eI x), some (eI y), some (eI 1), some (eI 0), some (eI u), some (eI z)]) (st2 := []) (y := m_M_isFree) (as := [some (eR 0), some (eI (x + (z * 0))), some (eI (y + (z * 1)))]) (w2 := ([eA 0 964 gp], c)) rfl (n_isFree2 (x' := ((X + p * (1 - 1) : Nat) : Int)) (y' := ((Y + p * 1 : Nat) : Int)) l0 l1 hW hH lB (by omega) (by omega) (by omega) (by omega)) (fun r68 hr68 => ?_)
      have hq1 := (bI_1 hr68).2.1.mpr hrq
      refine xEqF (N := 1) (x := r68) (y := 0) (A := ev m_M_makeSlot 119 [some (eR 0), some (eI x), some (eI y), some (eI 1), some (eI 0), some (eI u), some (eI z)] [] ([eA 0 964 gp], c)) (B := ev m_M_makeSlot 74 [some (eR 0), some (eI x), some (eI y), some (eI 1), some (eI 0), some (eI u), some (eI z)] [] ([eA 0 964 gp], c)) rfl (wr_id (by omega) (by omega)) (show wr 0 = 0 by decide) (by omega) ?_
      refine xEqT (N := 4) (x := 1) (y := 1) (A := ev m_M_makeSlot 80 [some (eR 0), some (eI x), some (eI y), some (eI 1), some (eI 0), some (eI u), some (eI z)] [eR 0] ([eA 0 964 gp], c)) (B := ev m_M_makeSlot 86 [some (eR 0), some (eI x), some (eI y), some (eI 1), some (eI 0), some (eI u), some (eI z)] [eR 0] ([eA 0 964 gp], c)) rfl (show wr 1 = 1 by decide) (show wr 1 = 1 by decide) (by decide) ?_
      refine xCallI (N := 14) (v := 6 * (y + (z * 1)) + (x + (z * 0))) (M2 := m_M_makeSlot) (pc2 := 103) (ls2 := [some (eR 0), some (eI x), some (eI y), some (eI 1), some (eI 0), some (eI u), some (eI z)]) (st2 := [eI 280, eR 0]) (y := m_M_cellOf) (as := [some (eR 0), some (eI (x + (z * 0))), some (eI (y + (z * 1)))]) (w2 := ([eA 0 964 gp], c)) rfl n_cellOf (fun r103 hr103 => ?_)
      refine xLd (N := 4) (n := 964) (i := 3) (F := fun zq => ev m_M_makeSlot 110 [some (eR 0), some (eI x), some (eI y), some (eI 1), some (eI 0), some (eI u), some (eI z)] [eI (gp zq), eI (280 + r103), eR 0] ([eA 0 964 gp], c)) (k := 3) rfl (show wr 3 = ((3 : Nat) : Int) by decide) (by omega) ?_
      refine xLd (N := 3) (n := 964) (i := 280 + r103) (F := fun zq => ev m_M_makeSlot 113 [some (eR 0), some (eI x), some (eI y), some (eI 1), some (eI 0), some (eI u), some (eI z)] [] ([eA 0 964 (eUp gp zq ((gp 3) + 1))], c)) (k := 280 + (6 * (Y + p * 1) + (X + p * (1 - 1)))) rfl (wr_nat (by omega) (by omega)) (by omega) ?_
      refine xSeg (N := 2) (r := ev m_M_makeSlot 54 [some (eR 0), some (eI x), some (eI y), some (eI 1), some (eI 0), some (eI u), some (eI (z + 1))] [] ([eA 0 964 (eUp gp (280 + (6 * (Y + p * 1) + (X + p * (1 - 1)))) ((gp 3) + 1))], c)) rfl ?_
      exact w2
  obtain ⟨l0, l1, l3, lB⟩ := hlo 0 g (by rw [runA_0]; exact hg)
  cases hbg : begs (a 0) (a 1) (bl a) 1 X Y with
  | true =>
    have hn24 := hn hbg
    have hb := hbg
    unfold begs at hb
    simp only [Bool.and_eq_true, Bool.not_eq_true'] at hb
    obtain ⟨g', w1, w2⟩ := hl hbg ((148 : Int) + 4 * g 3) (by rw [l3]; omega) 0 (Nat.zero_le _) g 0 (by rw [runA_0]; exact hg) rfl
    refine ⟨g', by unfold mkS; rw [hbg]; exact w1, ?_⟩
    refine xCallI (N := 8) (v := bI (opn (a 0) (a 1) (bl a) (X : Int) (Y : Int))) (M2 := m_M_makeSlot) (pc2 := 8) (ls2 := [some (eR 0), some (eI x), some (eI y), some (eI 1), some (eI 0)]) (st2 := []) (y := m_M_isFree) (as := [some (eR 0), some (eI x), some (eI y)]) (w2 := ([eA 0 964 g], c)) rfl (n_isFree2 l0 l1 hW hH lB hx hy (by omega) (by omega)) (fun r8 hr8 => ?_)
    have hq1 := (bI_1 hr8).2.1.mpr hb.1
    refine xEqF (N := 1) (x := r8) (y := 0) (A := ev m_M_makeSlot 42 [some (eR 0), some (eI x), some (eI y), some (eI 1), some (eI 0)] [] ([eA 0 964 g], c)) (B := ev m_M_makeSlot 14 [some (eR 0), some (eI x), some (eI y), some (eI 1), some (eI 0)] [] ([eA 0 964 g], c)) rfl (wr_id (by omega) (by omega)) (show wr 0 = 0 by decide) (by omega) ?_
    refine xCallI (N := 8) (v := bI (opn (a 0) (a 1) (bl a) ((X : Int) - ((1 - 1 : Nat) : Int)) ((Y : Int) - ((1 : Nat) : Int)))) (M2 := m_M_makeSlot) (pc2 := 22) (ls2 := [some (eR 0), some (eI x), some (eI y), some (eI 1), some (eI 0)]) (st2 := []) (y := m_M_isFree) (as := [some (eR 0), some (eI (x - 0)), some (eI (y - 1))]) (w2 := ([eA 0 964 g], c)) rfl (n_isFree2 (x' := (X : Int) - ((1 - 1 : Nat) : Int)) (y' := (Y : Int) - ((1 : Nat) : Int)) l0 l1 hW hH lB (by omega) (by omega) (by omega) (by omega)) (fun r22 hr22 => ?_)
    have hq2 := (bI_1 hr22).2.2.mpr hb.2.1
    refine xEqT (N := 1) (x := r22) (y := 0) (A := ev m_M_makeSlot 28 [some (eR 0), some (eI x), some (eI y), some (eI 1), some (eI 0)] [] ([eA 0 964 g], c)) (B := ev m_M_makeSlot 42 [some (eR 0), some (eI x), some (eI y), some (eI 1), some (eI 0)] [] ([eA 0 964 g], c)) rfl (wr_id (by omega) (by omega)) (show wr 0 = 0 by decide) (by omega) ?_
    refine xCallI (N := 8) (v := bI (opn (a 0) (a 1) (bl a) ((X : Int) + ((1 - 1 : Nat) : Int)) ((Y : Int) + ((1 : Nat) : Int)))) (M2 := m_M_makeSlot) (pc2 := 36) (ls2 := [some (eR 0), some (eI x), some (eI y), some (eI 1), some (eI 0)]) (st2 := []) (y := m_M_isFree) (as := [some (eR 0), some (eI (x + 0)), some (eI (y + 1))]) (w2 := ([eA 0 964 g], c)) rfl (n_isFree2 (x' := (X : Int) + ((1 - 1 : Nat) : Int)) (y' := (Y : Int) + ((1 : Nat) : Int)) l0 l1 hW hH lB (by omega) (by omega) (by omega) (by omega)) (fun r36 hr36 => ?_)
    have hq3 := (bI_1 hr36).2.1.mpr hb.2.2
    refine xEqF (N := 1) (x := r36) (y := 0) (A := ev m_M_makeSlot 42 [some (eR 0), some (eI x), some (eI y), some (eI 1), some (eI 0)] [] ([eA 0 964 g], c)) (B := ev m_M_makeSlot 43 [some (eR 0), some (eI x), some (eI y), some (eI 1), some (eI 0)] [] ([eA 0 964 g], c)) rfl (wr_id (by omega) (by omega)) (show wr 0 = 0 by decide) (by omega) ?_
    refine xLd (N := 3) (n := 964) (i := 3) (F := fun zq => ev m_M_makeSlot 46 [some (eR 0), some (eI x), some (eI y), some (eI 1), some (eI 0)] [eI (g zq)] ([eA 0 964 g], c)) (k := 3) rfl (show wr 3 = ((3 : Nat) : Int) by decide) (by omega) ?_
    refine xCallI (N := 1) (v := 148 + 4 * (g 3)) (M2 := m_M_makeSlot) (pc2 := 46) (ls2 := [some (eR 0), some (eI x), some (eI y), some (eI 1), some (eI 0)]) (st2 := []) (y := m_M_ofSlot) (as := [some (eI (g 3))]) (w2 := ([eA 0 964 g], c)) rfl n_ofSlot (fun r46 hr46 => ?_)
    refine xSeg (N := 3) (r := ev m_M_makeSlot 54 [some (eR 0), some (eI x), some (eI y), some (eI 1), some (eI 0), some (eI r46), some (eI 0)] [] ([eA 0 964 g], c)) rfl ?_
    rw [hr46]
    exact w2
  | false =>
    refine ⟨g, by unfold mkS; rw [hbg]; exact hg, ?_⟩
    have hb := hbg
    unfold begs at hb
    refine xCallI (N := 8) (v := bI (opn (a 0) (a 1) (bl a) (X : Int) (Y : Int))) (M2 := m_M_makeSlot) (pc2 := 8) (ls2 := [some (eR 0), some (eI x), some (eI y), some (eI 1), some (eI 0)]) (st2 := []) (y := m_M_isFree) (as := [some (eR 0), some (eI x), some (eI y)]) (w2 := ([eA 0 964 g], c)) rfl (n_isFree2 l0 l1 hW hH lB hx hy (by omega) (by omega)) (fun r8 hr8 => ?_)
    have hq1 := bI_1 hr8
    refine xEq (N := 1) (x := r8) (y := 0) (A := ev m_M_makeSlot 42 [some (eR 0), some (eI x), some (eI y), some (eI 1), some (eI 0)] [] ([eA 0 964 g], c)) (B := ev m_M_makeSlot 14 [some (eR 0), some (eI x), some (eI y), some (eI 1), some (eI 0)] [] ([eA 0 964 g], c)) rfl (wr_id (by omega) (by omega)) (show wr 0 = 0 by decide) (fun h11 => ?_) (fun h11 => ?_)
    · refine xSeg (N := 1) (r := some (.inl none, ([eA 0 964 g], c))) rfl ?_
      rfl
    · refine xCallI (N := 8) (v := bI (opn (a 0) (a 1) (bl a) ((X : Int) - ((1 - 1 : Nat) : Int)) ((Y : Int) - ((1 : Nat) : Int)))) (M2 := m_M_makeSlot) (pc2 := 22) (ls2 := [some (eR 0), some (eI x), some (eI y), some (eI 1), some (eI 0)]) (st2 := []) (y := m_M_isFree) (as := [some (eR 0), some (eI (x - 0)), some (eI (y - 1))]) (w2 := ([eA 0 964 g], c)) rfl (n_isFree2 (x' := (X : Int) - ((1 - 1 : Nat) : Int)) (y' := (Y : Int) - ((1 : Nat) : Int)) l0 l1 hW hH lB (by omega) (by omega) (by omega) (by omega)) (fun r22 hr22 => ?_)
      have hq2 := bI_1 hr22
      refine xEq (N := 1) (x := r22) (y := 0) (A := ev m_M_makeSlot 28 [some (eR 0), some (eI x), some (eI y), some (eI 1), some (eI 0)] [] ([eA 0 964 g], c)) (B := ev m_M_makeSlot 42 [some (eR 0), some (eI x), some (eI y), some (eI 1), some (eI 0)] [] ([eA 0 964 g], c)) rfl (wr_id (by omega) (by omega)) (show wr 0 = 0 by decide) (fun h25 => ?_) (fun h25 => ?_)
      · refine xCallI (N := 8) (v := bI (opn (a 0) (a 1) (bl a) ((X : Int) + ((1 - 1 : Nat) : Int)) ((Y : Int) + ((1 : Nat) : Int)))) (M2 := m_M_makeSlot) (pc2 := 36) (ls2 := [some (eR 0), some (eI x), some (eI y), some (eI 1), some (eI 0)]) (st2 := []) (y := m_M_isFree) (as := [some (eR 0), some (eI (x + 0)), some (eI (y + 1))]) (w2 := ([eA 0 964 g], c)) rfl (n_isFree2 (x' := (X : Int) + ((1 - 1 : Nat) : Int)) (y' := (Y : Int) + ((1 : Nat) : Int)) l0 l1 hW hH lB (by omega) (by omega) (by omega) (by omega)) (fun r36 hr36 => ?_)
        have hq3 := bI_1 hr36
        refine xEq (N := 1) (x := r36) (y := 0) (A := ev m_M_makeSlot 42 [some (eR 0), some (eI x), some (eI y), some (eI 1), some (eI 0)] [] ([eA 0 964 g], c)) (B := ev m_M_makeSlot 43 [some (eR 0), some (eI x), some (eI y), some (eI 1), some (eI 0)] [] ([eA 0 964 g], c)) rfl (wr_id (by omega) (by omega)) (show wr 0 = 0 by decide) (fun h39 => ?_) (fun h39 => ?_)
        · refine xSeg (N := 1) (r := some (.inl none, ([eA 0 964 g], c))) rfl ?_
          rfl
        · exfalso
          rw [hq1.2.1.mp (by omega), hq2.2.2.mp (by omega), hq3.2.1.mp (by omega)] at hb
          cases hb
      · refine xSeg (N := 1) (r := some (.inl none, ([eA 0 964 g], c))) rfl ?_
        rfl
