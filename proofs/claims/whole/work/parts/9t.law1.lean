/-! The law asks. -/
theorem CI_1 {V : List eC} {a : eRow} {x : xT} (C : CI V a x) : ∃ P, eNth V 1 = some (xC P) := by
  obtain ⟨-, -, -, -, P, oY, o1, -⟩ := C
  exact ⟨P, o1⟩
theorem CI_I {V : List eC} {a : eRow} {x : xT} (C : CI V a x) : iA a := by
  obtain ⟨⟨S, -, -, h, -⟩, -⟩ := C
  exact h
theorem CI_B {V : List eC} {a : eRow} {x : xT} (C : CI V a x) : iB a := by
  obtain ⟨⟨S, -, -, -, h⟩, -⟩ := C
  exact h
theorem MI_70 {V : List eC} {a : eRow} {x : xT} {t : Int} (M : MI V a x t) : ∃ P, eNth V 70 = some (mX P) := by
  obtain ⟨P, g, gp, gt, gr, gs, mk, fr, kp, bM, oM, us, ⟨c0, -⟩, -⟩ := M
  exact ⟨P, c0⟩
theorem dl_rf (d : Nat × Nat) : dl d d := by unfold dl; omega
/-- what holds at the law's loop -/
def LI (V : List eC) (L : Nat) (f : Nat → Int) : Prop := ∃ (a : eRow) (x : xT) (t : Int) (ot : Nat → Int), CI V a x ∧ MI V a x t ∧ eNth V 0 = some (eA 9 L f) ∧ eNth V 81 = some (eA 3 1 ot)
theorem bL_self (v : Int) : bLcmp v v = 0 := by unfold bLcmp; rw [if_neg (Int.lt_irrefl _), if_pos rfl]
theorem wrcmp {v : Int} : wr (bLcmp (wr v) (wr v)) = 0 := by rw [bL_self]; decide
theorem wrcmp1 : wr (bLcmp (wr 1) 1) = 0 := by decide +kernel
theorem wrcmp0 : wr (bLcmp (wr 0) 0) = 0 := by decide +kernel
set_option maxRecDepth 100000
theorem k_isBlocked {V : List eC} {d : Nat × Nat} {L j : Nat} {f : Nat → Int} {i : Int} {Q : (Option eV ⊕ Nat) × eW → Prop} (hi : i = (j : Int)) (hj : j + 6 ≤ L) (hL : L ≤ 3072) (hr : ∀ k, -2147483648 ≤ f k ∧ f k < 2147483648) (h : LI V L f) (hK : ∀ V' d', LI V' L f → dl d d' → Rs (ev m_L_law 3064 [some (eR 0), some (eR 1), some (eR 70), some (eR 81), some (eI i)] [] (V', d')) Q) : Rs (ev m_L_law 595 [some (eR 0), some (eR 1), some (eR 70), some (eR 81), some (eI i)] [] (V, d)) Q := by
  obtain ⟨a, x, t0, ot, C, M, h0, h81⟩ := h
  obtain ⟨P1, h1⟩ := CI_1 C
  obtain ⟨P70, h70⟩ := MI_70 M
  have hI : iA a := CI_I C
  obtain ⟨t, v, ht, hv9, hq, hn⟩ := q_isBlocked hI (hr (j + 1)) (hr (j + 2))
  by_cases ht0 : t = 0
  · rcases hv9 ht0 with hv1 | hv1
    · refine rOf (fun R9 hR9 => xLdV (N := 6) (M2 := m_L_law) (pc2 := 601) (r := 0) (ls2 := [some (eR 0), some (eR 1), some (eR 70), some (eR 81), some (eI i)]) (st2 := [eR 1]) (V := V) (d := d) (i := i + 1) (k := j + 1) (ok := eOkI) (mk := fun x => .inl x) rfl h0 rfl (wr_nat (by omega) (by omega)) (by omega) hR9) ?_
      refine rOf (fun R9 hR9 => xLdV (N := 5) (M2 := m_L_law) (pc2 := 607) (r := 0) (ls2 := [some (eR 0), some (eR 1), some (eR 70), some (eR 81), some (eI i)]) (st2 := [eI (f (j + 1)), eR 1]) (V := V) (d := d) (i := i + 2) (k := j + 2) (ok := eOkI) (mk := fun x => .inl x) rfl h0 rfl (wr_nat (by omega) (by omega)) (by omega) hR9) ?_
      obtain ⟨V2, ot2, d2, q2, C2, o2, t2, fr2, dl2⟩ := lqV (d := d) hq C h81 rfl
      have h02 := (fr2.2 0 (by omega)).trans h0
      have h702 := (fr2.2 70 (by omega)).trans h70
      obtain ⟨P2, h12⟩ := CI_1 C2
      refine rOf (fun R9 hR9 => xCall (N := 2) (M2 := m_L_law) (pc2 := 609) (ls2 := [some (eR 0), some (eR 1), some (eR 70), some (eR 81), some (eI i)]) (st2 := []) (y := m_L_isBlocked) (as := [some (eR 1), some (eI (f (j + 1))), some (eI (f (j + 2))), some (eR 81)]) (w2 := (V, d)) rfl q2 hR9) ?_
      refine rOf (fun R9 hR9 => xLdV (N := 7) (M2 := m_L_law) (pc2 := 620) (r := 0) (ls2 := [some (eR 0), some (eR 1), some (eR 70), some (eR 81), some (eI i), some (eI t)]) (st2 := [eR 70]) (V := V2) (d := d2) (i := i + 1) (k := j + 1) (ok := eOkI) (mk := fun x => .inl x) rfl h02 rfl (wr_nat (by omega) (by omega)) (by omega) hR9) ?_
      refine rOf (fun R9 hR9 => xLdV (N := 5) (M2 := m_L_law) (pc2 := 626) (r := 0) (ls2 := [some (eR 0), some (eR 1), some (eR 70), some (eR 81), some (eI i), some (eI t)]) (st2 := [eI (f (j + 1)), eR 70]) (V := V2) (d := d2) (i := i + 2) (k := j + 2) (ok := eOkI) (mk := fun x => .inl x) rfl h02 rfl (wr_nat (by omega) (by omega)) (by omega) hR9) ?_
      obtain ⟨V3, b3, q3, M3, hb3, fm3⟩ := nqV (d := d2) hn (MI_fr (fun k hk => fr2.2 k (by omega)) M) rfl
      have h03 := (fm3.2 0 (by omega)).trans h02
      have h13 := (fm3.2 1 (by omega)).trans h12
      have h813 := (fm3.2 81 (by omega)).trans o2
      obtain ⟨P3, h703⟩ := MI_70 M3
      have C3 := CI_fr (Nat.le_of_eq fm3.1.symm) (fun k hk => fm3.2 k (by omega)) C2
      refine rOf (fun R9 hR9 => xCallA1 (N := 1) (M2 := m_L_law) (pc2 := 627) (y := m_M_isBlocked) (n := 3) (ls2 := [some (eR 0), some (eR 1), some (eR 70), some (eR 81), some (eI i), some (eI t)]) (st2 := []) (st9 := [eI (f (j + 2)), eI (f (j + 1)), eR 70]) (V := V2) (d := d2) (r := 70) (bs := [eI (f (j + 1)), eI (f (j + 2))]) rfl rfl h702 rfl q3 hR9) ?_
      refine rOf (fun R9 hR9 => xCallA1 (N := 3) (M2 := m_L_law) (pc2 := 633) (y := m_M_thrown) (n := 1) (ls2 := [some (eR 0), some (eR 1), some (eR 70), some (eR 81), some (eI i), some (eI t), some (eI b3)]) (st2 := []) (st9 := [eR 70]) (V := V3) (d := d2) (r := 70) (bs := []) rfl rfl h703 rfl (thrV M3) hR9) ?_
      refine rOf (fun R9 hR9 => xEqT (N := 2) (x := t) (y := t) (A := ev m_L_law 643 [some (eR 0), some (eR 1), some (eR 70), some (eR 81), some (eI i), some (eI t), some (eI b3)] [] (V3, d2)) (B := ev m_L_law 641 [some (eR 0), some (eR 1), some (eR 70), some (eR 81), some (eI i), some (eI t), some (eI b3)] [] (V3, d2)) rfl rfl rfl rfl hR9) ?_
      refine rOf (fun R9 hR9 => xEqT (N := 2) (x := t) (y := 0) (A := ev m_L_law 648 [some (eR 0), some (eR 1), some (eR 70), some (eR 81), some (eI i), some (eI t), some (eI b3)] [] (V3, d2)) (B := ev m_L_law 667 [some (eR 0), some (eR 1), some (eR 70), some (eR 81), some (eI i), some (eI t), some (eI b3)] [] (V3, d2)) rfl (wr_id (by omega) (by omega)) (show wr 0 = 0 by decide) (by omega) hR9) ?_
      refine rOf (fun R9 hR9 => xLdV (N := 3) (M2 := m_L_law) (pc2 := 650) (r := 81) (ls2 := [some (eR 0), some (eR 1), some (eR 70), some (eR 81), some (eI i), some (eI t), some (eI b3)]) (st2 := []) (V := V3) (d := d2) (i := 0) (k := 0) (ok := eOkJ) (mk := fun x => .inr (.inr (.inl x))) rfl h813 rfl (show wr 0 = ((0 : Nat) : Int) by decide) (by omega) hR9) ?_
      refine rOf (fun R9 hR9 => xEqF (N := 2) (x := b3) (y := 0) (A := ev m_L_law 660 [some (eR 0), some (eR 1), some (eR 70), some (eR 81), some (eI i), some (eI t), some (eI b3)] [eJ (ot2 0)] (V3, d2)) (B := ev m_L_law 656 [some (eR 0), some (eR 1), some (eR 70), some (eR 81), some (eI i), some (eI t), some (eI b3)] [eJ (ot2 0)] (V3, d2)) rfl (show wr b3 = 1 by rw [hb3 ht0, hv1]; decide) (show wr 0 = 0 by decide) (by decide) hR9) ?_
      refine rOf (fun R9 hR9 => xEqT (N := 4) (x := bLcmp (ot2 0) 1) (y := 0) (A := ev m_L_law 667 [some (eR 0), some (eR 1), some (eR 70), some (eR 81), some (eI i), some (eI t), some (eI b3)] [] (V3, d2)) (B := ev m_L_law 665 [some (eR 0), some (eR 1), some (eR 70), some (eR 81), some (eI i), some (eI t), some (eI b3)] [] (V3, d2)) rfl (by rw [t2 ht0, hv1]; exact wrcmp1) (show wr 0 = 0 by decide) rfl hR9) ?_
      refine rOf (fun R9 hR9 => xSeg (N := 1) (r := ev m_L_law 3064 [some (eR 0), some (eR 1), some (eR 70), some (eR 81), some (eI i), some (eI t), some (eI b3)] [] (V3, d2)) rfl hR9) ?_
      refine rOf (fun R9 hR9 => xTk 5 (by rfl) rfl hR9) ?_
      exact hK V3 d2 ⟨a, x, t, ot2, C3, M3, h03, h813⟩ dl2
    · refine rOf (fun R9 hR9 => xLdV (N := 6) (M2 := m_L_law) (pc2 := 601) (r := 0) (ls2 := [some (eR 0), some (eR 1), some (eR 70), some (eR 81), some (eI i)]) (st2 := [eR 1]) (V := V) (d := d) (i := i + 1) (k := j + 1) (ok := eOkI) (mk := fun x => .inl x) rfl h0 rfl (wr_nat (by omega) (by omega)) (by omega) hR9) ?_
      refine rOf (fun R9 hR9 => xLdV (N := 5) (M2 := m_L_law) (pc2 := 607) (r := 0) (ls2 := [some (eR 0), some (eR 1), some (eR 70), some (eR 81), some (eI i)]) (st2 := [eI (f (j + 1)), eR 1]) (V := V) (d := d) (i := i + 2) (k := j + 2) (ok := eOkI) (mk := fun x => .inl x) rfl h0 rfl (wr_nat (by omega) (by omega)) (by omega) hR9) ?_
      obtain ⟨V2, ot2, d2, q2, C2, o2, t2, fr2, dl2⟩ := lqV (d := d) hq C h81 rfl
      have h02 := (fr2.2 0 (by omega)).trans h0
      have h702 := (fr2.2 70 (by omega)).trans h70
      obtain ⟨P2, h12⟩ := CI_1 C2
      refine rOf (fun R9 hR9 => xCall (N := 2) (M2 := m_L_law) (pc2 := 609) (ls2 := [some (eR 0), some (eR 1), some (eR 70), some (eR 81), some (eI i)]) (st2 := []) (y := m_L_isBlocked) (as := [some (eR 1), some (eI (f (j + 1))), some (eI (f (j + 2))), some (eR 81)]) (w2 := (V, d)) rfl q2 hR9) ?_
      refine rOf (fun R9 hR9 => xLdV (N := 7) (M2 := m_L_law) (pc2 := 620) (r := 0) (ls2 := [some (eR 0), some (eR 1), some (eR 70), some (eR 81), some (eI i), some (eI t)]) (st2 := [eR 70]) (V := V2) (d := d2) (i := i + 1) (k := j + 1) (ok := eOkI) (mk := fun x => .inl x) rfl h02 rfl (wr_nat (by omega) (by omega)) (by omega) hR9) ?_
      refine rOf (fun R9 hR9 => xLdV (N := 5) (M2 := m_L_law) (pc2 := 626) (r := 0) (ls2 := [some (eR 0), some (eR 1), some (eR 70), some (eR 81), some (eI i), some (eI t)]) (st2 := [eI (f (j + 1)), eR 70]) (V := V2) (d := d2) (i := i + 2) (k := j + 2) (ok := eOkI) (mk := fun x => .inl x) rfl h02 rfl (wr_nat (by omega) (by omega)) (by omega) hR9) ?_
      obtain ⟨V3, b3, q3, M3, hb3, fm3⟩ := nqV (d := d2) hn (MI_fr (fun k hk => fr2.2 k (by omega)) M) rfl
      have h03 := (fm3.2 0 (by omega)).trans h02
      have h13 := (fm3.2 1 (by omega)).trans h12
      have h813 := (fm3.2 81 (by omega)).trans o2
      obtain ⟨P3, h703⟩ := MI_70 M3
      have C3 := CI_fr (Nat.le_of_eq fm3.1.symm) (fun k hk => fm3.2 k (by omega)) C2
      refine rOf (fun R9 hR9 => xCallA1 (N := 1) (M2 := m_L_law) (pc2 := 627) (y := m_M_isBlocked) (n := 3) (ls2 := [some (eR 0), some (eR 1), some (eR 70), some (eR 81), some (eI i), some (eI t)]) (st2 := []) (st9 := [eI (f (j + 2)), eI (f (j + 1)), eR 70]) (V := V2) (d := d2) (r := 70) (bs := [eI (f (j + 1)), eI (f (j + 2))]) rfl rfl h702 rfl q3 hR9) ?_
      refine rOf (fun R9 hR9 => xCallA1 (N := 3) (M2 := m_L_law) (pc2 := 633) (y := m_M_thrown) (n := 1) (ls2 := [some (eR 0), some (eR 1), some (eR 70), some (eR 81), some (eI i), some (eI t), some (eI b3)]) (st2 := []) (st9 := [eR 70]) (V := V3) (d := d2) (r := 70) (bs := []) rfl rfl h703 rfl (thrV M3) hR9) ?_
      refine rOf (fun R9 hR9 => xEqT (N := 2) (x := t) (y := t) (A := ev m_L_law 643 [some (eR 0), some (eR 1), some (eR 70), some (eR 81), some (eI i), some (eI t), some (eI b3)] [] (V3, d2)) (B := ev m_L_law 641 [some (eR 0), some (eR 1), some (eR 70), some (eR 81), some (eI i), some (eI t), some (eI b3)] [] (V3, d2)) rfl rfl rfl rfl hR9) ?_
      refine rOf (fun R9 hR9 => xEqT (N := 2) (x := t) (y := 0) (A := ev m_L_law 648 [some (eR 0), some (eR 1), some (eR 70), some (eR 81), some (eI i), some (eI t), some (eI b3)] [] (V3, d2)) (B := ev m_L_law 667 [some (eR 0), some (eR 1), some (eR 70), some (eR 81), some (eI i), some (eI t), some (eI b3)] [] (V3, d2)) rfl (wr_id (by omega) (by omega)) (show wr 0 = 0 by decide) (by omega) hR9) ?_
      refine rOf (fun R9 hR9 => xLdV (N := 3) (M2 := m_L_law) (pc2 := 650) (r := 81) (ls2 := [some (eR 0), some (eR 1), some (eR 70), some (eR 81), some (eI i), some (eI t), some (eI b3)]) (st2 := []) (V := V3) (d := d2) (i := 0) (k := 0) (ok := eOkJ) (mk := fun x => .inr (.inr (.inl x))) rfl h813 rfl (show wr 0 = ((0 : Nat) : Int) by decide) (by omega) hR9) ?_
      refine rOf (fun R9 hR9 => xEqT (N := 2) (x := b3) (y := 0) (A := ev m_L_law 660 [some (eR 0), some (eR 1), some (eR 70), some (eR 81), some (eI i), some (eI t), some (eI b3)] [eJ (ot2 0)] (V3, d2)) (B := ev m_L_law 656 [some (eR 0), some (eR 1), some (eR 70), some (eR 81), some (eI i), some (eI t), some (eI b3)] [eJ (ot2 0)] (V3, d2)) rfl (show wr b3 = 0 by rw [hb3 ht0, hv1]; decide) (show wr 0 = 0 by decide) (by decide) hR9) ?_
      refine rOf (fun R9 hR9 => xEqT (N := 3) (x := bLcmp (ot2 0) 0) (y := 0) (A := ev m_L_law 667 [some (eR 0), some (eR 1), some (eR 70), some (eR 81), some (eI i), some (eI t), some (eI b3)] [] (V3, d2)) (B := ev m_L_law 665 [some (eR 0), some (eR 1), some (eR 70), some (eR 81), some (eI i), some (eI t), some (eI b3)] [] (V3, d2)) rfl (by rw [t2 ht0, hv1]; exact wrcmp0) (show wr 0 = 0 by decide) rfl hR9) ?_
      refine rOf (fun R9 hR9 => xSeg (N := 1) (r := ev m_L_law 3064 [some (eR 0), some (eR 1), some (eR 70), some (eR 81), some (eI i), some (eI t), some (eI b3)] [] (V3, d2)) rfl hR9) ?_
      refine rOf (fun R9 hR9 => xTk 5 (by rfl) rfl hR9) ?_
      exact hK V3 d2 ⟨a, x, t, ot2, C3, M3, h03, h813⟩ dl2
  · refine rOf (fun R9 hR9 => xLdV (N := 6) (M2 := m_L_law) (pc2 := 601) (r := 0) (ls2 := [some (eR 0), some (eR 1), some (eR 70), some (eR 81), some (eI i)]) (st2 := [eR 1]) (V := V) (d := d) (i := i + 1) (k := j + 1) (ok := eOkI) (mk := fun x => .inl x) rfl h0 rfl (wr_nat (by omega) (by omega)) (by omega) hR9) ?_
    refine rOf (fun R9 hR9 => xLdV (N := 5) (M2 := m_L_law) (pc2 := 607) (r := 0) (ls2 := [some (eR 0), some (eR 1), some (eR 70), some (eR 81), some (eI i)]) (st2 := [eI (f (j + 1)), eR 1]) (V := V) (d := d) (i := i + 2) (k := j + 2) (ok := eOkI) (mk := fun x => .inl x) rfl h0 rfl (wr_nat (by omega) (by omega)) (by omega) hR9) ?_
    obtain ⟨V2, ot2, d2, q2, C2, o2, t2, fr2, dl2⟩ := lqV (d := d) hq C h81 rfl
    have h02 := (fr2.2 0 (by omega)).trans h0
    have h702 := (fr2.2 70 (by omega)).trans h70
    obtain ⟨P2, h12⟩ := CI_1 C2
    refine rOf (fun R9 hR9 => xCall (N := 2) (M2 := m_L_law) (pc2 := 609) (ls2 := [some (eR 0), some (eR 1), some (eR 70), some (eR 81), some (eI i)]) (st2 := []) (y := m_L_isBlocked) (as := [some (eR 1), some (eI (f (j + 1))), some (eI (f (j + 2))), some (eR 81)]) (w2 := (V, d)) rfl q2 hR9) ?_
    refine rOf (fun R9 hR9 => xLdV (N := 7) (M2 := m_L_law) (pc2 := 620) (r := 0) (ls2 := [some (eR 0), some (eR 1), some (eR 70), some (eR 81), some (eI i), some (eI t)]) (st2 := [eR 70]) (V := V2) (d := d2) (i := i + 1) (k := j + 1) (ok := eOkI) (mk := fun x => .inl x) rfl h02 rfl (wr_nat (by omega) (by omega)) (by omega) hR9) ?_
    refine rOf (fun R9 hR9 => xLdV (N := 5) (M2 := m_L_law) (pc2 := 626) (r := 0) (ls2 := [some (eR 0), some (eR 1), some (eR 70), some (eR 81), some (eI i), some (eI t)]) (st2 := [eI (f (j + 1)), eR 70]) (V := V2) (d := d2) (i := i + 2) (k := j + 2) (ok := eOkI) (mk := fun x => .inl x) rfl h02 rfl (wr_nat (by omega) (by omega)) (by omega) hR9) ?_
    obtain ⟨V3, b3, q3, M3, hb3, fm3⟩ := nqV (d := d2) hn (MI_fr (fun k hk => fr2.2 k (by omega)) M) rfl
    have h03 := (fm3.2 0 (by omega)).trans h02
    have h13 := (fm3.2 1 (by omega)).trans h12
    have h813 := (fm3.2 81 (by omega)).trans o2
    obtain ⟨P3, h703⟩ := MI_70 M3
    have C3 := CI_fr (Nat.le_of_eq fm3.1.symm) (fun k hk => fm3.2 k (by omega)) C2
    refine rOf (fun R9 hR9 => xCallA1 (N := 1) (M2 := m_L_law) (pc2 := 627) (y := m_M_isBlocked) (n := 3) (ls2 := [some (eR 0), some (eR 1), some (eR 70), some (eR 81), some (eI i), some (eI t)]) (st2 := []) (st9 := [eI (f (j + 2)), eI (f (j + 1)), eR 70]) (V := V2) (d := d2) (r := 70) (bs := [eI (f (j + 1)), eI (f (j + 2))]) rfl rfl h702 rfl q3 hR9) ?_
    refine rOf (fun R9 hR9 => xCallA1 (N := 3) (M2 := m_L_law) (pc2 := 633) (y := m_M_thrown) (n := 1) (ls2 := [some (eR 0), some (eR 1), some (eR 70), some (eR 81), some (eI i), some (eI t), some (eI b3)]) (st2 := []) (st9 := [eR 70]) (V := V3) (d := d2) (r := 70) (bs := []) rfl rfl h703 rfl (thrV M3) hR9) ?_
    refine rOf (fun R9 hR9 => xEqT (N := 2) (x := t) (y := t) (A := ev m_L_law 643 [some (eR 0), some (eR 1), some (eR 70), some (eR 81), some (eI i), some (eI t), some (eI b3)] [] (V3, d2)) (B := ev m_L_law 641 [some (eR 0), some (eR 1), some (eR 70), some (eR 81), some (eI i), some (eI t), some (eI b3)] [] (V3, d2)) rfl rfl rfl rfl hR9) ?_
    refine rOf (fun R9 hR9 => xEqF (N := 2) (x := t) (y := 0) (A := ev m_L_law 648 [some (eR 0), some (eR 1), some (eR 70), some (eR 81), some (eI i), some (eI t), some (eI b3)] [] (V3, d2)) (B := ev m_L_law 667 [some (eR 0), some (eR 1), some (eR 70), some (eR 81), some (eI i), some (eI t), some (eI b3)] [] (V3, d2)) rfl (wr_id (by omega) (by omega)) (show wr 0 = 0 by decide) (by omega) hR9) ?_
    refine rOf (fun R9 hR9 => xSeg (N := 1) (r := ev m_L_law 3064 [some (eR 0), some (eR 1), some (eR 70), some (eR 81), some (eI i), some (eI t), some (eI b3)] [] (V3, d2)) rfl hR9) ?_
    refine rOf (fun R9 hR9 => xTk 5 (by rfl) rfl hR9) ?_
    exact hK V3 d2 ⟨a, x, t, ot2, C3, M3, h03, h813⟩ dl2
theorem k_givenLetter {V : List eC} {d : Nat × Nat} {L j : Nat} {f : Nat → Int} {i : Int} {Q : (Option eV ⊕ Nat) × eW → Prop} (hi : i = (j : Int)) (hj : j + 6 ≤ L) (hL : L ≤ 3072) (hr : ∀ k, -2147483648 ≤ f k ∧ f k < 2147483648) (h : LI V L f) (hK : ∀ V' d', LI V' L f → dl d d' → Rs (ev m_L_law 3064 [some (eR 0), some (eR 1), some (eR 70), some (eR 81), some (eI i)] [] (V', d')) Q) : Rs (ev m_L_law 670 [some (eR 0), some (eR 1), some (eR 70), some (eR 81), some (eI i)] [] (V, d)) Q := by
  obtain ⟨a, x, t0, ot, C, M, h0, h81⟩ := h
  obtain ⟨P1, h1⟩ := CI_1 C
  obtain ⟨P70, h70⟩ := MI_70 M
  have hI : iA a := CI_I C
  obtain ⟨t, v, ht, hq, hn⟩ := q_givenLetter hI (hr (j + 1)) (hr (j + 2))
  by_cases ht0 : t = 0
  · refine rOf (fun R9 hR9 => xLdV (N := 6) (M2 := m_L_law) (pc2 := 676) (r := 0) (ls2 := [some (eR 0), some (eR 1), some (eR 70), some (eR 81), some (eI i)]) (st2 := [eR 1]) (V := V) (d := d) (i := i + 1) (k := j + 1) (ok := eOkI) (mk := fun x => .inl x) rfl h0 rfl (wr_nat (by omega) (by omega)) (by omega) hR9) ?_
    refine rOf (fun R9 hR9 => xLdV (N := 5) (M2 := m_L_law) (pc2 := 682) (r := 0) (ls2 := [some (eR 0), some (eR 1), some (eR 70), some (eR 81), some (eI i)]) (st2 := [eI (f (j + 1)), eR 1]) (V := V) (d := d) (i := i + 2) (k := j + 2) (ok := eOkI) (mk := fun x => .inl x) rfl h0 rfl (wr_nat (by omega) (by omega)) (by omega) hR9) ?_
    obtain ⟨V2, ot2, d2, q2, C2, o2, t2, fr2, dl2⟩ := lqV (d := d) hq C h81 rfl
    have h02 := (fr2.2 0 (by omega)).trans h0
    have h702 := (fr2.2 70 (by omega)).trans h70
    obtain ⟨P2, h12⟩ := CI_1 C2
    refine rOf (fun R9 hR9 => xCall (N := 2) (M2 := m_L_law) (pc2 := 684) (ls2 := [some (eR 0), some (eR 1), some (eR 70), some (eR 81), some (eI i)]) (st2 := []) (y := m_L_givenLetter) (as := [some (eR 1), some (eI (f (j + 1))), some (eI (f (j + 2))), some (eR 81)]) (w2 := (V, d)) rfl q2 hR9) ?_
    refine rOf (fun R9 hR9 => xLdV (N := 7) (M2 := m_L_law) (pc2 := 695) (r := 0) (ls2 := [some (eR 0), some (eR 1), some (eR 70), some (eR 81), some (eI i), some (eI t)]) (st2 := [eR 70]) (V := V2) (d := d2) (i := i + 1) (k := j + 1) (ok := eOkI) (mk := fun x => .inl x) rfl h02 rfl (wr_nat (by omega) (by omega)) (by omega) hR9) ?_
    refine rOf (fun R9 hR9 => xLdV (N := 5) (M2 := m_L_law) (pc2 := 701) (r := 0) (ls2 := [some (eR 0), some (eR 1), some (eR 70), some (eR 81), some (eI i), some (eI t)]) (st2 := [eI (f (j + 1)), eR 70]) (V := V2) (d := d2) (i := i + 2) (k := j + 2) (ok := eOkI) (mk := fun x => .inl x) rfl h02 rfl (wr_nat (by omega) (by omega)) (by omega) hR9) ?_
    obtain ⟨V3, b3, q3, M3, hb3, fm3⟩ := nqV (d := d2) hn (MI_fr (fun k hk => fr2.2 k (by omega)) M) rfl
    have h03 := (fm3.2 0 (by omega)).trans h02
    have h13 := (fm3.2 1 (by omega)).trans h12
    have h813 := (fm3.2 81 (by omega)).trans o2
    obtain ⟨P3, h703⟩ := MI_70 M3
    have C3 := CI_fr (Nat.le_of_eq fm3.1.symm) (fun k hk => fm3.2 k (by omega)) C2
    refine rOf (fun R9 hR9 => xCallA1 (N := 1) (M2 := m_L_law) (pc2 := 702) (y := m_M_givenLetter) (n := 3) (ls2 := [some (eR 0), some (eR 1), some (eR 70), some (eR 81), some (eI i), some (eI t)]) (st2 := []) (st9 := [eI (f (j + 2)), eI (f (j + 1)), eR 70]) (V := V2) (d := d2) (r := 70) (bs := [eI (f (j + 1)), eI (f (j + 2))]) rfl rfl h702 rfl q3 hR9) ?_
    refine rOf (fun R9 hR9 => xCallA1 (N := 3) (M2 := m_L_law) (pc2 := 708) (y := m_M_thrown) (n := 1) (ls2 := [some (eR 0), some (eR 1), some (eR 70), some (eR 81), some (eI i), some (eI t), some (eI b3)]) (st2 := []) (st9 := [eR 70]) (V := V3) (d := d2) (r := 70) (bs := []) rfl rfl h703 rfl (thrV M3) hR9) ?_
    refine rOf (fun R9 hR9 => xEqT (N := 2) (x := t) (y := t) (A := ev m_L_law 718 [some (eR 0), some (eR 1), some (eR 70), some (eR 81), some (eI i), some (eI t), some (eI b3)] [] (V3, d2)) (B := ev m_L_law 716 [some (eR 0), some (eR 1), some (eR 70), some (eR 81), some (eI i), some (eI t), some (eI b3)] [] (V3, d2)) rfl rfl rfl rfl hR9) ?_
    refine rOf (fun R9 hR9 => xEqT (N := 2) (x := t) (y := 0) (A := ev m_L_law 723 [some (eR 0), some (eR 1), some (eR 70), some (eR 81), some (eI i), some (eI t), some (eI b3)] [] (V3, d2)) (B := ev m_L_law 735 [some (eR 0), some (eR 1), some (eR 70), some (eR 81), some (eI i), some (eI t), some (eI b3)] [] (V3, d2)) rfl (wr_id (by omega) (by omega)) (show wr 0 = 0 by decide) (by omega) hR9) ?_
    refine rOf (fun R9 hR9 => xLdV (N := 3) (M2 := m_L_law) (pc2 := 725) (r := 81) (ls2 := [some (eR 0), some (eR 1), some (eR 70), some (eR 81), some (eI i), some (eI t), some (eI b3)]) (st2 := []) (V := V3) (d := d2) (i := 0) (k := 0) (ok := eOkJ) (mk := fun x => .inr (.inr (.inl x))) rfl h813 rfl (show wr 0 = ((0 : Nat) : Int) by decide) (by omega) hR9) ?_
    refine rOf (fun R9 hR9 => xEqT (N := 4) (x := bLcmp (ot2 0) (wr b3)) (y := 0) (A := ev m_L_law 735 [some (eR 0), some (eR 1), some (eR 70), some (eR 81), some (eI i), some (eI t), some (eI b3)] [] (V3, d2)) (B := ev m_L_law 733 [some (eR 0), some (eR 1), some (eR 70), some (eR 81), some (eI i), some (eI t), some (eI b3)] [] (V3, d2)) rfl (by rw [t2 ht0, hb3 ht0]; exact wrcmp) (show wr 0 = 0 by decide) rfl hR9) ?_
    refine rOf (fun R9 hR9 => xSeg (N := 1) (r := ev m_L_law 3064 [some (eR 0), some (eR 1), some (eR 70), some (eR 81), some (eI i), some (eI t), some (eI b3)] [] (V3, d2)) rfl hR9) ?_
    refine rOf (fun R9 hR9 => xTk 5 (by rfl) rfl hR9) ?_
    exact hK V3 d2 ⟨a, x, t, ot2, C3, M3, h03, h813⟩ dl2
  · refine rOf (fun R9 hR9 => xLdV (N := 6) (M2 := m_L_law) (pc2 := 676) (r := 0) (ls2 := [some (eR 0), some (eR 1), some (eR 70), some (eR 81), some (eI i)]) (st2 := [eR 1]) (V := V) (d := d) (i := i + 1) (k := j + 1) (ok := eOkI) (mk := fun x => .inl x) rfl h0 rfl (wr_nat (by omega) (by omega)) (by omega) hR9) ?_
    refine rOf (fun R9 hR9 => xLdV (N := 5) (M2 := m_L_law) (pc2 := 682) (r := 0) (ls2 := [some (eR 0), some (eR 1), some (eR 70), some (eR 81), some (eI i)]) (st2 := [eI (f (j + 1)), eR 1]) (V := V) (d := d) (i := i + 2) (k := j + 2) (ok := eOkI) (mk := fun x => .inl x) rfl h0 rfl (wr_nat (by omega) (by omega)) (by omega) hR9) ?_
    obtain ⟨V2, ot2, d2, q2, C2, o2, t2, fr2, dl2⟩ := lqV (d := d) hq C h81 rfl
    have h02 := (fr2.2 0 (by omega)).trans h0
    have h702 := (fr2.2 70 (by omega)).trans h70
    obtain ⟨P2, h12⟩ := CI_1 C2
    refine rOf (fun R9 hR9 => xCall (N := 2) (M2 := m_L_law) (pc2 := 684) (ls2 := [some (eR 0), some (eR 1), some (eR 70), some (eR 81), some (eI i)]) (st2 := []) (y := m_L_givenLetter) (as := [some (eR 1), some (eI (f (j + 1))), some (eI (f (j + 2))), some (eR 81)]) (w2 := (V, d)) rfl q2 hR9) ?_
    refine rOf (fun R9 hR9 => xLdV (N := 7) (M2 := m_L_law) (pc2 := 695) (r := 0) (ls2 := [some (eR 0), some (eR 1), some (eR 70), some (eR 81), some (eI i), some (eI t)]) (st2 := [eR 70]) (V := V2) (d := d2) (i := i + 1) (k := j + 1) (ok := eOkI) (mk := fun x => .inl x) rfl h02 rfl (wr_nat (by omega) (by omega)) (by omega) hR9) ?_
    refine rOf (fun R9 hR9 => xLdV (N := 5) (M2 := m_L_law) (pc2 := 701) (r := 0) (ls2 := [some (eR 0), some (eR 1), some (eR 70), some (eR 81), some (eI i), some (eI t)]) (st2 := [eI (f (j + 1)), eR 70]) (V := V2) (d := d2) (i := i + 2) (k := j + 2) (ok := eOkI) (mk := fun x => .inl x) rfl h02 rfl (wr_nat (by omega) (by omega)) (by omega) hR9) ?_
    obtain ⟨V3, b3, q3, M3, hb3, fm3⟩ := nqV (d := d2) hn (MI_fr (fun k hk => fr2.2 k (by omega)) M) rfl
    have h03 := (fm3.2 0 (by omega)).trans h02
    have h13 := (fm3.2 1 (by omega)).trans h12
    have h813 := (fm3.2 81 (by omega)).trans o2
    obtain ⟨P3, h703⟩ := MI_70 M3
    have C3 := CI_fr (Nat.le_of_eq fm3.1.symm) (fun k hk => fm3.2 k (by omega)) C2
    refine rOf (fun R9 hR9 => xCallA1 (N := 1) (M2 := m_L_law) (pc2 := 702) (y := m_M_givenLetter) (n := 3) (ls2 := [some (eR 0), some (eR 1), some (eR 70), some (eR 81), some (eI i), some (eI t)]) (st2 := []) (st9 := [eI (f (j + 2)), eI (f (j + 1)), eR 70]) (V := V2) (d := d2) (r := 70) (bs := [eI (f (j + 1)), eI (f (j + 2))]) rfl rfl h702 rfl q3 hR9) ?_
    refine rOf (fun R9 hR9 => xCallA1 (N := 3) (M2 := m_L_law) (pc2 := 708) (y := m_M_thrown) (n := 1) (ls2 := [some (eR 0), some (eR 1), some (eR 70), some (eR 81), some (eI i), some (eI t), some (eI b3)]) (st2 := []) (st9 := [eR 70]) (V := V3) (d := d2) (r := 70) (bs := []) rfl rfl h703 rfl (thrV M3) hR9) ?_
    refine rOf (fun R9 hR9 => xEqT (N := 2) (x := t) (y := t) (A := ev m_L_law 718 [some (eR 0), some (eR 1), some (eR 70), some (eR 81), some (eI i), some (eI t), some (eI b3)] [] (V3, d2)) (B := ev m_L_law 716 [some (eR 0), some (eR 1), some (eR 70), some (eR 81), some (eI i), some (eI t), some (eI b3)] [] (V3, d2)) rfl rfl rfl rfl hR9) ?_
    refine rOf (fun R9 hR9 => xEqF (N := 2) (x := t) (y := 0) (A := ev m_L_law 723 [some (eR 0), some (eR 1), some (eR 70), some (eR 81), some (eI i), some (eI t), some (eI b3)] [] (V3, d2)) (B := ev m_L_law 735 [some (eR 0), some (eR 1), some (eR 70), some (eR 81), some (eI i), some (eI t), some (eI b3)] [] (V3, d2)) rfl (wr_id (by omega) (by omega)) (show wr 0 = 0 by decide) (by omega) hR9) ?_
    refine rOf (fun R9 hR9 => xSeg (N := 1) (r := ev m_L_law 3064 [some (eR 0), some (eR 1), some (eR 70), some (eR 81), some (eI i), some (eI t), some (eI b3)] [] (V3, d2)) rfl hR9) ?_
    refine rOf (fun R9 hR9 => xTk 5 (by rfl) rfl hR9) ?_
    exact hK V3 d2 ⟨a, x, t, ot2, C3, M3, h03, h813⟩ dl2
theorem k_sureLetter {V : List eC} {d : Nat × Nat} {L j : Nat} {f : Nat → Int} {i : Int} {Q : (Option eV ⊕ Nat) × eW → Prop} (hi : i = (j : Int)) (hj : j + 6 ≤ L) (hL : L ≤ 3072) (hr : ∀ k, -2147483648 ≤ f k ∧ f k < 2147483648) (h : LI V L f) (hK : ∀ V' d', LI V' L f → dl d d' → Rs (ev m_L_law 3064 [some (eR 0), some (eR 1), some (eR 70), some (eR 81), some (eI i)] [] (V', d')) Q) : Rs (ev m_L_law 738 [some (eR 0), some (eR 1), some (eR 70), some (eR 81), some (eI i)] [] (V, d)) Q := by
  obtain ⟨a, x, t0, ot, C, M, h0, h81⟩ := h
  obtain ⟨P1, h1⟩ := CI_1 C
  obtain ⟨P70, h70⟩ := MI_70 M
  have hI : iA a := CI_I C
  obtain ⟨t, v, ht, hq, hn⟩ := q_sureLetter hI (hr (j + 1)) (hr (j + 2))
  by_cases ht0 : t = 0
  · refine rOf (fun R9 hR9 => xLdV (N := 6) (M2 := m_L_law) (pc2 := 744) (r := 0) (ls2 := [some (eR 0), some (eR 1), some (eR 70), some (eR 81), some (eI i)]) (st2 := [eR 1]) (V := V) (d := d) (i := i + 1) (k := j + 1) (ok := eOkI) (mk := fun x => .inl x) rfl h0 rfl (wr_nat (by omega) (by omega)) (by omega) hR9) ?_
    refine rOf (fun R9 hR9 => xLdV (N := 5) (M2 := m_L_law) (pc2 := 750) (r := 0) (ls2 := [some (eR 0), some (eR 1), some (eR 70), some (eR 81), some (eI i)]) (st2 := [eI (f (j + 1)), eR 1]) (V := V) (d := d) (i := i + 2) (k := j + 2) (ok := eOkI) (mk := fun x => .inl x) rfl h0 rfl (wr_nat (by omega) (by omega)) (by omega) hR9) ?_
    obtain ⟨V2, ot2, d2, q2, C2, o2, t2, fr2, dl2⟩ := lqV (d := d) hq C h81 rfl
    have h02 := (fr2.2 0 (by omega)).trans h0
    have h702 := (fr2.2 70 (by omega)).trans h70
    obtain ⟨P2, h12⟩ := CI_1 C2
    refine rOf (fun R9 hR9 => xCall (N := 2) (M2 := m_L_law) (pc2 := 752) (ls2 := [some (eR 0), some (eR 1), some (eR 70), some (eR 81), some (eI i)]) (st2 := []) (y := m_L_sureLetter) (as := [some (eR 1), some (eI (f (j + 1))), some (eI (f (j + 2))), some (eR 81)]) (w2 := (V, d)) rfl q2 hR9) ?_
    refine rOf (fun R9 hR9 => xLdV (N := 7) (M2 := m_L_law) (pc2 := 763) (r := 0) (ls2 := [some (eR 0), some (eR 1), some (eR 70), some (eR 81), some (eI i), some (eI t)]) (st2 := [eR 70]) (V := V2) (d := d2) (i := i + 1) (k := j + 1) (ok := eOkI) (mk := fun x => .inl x) rfl h02 rfl (wr_nat (by omega) (by omega)) (by omega) hR9) ?_
    refine rOf (fun R9 hR9 => xLdV (N := 5) (M2 := m_L_law) (pc2 := 769) (r := 0) (ls2 := [some (eR 0), some (eR 1), some (eR 70), some (eR 81), some (eI i), some (eI t)]) (st2 := [eI (f (j + 1)), eR 70]) (V := V2) (d := d2) (i := i + 2) (k := j + 2) (ok := eOkI) (mk := fun x => .inl x) rfl h02 rfl (wr_nat (by omega) (by omega)) (by omega) hR9) ?_
    obtain ⟨V3, b3, q3, M3, hb3, fm3⟩ := nqV (d := d2) hn (MI_fr (fun k hk => fr2.2 k (by omega)) M) rfl
    have h03 := (fm3.2 0 (by omega)).trans h02
    have h13 := (fm3.2 1 (by omega)).trans h12
    have h813 := (fm3.2 81 (by omega)).trans o2
    obtain ⟨P3, h703⟩ := MI_70 M3
    have C3 := CI_fr (Nat.le_of_eq fm3.1.symm) (fun k hk => fm3.2 k (by omega)) C2
    refine rOf (fun R9 hR9 => xCallA1 (N := 1) (M2 := m_L_law) (pc2 := 770) (y := m_M_sureLetter) (n := 3) (ls2 := [some (eR 0), some (eR 1), some (eR 70), some (eR 81), some (eI i), some (eI t)]) (st2 := []) (st9 := [eI (f (j + 2)), eI (f (j + 1)), eR 70]) (V := V2) (d := d2) (r := 70) (bs := [eI (f (j + 1)), eI (f (j + 2))]) rfl rfl h702 rfl q3 hR9) ?_
    refine rOf (fun R9 hR9 => xCallA1 (N := 3) (M2 := m_L_law) (pc2 := 776) (y := m_M_thrown) (n := 1) (ls2 := [some (eR 0), some (eR 1), some (eR 70), some (eR 81), some (eI i), some (eI t), some (eI b3)]) (st2 := []) (st9 := [eR 70]) (V := V3) (d := d2) (r := 70) (bs := []) rfl rfl h703 rfl (thrV M3) hR9) ?_
    refine rOf (fun R9 hR9 => xEqT (N := 2) (x := t) (y := t) (A := ev m_L_law 786 [some (eR 0), some (eR 1), some (eR 70), some (eR 81), some (eI i), some (eI t), some (eI b3)] [] (V3, d2)) (B := ev m_L_law 784 [some (eR 0), some (eR 1), some (eR 70), some (eR 81), some (eI i), some (eI t), some (eI b3)] [] (V3, d2)) rfl rfl rfl rfl hR9) ?_
    refine rOf (fun R9 hR9 => xEqT (N := 2) (x := t) (y := 0) (A := ev m_L_law 791 [some (eR 0), some (eR 1), some (eR 70), some (eR 81), some (eI i), some (eI t), some (eI b3)] [] (V3, d2)) (B := ev m_L_law 803 [some (eR 0), some (eR 1), some (eR 70), some (eR 81), some (eI i), some (eI t), some (eI b3)] [] (V3, d2)) rfl (wr_id (by omega) (by omega)) (show wr 0 = 0 by decide) (by omega) hR9) ?_
    refine rOf (fun R9 hR9 => xLdV (N := 3) (M2 := m_L_law) (pc2 := 793) (r := 81) (ls2 := [some (eR 0), some (eR 1), some (eR 70), some (eR 81), some (eI i), some (eI t), some (eI b3)]) (st2 := []) (V := V3) (d := d2) (i := 0) (k := 0) (ok := eOkJ) (mk := fun x => .inr (.inr (.inl x))) rfl h813 rfl (show wr 0 = ((0 : Nat) : Int) by decide) (by omega) hR9) ?_
    refine rOf (fun R9 hR9 => xEqT (N := 4) (x := bLcmp (ot2 0) (wr b3)) (y := 0) (A := ev m_L_law 803 [some (eR 0), some (eR 1), some (eR 70), some (eR 81), some (eI i), some (eI t), some (eI b3)] [] (V3, d2)) (B := ev m_L_law 801 [some (eR 0), some (eR 1), some (eR 70), some (eR 81), some (eI i), some (eI t), some (eI b3)] [] (V3, d2)) rfl (by rw [t2 ht0, hb3 ht0]; exact wrcmp) (show wr 0 = 0 by decide) rfl hR9) ?_
    refine rOf (fun R9 hR9 => xSeg (N := 1) (r := ev m_L_law 3064 [some (eR 0), some (eR 1), some (eR 70), some (eR 81), some (eI i), some (eI t), some (eI b3)] [] (V3, d2)) rfl hR9) ?_
    refine rOf (fun R9 hR9 => xTk 5 (by rfl) rfl hR9) ?_
    exact hK V3 d2 ⟨a, x, t, ot2, C3, M3, h03, h813⟩ dl2
  · refine rOf (fun R9 hR9 => xLdV (N := 6) (M2 := m_L_law) (pc2 := 744) (r := 0) (ls2 := [some (eR 0), some (eR 1), some (eR 70), some (eR 81), some (eI i)]) (st2 := [eR 1]) (V := V) (d := d) (i := i + 1) (k := j + 1) (ok := eOkI) (mk := fun x => .inl x) rfl h0 rfl (wr_nat (by omega) (by omega)) (by omega) hR9) ?_
    refine rOf (fun R9 hR9 => xLdV (N := 5) (M2 := m_L_law) (pc2 := 750) (r := 0) (ls2 := [some (eR 0), some (eR 1), some (eR 70), some (eR 81), some (eI i)]) (st2 := [eI (f (j + 1)), eR 1]) (V := V) (d := d) (i := i + 2) (k := j + 2) (ok := eOkI) (mk := fun x => .inl x) rfl h0 rfl (wr_nat (by omega) (by omega)) (by omega) hR9) ?_
    obtain ⟨V2, ot2, d2, q2, C2, o2, t2, fr2, dl2⟩ := lqV (d := d) hq C h81 rfl
    have h02 := (fr2.2 0 (by omega)).trans h0
    have h702 := (fr2.2 70 (by omega)).trans h70
    obtain ⟨P2, h12⟩ := CI_1 C2
    refine rOf (fun R9 hR9 => xCall (N := 2) (M2 := m_L_law) (pc2 := 752) (ls2 := [some (eR 0), some (eR 1), some (eR 70), some (eR 81), some (eI i)]) (st2 := []) (y := m_L_sureLetter) (as := [some (eR 1), some (eI (f (j + 1))), some (eI (f (j + 2))), some (eR 81)]) (w2 := (V, d)) rfl q2 hR9) ?_
    refine rOf (fun R9 hR9 => xLdV (N := 7) (M2 := m_L_law) (pc2 := 763) (r := 0) (ls2 := [some (eR 0), some (eR 1), some (eR 70), some (eR 81), some (eI i), some (eI t)]) (st2 := [eR 70]) (V := V2) (d := d2) (i := i + 1) (k := j + 1) (ok := eOkI) (mk := fun x => .inl x) rfl h02 rfl (wr_nat (by omega) (by omega)) (by omega) hR9) ?_
    refine rOf (fun R9 hR9 => xLdV (N := 5) (M2 := m_L_law) (pc2 := 769) (r := 0) (ls2 := [some (eR 0), some (eR 1), some (eR 70), some (eR 81), some (eI i), some (eI t)]) (st2 := [eI (f (j + 1)), eR 70]) (V := V2) (d := d2) (i := i + 2) (k := j + 2) (ok := eOkI) (mk := fun x => .inl x) rfl h02 rfl (wr_nat (by omega) (by omega)) (by omega) hR9) ?_
    obtain ⟨V3, b3, q3, M3, hb3, fm3⟩ := nqV (d := d2) hn (MI_fr (fun k hk => fr2.2 k (by omega)) M) rfl
    have h03 := (fm3.2 0 (by omega)).trans h02
    have h13 := (fm3.2 1 (by omega)).trans h12
    have h813 := (fm3.2 81 (by omega)).trans o2
    obtain ⟨P3, h703⟩ := MI_70 M3
    have C3 := CI_fr (Nat.le_of_eq fm3.1.symm) (fun k hk => fm3.2 k (by omega)) C2
    refine rOf (fun R9 hR9 => xCallA1 (N := 1) (M2 := m_L_law) (pc2 := 770) (y := m_M_sureLetter) (n := 3) (ls2 := [some (eR 0), some (eR 1), some (eR 70), some (eR 81), some (eI i), some (eI t)]) (st2 := []) (st9 := [eI (f (j + 2)), eI (f (j + 1)), eR 70]) (V := V2) (d := d2) (r := 70) (bs := [eI (f (j + 1)), eI (f (j + 2))]) rfl rfl h702 rfl q3 hR9) ?_
    refine rOf (fun R9 hR9 => xCallA1 (N := 3) (M2 := m_L_law) (pc2 := 776) (y := m_M_thrown) (n := 1) (ls2 := [some (eR 0), some (eR 1), some (eR 70), some (eR 81), some (eI i), some (eI t), some (eI b3)]) (st2 := []) (st9 := [eR 70]) (V := V3) (d := d2) (r := 70) (bs := []) rfl rfl h703 rfl (thrV M3) hR9) ?_
    refine rOf (fun R9 hR9 => xEqT (N := 2) (x := t) (y := t) (A := ev m_L_law 786 [some (eR 0), some (eR 1), some (eR 70), some (eR 81), some (eI i), some (eI t), some (eI b3)] [] (V3, d2)) (B := ev m_L_law 784 [some (eR 0), some (eR 1), some (eR 70), some (eR 81), some (eI i), some (eI t), some (eI b3)] [] (V3, d2)) rfl rfl rfl rfl hR9) ?_
    refine rOf (fun R9 hR9 => xEqF (N := 2) (x := t) (y := 0) (A := ev m_L_law 791 [some (eR 0), some (eR 1), some (eR 70), some (eR 81), some (eI i), some (eI t), some (eI b3)] [] (V3, d2)) (B := ev m_L_law 803 [some (eR 0), some (eR 1), some (eR 70), some (eR 81), some (eI i), some (eI t), some (eI b3)] [] (V3, d2)) rfl (wr_id (by omega) (by omega)) (show wr 0 = 0 by decide) (by omega) hR9) ?_
    refine rOf (fun R9 hR9 => xSeg (N := 1) (r := ev m_L_law 3064 [some (eR 0), some (eR 1), some (eR 70), some (eR 81), some (eI i), some (eI t), some (eI b3)] [] (V3, d2)) rfl hR9) ?_
    refine rOf (fun R9 hR9 => xTk 5 (by rfl) rfl hR9) ?_
    exact hK V3 d2 ⟨a, x, t, ot2, C3, M3, h03, h813⟩ dl2
theorem k_firstX {V : List eC} {d : Nat × Nat} {L j : Nat} {f : Nat → Int} {i : Int} {Q : (Option eV ⊕ Nat) × eW → Prop} (hi : i = (j : Int)) (hj : j + 6 ≤ L) (hL : L ≤ 3072) (hr : ∀ k, -2147483648 ≤ f k ∧ f k < 2147483648) (h : LI V L f) (hK : ∀ V' d', LI V' L f → dl d d' → Rs (ev m_L_law 3064 [some (eR 0), some (eR 1), some (eR 70), some (eR 81), some (eI i)] [] (V', d')) Q) : Rs (ev m_L_law 902 [some (eR 0), some (eR 1), some (eR 70), some (eR 81), some (eI i)] [] (V, d)) Q := by
  obtain ⟨a, x, t0, ot, C, M, h0, h81⟩ := h
  obtain ⟨P1, h1⟩ := CI_1 C
  obtain ⟨P70, h70⟩ := MI_70 M
  have hI : iA a := CI_I C
  obtain ⟨t, v, ht, hq, hn⟩ := q_firstX hI (hr (j + 1))
  by_cases ht0 : t = 0
  · refine rOf (fun R9 hR9 => xLdV (N := 6) (M2 := m_L_law) (pc2 := 908) (r := 0) (ls2 := [some (eR 0), some (eR 1), some (eR 70), some (eR 81), some (eI i)]) (st2 := [eR 1]) (V := V) (d := d) (i := i + 1) (k := j + 1) (ok := eOkI) (mk := fun x => .inl x) rfl h0 rfl (wr_nat (by omega) (by omega)) (by omega) hR9) ?_
    obtain ⟨V2, ot2, d2, q2, C2, o2, t2, fr2, dl2⟩ := lqV (d := d) hq C h81 rfl
    have h02 := (fr2.2 0 (by omega)).trans h0
    have h702 := (fr2.2 70 (by omega)).trans h70
    obtain ⟨P2, h12⟩ := CI_1 C2
    refine rOf (fun R9 hR9 => xCall (N := 2) (M2 := m_L_law) (pc2 := 910) (ls2 := [some (eR 0), some (eR 1), some (eR 70), some (eR 81), some (eI i)]) (st2 := []) (y := m_L_firstX) (as := [some (eR 1), some (eI (f (j + 1))), some (eR 81)]) (w2 := (V, d)) rfl q2 hR9) ?_
    refine rOf (fun R9 hR9 => xLdV (N := 7) (M2 := m_L_law) (pc2 := 921) (r := 0) (ls2 := [some (eR 0), some (eR 1), some (eR 70), some (eR 81), some (eI i), some (eI t)]) (st2 := [eR 70]) (V := V2) (d := d2) (i := i + 1) (k := j + 1) (ok := eOkI) (mk := fun x => .inl x) rfl h02 rfl (wr_nat (by omega) (by omega)) (by omega) hR9) ?_
    obtain ⟨V3, b3, q3, M3, hb3, fm3⟩ := nqV (d := d2) hn (MI_fr (fun k hk => fr2.2 k (by omega)) M) rfl
    have h03 := (fm3.2 0 (by omega)).trans h02
    have h13 := (fm3.2 1 (by omega)).trans h12
    have h813 := (fm3.2 81 (by omega)).trans o2
    obtain ⟨P3, h703⟩ := MI_70 M3
    have C3 := CI_fr (Nat.le_of_eq fm3.1.symm) (fun k hk => fm3.2 k (by omega)) C2
    refine rOf (fun R9 hR9 => xCallA1 (N := 1) (M2 := m_L_law) (pc2 := 922) (y := m_M_firstX) (n := 2) (ls2 := [some (eR 0), some (eR 1), some (eR 70), some (eR 81), some (eI i), some (eI t)]) (st2 := []) (st9 := [eI (f (j + 1)), eR 70]) (V := V2) (d := d2) (r := 70) (bs := [eI (f (j + 1))]) rfl rfl h702 rfl q3 hR9) ?_
    refine rOf (fun R9 hR9 => xCallA1 (N := 3) (M2 := m_L_law) (pc2 := 928) (y := m_M_thrown) (n := 1) (ls2 := [some (eR 0), some (eR 1), some (eR 70), some (eR 81), some (eI i), some (eI t), some (eI b3)]) (st2 := []) (st9 := [eR 70]) (V := V3) (d := d2) (r := 70) (bs := []) rfl rfl h703 rfl (thrV M3) hR9) ?_
    refine rOf (fun R9 hR9 => xEqT (N := 2) (x := t) (y := t) (A := ev m_L_law 938 [some (eR 0), some (eR 1), some (eR 70), some (eR 81), some (eI i), some (eI t), some (eI b3)] [] (V3, d2)) (B := ev m_L_law 936 [some (eR 0), some (eR 1), some (eR 70), some (eR 81), some (eI i), some (eI t), some (eI b3)] [] (V3, d2)) rfl rfl rfl rfl hR9) ?_
    refine rOf (fun R9 hR9 => xEqT (N := 2) (x := t) (y := 0) (A := ev m_L_law 943 [some (eR 0), some (eR 1), some (eR 70), some (eR 81), some (eI i), some (eI t), some (eI b3)] [] (V3, d2)) (B := ev m_L_law 955 [some (eR 0), some (eR 1), some (eR 70), some (eR 81), some (eI i), some (eI t), some (eI b3)] [] (V3, d2)) rfl (wr_id (by omega) (by omega)) (show wr 0 = 0 by decide) (by omega) hR9) ?_
    refine rOf (fun R9 hR9 => xLdV (N := 3) (M2 := m_L_law) (pc2 := 945) (r := 81) (ls2 := [some (eR 0), some (eR 1), some (eR 70), some (eR 81), some (eI i), some (eI t), some (eI b3)]) (st2 := []) (V := V3) (d := d2) (i := 0) (k := 0) (ok := eOkJ) (mk := fun x => .inr (.inr (.inl x))) rfl h813 rfl (show wr 0 = ((0 : Nat) : Int) by decide) (by omega) hR9) ?_
    refine rOf (fun R9 hR9 => xEqT (N := 4) (x := bLcmp (ot2 0) (wr b3)) (y := 0) (A := ev m_L_law 955 [some (eR 0), some (eR 1), some (eR 70), some (eR 81), some (eI i), some (eI t), some (eI b3)] [] (V3, d2)) (B := ev m_L_law 953 [some (eR 0), some (eR 1), some (eR 70), some (eR 81), some (eI i), some (eI t), some (eI b3)] [] (V3, d2)) rfl (by rw [t2 ht0, hb3 ht0]; exact wrcmp) (show wr 0 = 0 by decide) rfl hR9) ?_
    refine rOf (fun R9 hR9 => xSeg (N := 1) (r := ev m_L_law 3064 [some (eR 0), some (eR 1), some (eR 70), some (eR 81), some (eI i), some (eI t), some (eI b3)] [] (V3, d2)) rfl hR9) ?_
    refine rOf (fun R9 hR9 => xTk 5 (by rfl) rfl hR9) ?_
    exact hK V3 d2 ⟨a, x, t, ot2, C3, M3, h03, h813⟩ dl2
  · refine rOf (fun R9 hR9 => xLdV (N := 6) (M2 := m_L_law) (pc2 := 908) (r := 0) (ls2 := [some (eR 0), some (eR 1), some (eR 70), some (eR 81), some (eI i)]) (st2 := [eR 1]) (V := V) (d := d) (i := i + 1) (k := j + 1) (ok := eOkI) (mk := fun x => .inl x) rfl h0 rfl (wr_nat (by omega) (by omega)) (by omega) hR9) ?_
    obtain ⟨V2, ot2, d2, q2, C2, o2, t2, fr2, dl2⟩ := lqV (d := d) hq C h81 rfl
    have h02 := (fr2.2 0 (by omega)).trans h0
    have h702 := (fr2.2 70 (by omega)).trans h70
    obtain ⟨P2, h12⟩ := CI_1 C2
    refine rOf (fun R9 hR9 => xCall (N := 2) (M2 := m_L_law) (pc2 := 910) (ls2 := [some (eR 0), some (eR 1), some (eR 70), some (eR 81), some (eI i)]) (st2 := []) (y := m_L_firstX) (as := [some (eR 1), some (eI (f (j + 1))), some (eR 81)]) (w2 := (V, d)) rfl q2 hR9) ?_
    refine rOf (fun R9 hR9 => xLdV (N := 7) (M2 := m_L_law) (pc2 := 921) (r := 0) (ls2 := [some (eR 0), some (eR 1), some (eR 70), some (eR 81), some (eI i), some (eI t)]) (st2 := [eR 70]) (V := V2) (d := d2) (i := i + 1) (k := j + 1) (ok := eOkI) (mk := fun x => .inl x) rfl h02 rfl (wr_nat (by omega) (by omega)) (by omega) hR9) ?_
    obtain ⟨V3, b3, q3, M3, hb3, fm3⟩ := nqV (d := d2) hn (MI_fr (fun k hk => fr2.2 k (by omega)) M) rfl
    have h03 := (fm3.2 0 (by omega)).trans h02
    have h13 := (fm3.2 1 (by omega)).trans h12
    have h813 := (fm3.2 81 (by omega)).trans o2
    obtain ⟨P3, h703⟩ := MI_70 M3
    have C3 := CI_fr (Nat.le_of_eq fm3.1.symm) (fun k hk => fm3.2 k (by omega)) C2
    refine rOf (fun R9 hR9 => xCallA1 (N := 1) (M2 := m_L_law) (pc2 := 922) (y := m_M_firstX) (n := 2) (ls2 := [some (eR 0), some (eR 1), some (eR 70), some (eR 81), some (eI i), some (eI t)]) (st2 := []) (st9 := [eI (f (j + 1)), eR 70]) (V := V2) (d := d2) (r := 70) (bs := [eI (f (j + 1))]) rfl rfl h702 rfl q3 hR9) ?_
    refine rOf (fun R9 hR9 => xCallA1 (N := 3) (M2 := m_L_law) (pc2 := 928) (y := m_M_thrown) (n := 1) (ls2 := [some (eR 0), some (eR 1), some (eR 70), some (eR 81), some (eI i), some (eI t), some (eI b3)]) (st2 := []) (st9 := [eR 70]) (V := V3) (d := d2) (r := 70) (bs := []) rfl rfl h703 rfl (thrV M3) hR9) ?_
    refine rOf (fun R9 hR9 => xEqT (N := 2) (x := t) (y := t) (A := ev m_L_law 938 [some (eR 0), some (eR 1), some (eR 70), some (eR 81), some (eI i), some (eI t), some (eI b3)] [] (V3, d2)) (B := ev m_L_law 936 [some (eR 0), some (eR 1), some (eR 70), some (eR 81), some (eI i), some (eI t), some (eI b3)] [] (V3, d2)) rfl rfl rfl rfl hR9) ?_
    refine rOf (fun R9 hR9 => xEqF (N := 2) (x := t) (y := 0) (A := ev m_L_law 943 [some (eR 0), some (eR 1), some (eR 70), some (eR 81), some (eI i), some (eI t), some (eI b3)] [] (V3, d2)) (B := ev m_L_law 955 [some (eR 0), some (eR 1), some (eR 70), some (eR 81), some (eI i), some (eI t), some (eI b3)] [] (V3, d2)) rfl (wr_id (by omega) (by omega)) (show wr 0 = 0 by decide) (by omega) hR9) ?_
    refine rOf (fun R9 hR9 => xSeg (N := 1) (r := ev m_L_law 3064 [some (eR 0), some (eR 1), some (eR 70), some (eR 81), some (eI i), some (eI t), some (eI b3)] [] (V3, d2)) rfl hR9) ?_
    refine rOf (fun R9 hR9 => xTk 5 (by rfl) rfl hR9) ?_
    exact hK V3 d2 ⟨a, x, t, ot2, C3, M3, h03, h813⟩ dl2
theorem k_firstY {V : List eC} {d : Nat × Nat} {L j : Nat} {f : Nat → Int} {i : Int} {Q : (Option eV ⊕ Nat) × eW → Prop} (hi : i = (j : Int)) (hj : j + 6 ≤ L) (hL : L ≤ 3072) (hr : ∀ k, -2147483648 ≤ f k ∧ f k < 2147483648) (h : LI V L f) (hK : ∀ V' d', LI V' L f → dl d d' → Rs (ev m_L_law 3064 [some (eR 0), some (eR 1), some (eR 70), some (eR 81), some (eI i)] [] (V', d')) Q) : Rs (ev m_L_law 958 [some (eR 0), some (eR 1), some (eR 70), some (eR 81), some (eI i)] [] (V, d)) Q := by
  obtain ⟨a, x, t0, ot, C, M, h0, h81⟩ := h
  obtain ⟨P1, h1⟩ := CI_1 C
  obtain ⟨P70, h70⟩ := MI_70 M
  have hI : iA a := CI_I C
  obtain ⟨t, v, ht, hq, hn⟩ := q_firstY hI (hr (j + 1))
  by_cases ht0 : t = 0
  · refine rOf (fun R9 hR9 => xLdV (N := 6) (M2 := m_L_law) (pc2 := 964) (r := 0) (ls2 := [some (eR 0), some (eR 1), some (eR 70), some (eR 81), some (eI i)]) (st2 := [eR 1]) (V := V) (d := d) (i := i + 1) (k := j + 1) (ok := eOkI) (mk := fun x => .inl x) rfl h0 rfl (wr_nat (by omega) (by omega)) (by omega) hR9) ?_
    obtain ⟨V2, ot2, d2, q2, C2, o2, t2, fr2, dl2⟩ := lqV (d := d) hq C h81 rfl
    have h02 := (fr2.2 0 (by omega)).trans h0
    have h702 := (fr2.2 70 (by omega)).trans h70
    obtain ⟨P2, h12⟩ := CI_1 C2
    refine rOf (fun R9 hR9 => xCall (N := 2) (M2 := m_L_law) (pc2 := 966) (ls2 := [some (eR 0), some (eR 1), some (eR 70), some (eR 81), some (eI i)]) (st2 := []) (y := m_L_firstY) (as := [some (eR 1), some (eI (f (j + 1))), some (eR 81)]) (w2 := (V, d)) rfl q2 hR9) ?_
    refine rOf (fun R9 hR9 => xLdV (N := 7) (M2 := m_L_law) (pc2 := 977) (r := 0) (ls2 := [some (eR 0), some (eR 1), some (eR 70), some (eR 81), some (eI i), some (eI t)]) (st2 := [eR 70]) (V := V2) (d := d2) (i := i + 1) (k := j + 1) (ok := eOkI) (mk := fun x => .inl x) rfl h02 rfl (wr_nat (by omega) (by omega)) (by omega) hR9) ?_
    obtain ⟨V3, b3, q3, M3, hb3, fm3⟩ := nqV (d := d2) hn (MI_fr (fun k hk => fr2.2 k (by omega)) M) rfl
    have h03 := (fm3.2 0 (by omega)).trans h02
    have h13 := (fm3.2 1 (by omega)).trans h12
    have h813 := (fm3.2 81 (by omega)).trans o2
    obtain ⟨P3, h703⟩ := MI_70 M3
    have C3 := CI_fr (Nat.le_of_eq fm3.1.symm) (fun k hk => fm3.2 k (by omega)) C2
    refine rOf (fun R9 hR9 => xCallA1 (N := 1) (M2 := m_L_law) (pc2 := 978) (y := m_M_firstY) (n := 2) (ls2 := [some (eR 0), some (eR 1), some (eR 70), some (eR 81), some (eI i), some (eI t)]) (st2 := []) (st9 := [eI (f (j + 1)), eR 70]) (V := V2) (d := d2) (r := 70) (bs := [eI (f (j + 1))]) rfl rfl h702 rfl q3 hR9) ?_
    refine rOf (fun R9 hR9 => xCallA1 (N := 3) (M2 := m_L_law) (pc2 := 984) (y := m_M_thrown) (n := 1) (ls2 := [some (eR 0), some (eR 1), some (eR 70), some (eR 81), some (eI i), some (eI t), some (eI b3)]) (st2 := []) (st9 := [eR 70]) (V := V3) (d := d2) (r := 70) (bs := []) rfl rfl h703 rfl (thrV M3) hR9) ?_
    refine rOf (fun R9 hR9 => xEqT (N := 2) (x := t) (y := t) (A := ev m_L_law 994 [some (eR 0), some (eR 1), some (eR 70), some (eR 81), some (eI i), some (eI t), some (eI b3)] [] (V3, d2)) (B := ev m_L_law 992 [some (eR 0), some (eR 1), some (eR 70), some (eR 81), some (eI i), some (eI t), some (eI b3)] [] (V3, d2)) rfl rfl rfl rfl hR9) ?_
    refine rOf (fun R9 hR9 => xEqT (N := 2) (x := t) (y := 0) (A := ev m_L_law 999 [some (eR 0), some (eR 1), some (eR 70), some (eR 81), some (eI i), some (eI t), some (eI b3)] [] (V3, d2)) (B := ev m_L_law 1011 [some (eR 0), some (eR 1), some (eR 70), some (eR 81), some (eI i), some (eI t), some (eI b3)] [] (V3, d2)) rfl (wr_id (by omega) (by omega)) (show wr 0 = 0 by decide) (by omega) hR9) ?_
    refine rOf (fun R9 hR9 => xLdV (N := 3) (M2 := m_L_law) (pc2 := 1001) (r := 81) (ls2 := [some (eR 0), some (eR 1), some (eR 70), some (eR 81), some (eI i), some (eI t), some (eI b3)]) (st2 := []) (V := V3) (d := d2) (i := 0) (k := 0) (ok := eOkJ) (mk := fun x => .inr (.inr (.inl x))) rfl h813 rfl (show wr 0 = ((0 : Nat) : Int) by decide) (by omega) hR9) ?_
    refine rOf (fun R9 hR9 => xEqT (N := 4) (x := bLcmp (ot2 0) (wr b3)) (y := 0) (A := ev m_L_law 1011 [some (eR 0), some (eR 1), some (eR 70), some (eR 81), some (eI i), some (eI t), some (eI b3)] [] (V3, d2)) (B := ev m_L_law 1009 [some (eR 0), some (eR 1), some (eR 70), some (eR 81), some (eI i), some (eI t), some (eI b3)] [] (V3, d2)) rfl (by rw [t2 ht0, hb3 ht0]; exact wrcmp) (show wr 0 = 0 by decide) rfl hR9) ?_
    refine rOf (fun R9 hR9 => xSeg (N := 1) (r := ev m_L_law 3064 [some (eR 0), some (eR 1), some (eR 70), some (eR 81), some (eI i), some (eI t), some (eI b3)] [] (V3, d2)) rfl hR9) ?_
    refine rOf (fun R9 hR9 => xTk 5 (by rfl) rfl hR9) ?_
    exact hK V3 d2 ⟨a, x, t, ot2, C3, M3, h03, h813⟩ dl2
  · refine rOf (fun R9 hR9 => xLdV (N := 6) (M2 := m_L_law) (pc2 := 964) (r := 0) (ls2 := [some (eR 0), some (eR 1), some (eR 70), some (eR 81), some (eI i)]) (st2 := [eR 1]) (V := V) (d := d) (i := i + 1) (k := j + 1) (ok := eOkI) (mk := fun x => .inl x) rfl h0 rfl (wr_nat (by omega) (by omega)) (by omega) hR9) ?_
    obtain ⟨V2, ot2, d2, q2, C2, o2, t2, fr2, dl2⟩ := lqV (d := d) hq C h81 rfl
    have h02 := (fr2.2 0 (by omega)).trans h0
    have h702 := (fr2.2 70 (by omega)).trans h70
    obtain ⟨P2, h12⟩ := CI_1 C2
    refine rOf (fun R9 hR9 => xCall (N := 2) (M2 := m_L_law) (pc2 := 966) (ls2 := [some (eR 0), some (eR 1), some (eR 70), some (eR 81), some (eI i)]) (st2 := []) (y := m_L_firstY) (as := [some (eR 1), some (eI (f (j + 1))), some (eR 81)]) (w2 := (V, d)) rfl q2 hR9) ?_
    refine rOf (fun R9 hR9 => xLdV (N := 7) (M2 := m_L_law) (pc2 := 977) (r := 0) (ls2 := [some (eR 0), some (eR 1), some (eR 70), some (eR 81), some (eI i), some (eI t)]) (st2 := [eR 70]) (V := V2) (d := d2) (i := i + 1) (k := j + 1) (ok := eOkI) (mk := fun x => .inl x) rfl h02 rfl (wr_nat (by omega) (by omega)) (by omega) hR9) ?_
    obtain ⟨V3, b3, q3, M3, hb3, fm3⟩ := nqV (d := d2) hn (MI_fr (fun k hk => fr2.2 k (by omega)) M) rfl
    have h03 := (fm3.2 0 (by omega)).trans h02
    have h13 := (fm3.2 1 (by omega)).trans h12
    have h813 := (fm3.2 81 (by omega)).trans o2
    obtain ⟨P3, h703⟩ := MI_70 M3
    have C3 := CI_fr (Nat.le_of_eq fm3.1.symm) (fun k hk => fm3.2 k (by omega)) C2
    refine rOf (fun R9 hR9 => xCallA1 (N := 1) (M2 := m_L_law) (pc2 := 978) (y := m_M_firstY) (n := 2) (ls2 := [some (eR 0), some (eR 1), some (eR 70), some (eR 81), some (eI i), some (eI t)]) (st2 := []) (st9 := [eI (f (j + 1)), eR 70]) (V := V2) (d := d2) (r := 70) (bs := [eI (f (j + 1))]) rfl rfl h702 rfl q3 hR9) ?_
    refine rOf (fun R9 hR9 => xCallA1 (N := 3) (M2 := m_L_law) (pc2 := 984) (y := m_M_thrown) (n := 1) (ls2 := [some (eR 0), some (eR 1), some (eR 70), some (eR 81), some (eI i), some (eI t), some (eI b3)]) (st2 := []) (st9 := [eR 70]) (V := V3) (d := d2) (r := 70) (bs := []) rfl rfl h703 rfl (thrV M3) hR9) ?_
    refine rOf (fun R9 hR9 => xEqT (N := 2) (x := t) (y := t) (A := ev m_L_law 994 [some (eR 0), some (eR 1), some (eR 70), some (eR 81), some (eI i), some (eI t), some (eI b3)] [] (V3, d2)) (B := ev m_L_law 992 [some (eR 0), some (eR 1), some (eR 70), some (eR 81), some (eI i), some (eI t), some (eI b3)] [] (V3, d2)) rfl rfl rfl rfl hR9) ?_
    refine rOf (fun R9 hR9 => xEqF (N := 2) (x := t) (y := 0) (A := ev m_L_law 999 [some (eR 0), some (eR 1), some (eR 70), some (eR 81), some (eI i), some (eI t), some (eI b3)] [] (V3, d2)) (B := ev m_L_law 1011 [some (eR 0), some (eR 1), some (eR 70), some (eR 81), some (eI i), some (eI t), some (eI b3)] [] (V3, d2)) rfl (wr_id (by omega) (by omega)) (show wr 0 = 0 by decide) (by omega) hR9) ?_
    refine rOf (fun R9 hR9 => xSeg (N := 1) (r := ev m_L_law 3064 [some (eR 0), some (eR 1), some (eR 70), some (eR 81), some (eI i), some (eI t), some (eI b3)] [] (V3, d2)) rfl hR9) ?_
    refine rOf (fun R9 hR9 => xTk 5 (by rfl) rfl hR9) ?_
    exact hK V3 d2 ⟨a, x, t, ot2, C3, M3, h03, h813⟩ dl2
theorem k_lengthOf {V : List eC} {d : Nat × Nat} {L j : Nat} {f : Nat → Int} {i : Int} {Q : (Option eV ⊕ Nat) × eW → Prop} (hi : i = (j : Int)) (hj : j + 6 ≤ L) (hL : L ≤ 3072) (hr : ∀ k, -2147483648 ≤ f k ∧ f k < 2147483648) (h : LI V L f) (hK : ∀ V' d', LI V' L f → dl d d' → Rs (ev m_L_law 3064 [some (eR 0), some (eR 1), some (eR 70), some (eR 81), some (eI i)] [] (V', d')) Q) : Rs (ev m_L_law 1014 [some (eR 0), some (eR 1), some (eR 70), some (eR 81), some (eI i)] [] (V, d)) Q := by
  obtain ⟨a, x, t0, ot, C, M, h0, h81⟩ := h
  obtain ⟨P1, h1⟩ := CI_1 C
  obtain ⟨P70, h70⟩ := MI_70 M
  have hI : iA a := CI_I C
  obtain ⟨t, v, ht, hq, hn⟩ := q_lengthOf hI (hr (j + 1))
  by_cases ht0 : t = 0
  · refine rOf (fun R9 hR9 => xLdV (N := 6) (M2 := m_L_law) (pc2 := 1020) (r := 0) (ls2 := [some (eR 0), some (eR 1), some (eR 70), some (eR 81), some (eI i)]) (st2 := [eR 1]) (V := V) (d := d) (i := i + 1) (k := j + 1) (ok := eOkI) (mk := fun x => .inl x) rfl h0 rfl (wr_nat (by omega) (by omega)) (by omega) hR9) ?_
    obtain ⟨V2, ot2, d2, q2, C2, o2, t2, fr2, dl2⟩ := lqV (d := d) hq C h81 rfl
    have h02 := (fr2.2 0 (by omega)).trans h0
    have h702 := (fr2.2 70 (by omega)).trans h70
    obtain ⟨P2, h12⟩ := CI_1 C2
    refine rOf (fun R9 hR9 => xCall (N := 2) (M2 := m_L_law) (pc2 := 1022) (ls2 := [some (eR 0), some (eR 1), some (eR 70), some (eR 81), some (eI i)]) (st2 := []) (y := m_L_lengthOf) (as := [some (eR 1), some (eI (f (j + 1))), some (eR 81)]) (w2 := (V, d)) rfl q2 hR9) ?_
    refine rOf (fun R9 hR9 => xLdV (N := 7) (M2 := m_L_law) (pc2 := 1033) (r := 0) (ls2 := [some (eR 0), some (eR 1), some (eR 70), some (eR 81), some (eI i), some (eI t)]) (st2 := [eR 70]) (V := V2) (d := d2) (i := i + 1) (k := j + 1) (ok := eOkI) (mk := fun x => .inl x) rfl h02 rfl (wr_nat (by omega) (by omega)) (by omega) hR9) ?_
    obtain ⟨V3, b3, q3, M3, hb3, fm3⟩ := nqV (d := d2) hn (MI_fr (fun k hk => fr2.2 k (by omega)) M) rfl
    have h03 := (fm3.2 0 (by omega)).trans h02
    have h13 := (fm3.2 1 (by omega)).trans h12
    have h813 := (fm3.2 81 (by omega)).trans o2
    obtain ⟨P3, h703⟩ := MI_70 M3
    have C3 := CI_fr (Nat.le_of_eq fm3.1.symm) (fun k hk => fm3.2 k (by omega)) C2
    refine rOf (fun R9 hR9 => xCallA1 (N := 1) (M2 := m_L_law) (pc2 := 1034) (y := m_M_lengthOf) (n := 2) (ls2 := [some (eR 0), some (eR 1), some (eR 70), some (eR 81), some (eI i), some (eI t)]) (st2 := []) (st9 := [eI (f (j + 1)), eR 70]) (V := V2) (d := d2) (r := 70) (bs := [eI (f (j + 1))]) rfl rfl h702 rfl q3 hR9) ?_
    refine rOf (fun R9 hR9 => xCallA1 (N := 3) (M2 := m_L_law) (pc2 := 1040) (y := m_M_thrown) (n := 1) (ls2 := [some (eR 0), some (eR 1), some (eR 70), some (eR 81), some (eI i), some (eI t), some (eI b3)]) (st2 := []) (st9 := [eR 70]) (V := V3) (d := d2) (r := 70) (bs := []) rfl rfl h703 rfl (thrV M3) hR9) ?_
    refine rOf (fun R9 hR9 => xEqT (N := 2) (x := t) (y := t) (A := ev m_L_law 1050 [some (eR 0), some (eR 1), some (eR 70), some (eR 81), some (eI i), some (eI t), some (eI b3)] [] (V3, d2)) (B := ev m_L_law 1048 [some (eR 0), some (eR 1), some (eR 70), some (eR 81), some (eI i), some (eI t), some (eI b3)] [] (V3, d2)) rfl rfl rfl rfl hR9) ?_
    refine rOf (fun R9 hR9 => xEqT (N := 2) (x := t) (y := 0) (A := ev m_L_law 1055 [some (eR 0), some (eR 1), some (eR 70), some (eR 81), some (eI i), some (eI t), some (eI b3)] [] (V3, d2)) (B := ev m_L_law 1067 [some (eR 0), some (eR 1), some (eR 70), some (eR 81), some (eI i), some (eI t), some (eI b3)] [] (V3, d2)) rfl (wr_id (by omega) (by omega)) (show wr 0 = 0 by decide) (by omega) hR9) ?_
    refine rOf (fun R9 hR9 => xLdV (N := 3) (M2 := m_L_law) (pc2 := 1057) (r := 81) (ls2 := [some (eR 0), some (eR 1), some (eR 70), some (eR 81), some (eI i), some (eI t), some (eI b3)]) (st2 := []) (V := V3) (d := d2) (i := 0) (k := 0) (ok := eOkJ) (mk := fun x => .inr (.inr (.inl x))) rfl h813 rfl (show wr 0 = ((0 : Nat) : Int) by decide) (by omega) hR9) ?_
    refine rOf (fun R9 hR9 => xEqT (N := 4) (x := bLcmp (ot2 0) (wr b3)) (y := 0) (A := ev m_L_law 1067 [some (eR 0), some (eR 1), some (eR 70), some (eR 81), some (eI i), some (eI t), some (eI b3)] [] (V3, d2)) (B := ev m_L_law 1065 [some (eR 0), some (eR 1), some (eR 70), some (eR 81), some (eI i), some (eI t), some (eI b3)] [] (V3, d2)) rfl (by rw [t2 ht0, hb3 ht0]; exact wrcmp) (show wr 0 = 0 by decide) rfl hR9) ?_
    refine rOf (fun R9 hR9 => xSeg (N := 1) (r := ev m_L_law 3064 [some (eR 0), some (eR 1), some (eR 70), some (eR 81), some (eI i), some (eI t), some (eI b3)] [] (V3, d2)) rfl hR9) ?_
    refine rOf (fun R9 hR9 => xTk 5 (by rfl) rfl hR9) ?_
    exact hK V3 d2 ⟨a, x, t, ot2, C3, M3, h03, h813⟩ dl2
  · refine rOf (fun R9 hR9 => xLdV (N := 6) (M2 := m_L_law) (pc2 := 1020) (r := 0) (ls2 := [some (eR 0), some (eR 1), some (eR 70), some (eR 81), some (eI i)]) (st2 := [eR 1]) (V := V) (d := d) (i := i + 1) (k := j + 1) (ok := eOkI) (mk := fun x => .inl x) rfl h0 rfl (wr_nat (by omega) (by omega)) (by omega) hR9) ?_
    obtain ⟨V2, ot2, d2, q2, C2, o2, t2, fr2, dl2⟩ := lqV (d := d) hq C h81 rfl
    have h02 := (fr2.2 0 (by omega)).trans h0
    have h702 := (fr2.2 70 (by omega)).trans h70
    obtain ⟨P2, h12⟩ := CI_1 C2
    refine rOf (fun R9 hR9 => xCall (N := 2) (M2 := m_L_law) (pc2 := 1022) (ls2 := [some (eR 0), some (eR 1), some (eR 70), some (eR 81), some (eI i)]) (st2 := []) (y := m_L_lengthOf) (as := [some (eR 1), some (eI (f (j + 1))), some (eR 81)]) (w2 := (V, d)) rfl q2 hR9) ?_
    refine rOf (fun R9 hR9 => xLdV (N := 7) (M2 := m_L_law) (pc2 := 1033) (r := 0) (ls2 := [some (eR 0), some (eR 1), some (eR 70), some (eR 81), some (eI i), some (eI t)]) (st2 := [eR 70]) (V := V2) (d := d2) (i := i + 1) (k := j + 1) (ok := eOkI) (mk := fun x => .inl x) rfl h02 rfl (wr_nat (by omega) (by omega)) (by omega) hR9) ?_
    obtain ⟨V3, b3, q3, M3, hb3, fm3⟩ := nqV (d := d2) hn (MI_fr (fun k hk => fr2.2 k (by omega)) M) rfl
    have h03 := (fm3.2 0 (by omega)).trans h02
    have h13 := (fm3.2 1 (by omega)).trans h12
    have h813 := (fm3.2 81 (by omega)).trans o2
    obtain ⟨P3, h703⟩ := MI_70 M3
    have C3 := CI_fr (Nat.le_of_eq fm3.1.symm) (fun k hk => fm3.2 k (by omega)) C2
    refine rOf (fun R9 hR9 => xCallA1 (N := 1) (M2 := m_L_law) (pc2 := 1034) (y := m_M_lengthOf) (n := 2) (ls2 := [some (eR 0), some (eR 1), some (eR 70), some (eR 81), some (eI i), some (eI t)]) (st2 := []) (st9 := [eI (f (j + 1)), eR 70]) (V := V2) (d := d2) (r := 70) (bs := [eI (f (j + 1))]) rfl rfl h702 rfl q3 hR9) ?_
    refine rOf (fun R9 hR9 => xCallA1 (N := 3) (M2 := m_L_law) (pc2 := 1040) (y := m_M_thrown) (n := 1) (ls2 := [some (eR 0), some (eR 1), some (eR 70), some (eR 81), some (eI i), some (eI t), some (eI b3)]) (st2 := []) (st9 := [eR 70]) (V := V3) (d := d2) (r := 70) (bs := []) rfl rfl h703 rfl (thrV M3) hR9) ?_
    refine rOf (fun R9 hR9 => xEqT (N := 2) (x := t) (y := t) (A := ev m_L_law 1050 [some (eR 0), some (eR 1), some (eR 70), some (eR 81), some (eI i), some (eI t), some (eI b3)] [] (V3, d2)) (B := ev m_L_law 1048 [some (eR 0), some (eR 1), some (eR 70), some (eR 81), some (eI i), some (eI t), some (eI b3)] [] (V3, d2)) rfl rfl rfl rfl hR9) ?_
    refine rOf (fun R9 hR9 => xEqF (N := 2) (x := t) (y := 0) (A := ev m_L_law 1055 [some (eR 0), some (eR 1), some (eR 70), some (eR 81), some (eI i), some (eI t), some (eI b3)] [] (V3, d2)) (B := ev m_L_law 1067 [some (eR 0), some (eR 1), some (eR 70), some (eR 81), some (eI i), some (eI t), some (eI b3)] [] (V3, d2)) rfl (wr_id (by omega) (by omega)) (show wr 0 = 0 by decide) (by omega) hR9) ?_
    refine rOf (fun R9 hR9 => xSeg (N := 1) (r := ev m_L_law 3064 [some (eR 0), some (eR 1), some (eR 70), some (eR 81), some (eI i), some (eI t), some (eI b3)] [] (V3, d2)) rfl hR9) ?_
    refine rOf (fun R9 hR9 => xTk 5 (by rfl) rfl hR9) ?_
    exact hK V3 d2 ⟨a, x, t, ot2, C3, M3, h03, h813⟩ dl2
theorem k_isDown {V : List eC} {d : Nat × Nat} {L j : Nat} {f : Nat → Int} {i : Int} {Q : (Option eV ⊕ Nat) × eW → Prop} (hi : i = (j : Int)) (hj : j + 6 ≤ L) (hL : L ≤ 3072) (hr : ∀ k, -2147483648 ≤ f k ∧ f k < 2147483648) (h : LI V L f) (hK : ∀ V' d', LI V' L f → dl d d' → Rs (ev m_L_law 3064 [some (eR 0), some (eR 1), some (eR 70), some (eR 81), some (eI i)] [] (V', d')) Q) : Rs (ev m_L_law 1070 [some (eR 0), some (eR 1), some (eR 70), some (eR 81), some (eI i)] [] (V, d)) Q := by
  obtain ⟨a, x, t0, ot, C, M, h0, h81⟩ := h
  obtain ⟨P1, h1⟩ := CI_1 C
  obtain ⟨P70, h70⟩ := MI_70 M
  have hI : iA a := CI_I C
  obtain ⟨t, v, ht, hv9, hq, hn⟩ := q_isDown hI (hr (j + 1))
  by_cases ht0 : t = 0
  · rcases hv9 ht0 with hv1 | hv1
    · refine rOf (fun R9 hR9 => xLdV (N := 6) (M2 := m_L_law) (pc2 := 1076) (r := 0) (ls2 := [some (eR 0), some (eR 1), some (eR 70), some (eR 81), some (eI i)]) (st2 := [eR 1]) (V := V) (d := d) (i := i + 1) (k := j + 1) (ok := eOkI) (mk := fun x => .inl x) rfl h0 rfl (wr_nat (by omega) (by omega)) (by omega) hR9) ?_
      obtain ⟨V2, ot2, d2, q2, C2, o2, t2, fr2, dl2⟩ := lqV (d := d) hq C h81 rfl
      have h02 := (fr2.2 0 (by omega)).trans h0
      have h702 := (fr2.2 70 (by omega)).trans h70
      obtain ⟨P2, h12⟩ := CI_1 C2
      refine rOf (fun R9 hR9 => xCall (N := 2) (M2 := m_L_law) (pc2 := 1078) (ls2 := [some (eR 0), some (eR 1), some (eR 70), some (eR 81), some (eI i)]) (st2 := []) (y := m_L_isDown) (as := [some (eR 1), some (eI (f (j + 1))), some (eR 81)]) (w2 := (V, d)) rfl q2 hR9) ?_
      refine rOf (fun R9 hR9 => xLdV (N := 7) (M2 := m_L_law) (pc2 := 1089) (r := 0) (ls2 := [some (eR 0), some (eR 1), some (eR 70), some (eR 81), some (eI i), some (eI t)]) (st2 := [eR 70]) (V := V2) (d := d2) (i := i + 1) (k := j + 1) (ok := eOkI) (mk := fun x => .inl x) rfl h02 rfl (wr_nat (by omega) (by omega)) (by omega) hR9) ?_
      obtain ⟨V3, b3, q3, M3, hb3, fm3⟩ := nqV (d := d2) hn (MI_fr (fun k hk => fr2.2 k (by omega)) M) rfl
      have h03 := (fm3.2 0 (by omega)).trans h02
      have h13 := (fm3.2 1 (by omega)).trans h12
      have h813 := (fm3.2 81 (by omega)).trans o2
      obtain ⟨P3, h703⟩ := MI_70 M3
      have C3 := CI_fr (Nat.le_of_eq fm3.1.symm) (fun k hk => fm3.2 k (by omega)) C2
      refine rOf (fun R9 hR9 => xCallA1 (N := 1) (M2 := m_L_law) (pc2 := 1090) (y := m_M_isDown) (n := 2) (ls2 := [some (eR 0), some (eR 1), some (eR 70), some (eR 81), some (eI i), some (eI t)]) (st2 := []) (st9 := [eI (f (j + 1)), eR 70]) (V := V2) (d := d2) (r := 70) (bs := [eI (f (j + 1))]) rfl rfl h702 rfl q3 hR9) ?_
      refine rOf (fun R9 hR9 => xCallA1 (N := 3) (M2 := m_L_law) (pc2 := 1096) (y := m_M_thrown) (n := 1) (ls2 := [some (eR 0), some (eR 1), some (eR 70), some (eR 81), some (eI i), some (eI t), some (eI b3)]) (st2 := []) (st9 := [eR 70]) (V := V3) (d := d2) (r := 70) (bs := []) rfl rfl h703 rfl (thrV M3) hR9) ?_
      refine rOf (fun R9 hR9 => xEqT (N := 2) (x := t) (y := t) (A := ev m_L_law 1106 [some (eR 0), some (eR 1), some (eR 70), some (eR 81), some (eI i), some (eI t), some (eI b3)] [] (V3, d2)) (B := ev m_L_law 1104 [some (eR 0), some (eR 1), some (eR 70), some (eR 81), some (eI i), some (eI t), some (eI b3)] [] (V3, d2)) rfl rfl rfl rfl hR9) ?_
      refine rOf (fun R9 hR9 => xEqT (N := 2) (x := t) (y := 0) (A := ev m_L_law 1111 [some (eR 0), some (eR 1), some (eR 70), some (eR 81), some (eI i), some (eI t), some (eI b3)] [] (V3, d2)) (B := ev m_L_law 1130 [some (eR 0), some (eR 1), some (eR 70), some (eR 81), some (eI i), some (eI t), some (eI b3)] [] (V3, d2)) rfl (wr_id (by omega) (by omega)) (show wr 0 = 0 by decide) (by omega) hR9) ?_
      refine rOf (fun R9 hR9 => xLdV (N := 3) (M2 := m_L_law) (pc2 := 1113) (r := 81) (ls2 := [some (eR 0), some (eR 1), some (eR 70), some (eR 81), some (eI i), some (eI t), some (eI b3)]) (st2 := []) (V := V3) (d := d2) (i := 0) (k := 0) (ok := eOkJ) (mk := fun x => .inr (.inr (.inl x))) rfl h813 rfl (show wr 0 = ((0 : Nat) : Int) by decide) (by omega) hR9) ?_
      refine rOf (fun R9 hR9 => xEqF (N := 2) (x := b3) (y := 0) (A := ev m_L_law 1123 [some (eR 0), some (eR 1), some (eR 70), some (eR 81), some (eI i), some (eI t), some (eI b3)] [eJ (ot2 0)] (V3, d2)) (B := ev m_L_law 1119 [some (eR 0), some (eR 1), some (eR 70), some (eR 81), some (eI i), some (eI t), some (eI b3)] [eJ (ot2 0)] (V3, d2)) rfl (show wr b3 = 1 by rw [hb3 ht0, hv1]; decide) (show wr 0 = 0 by decide) (by decide) hR9) ?_
      refine rOf (fun R9 hR9 => xEqT (N := 4) (x := bLcmp (ot2 0) 1) (y := 0) (A := ev m_L_law 1130 [some (eR 0), some (eR 1), some (eR 70), some (eR 81), some (eI i), some (eI t), some (eI b3)] [] (V3, d2)) (B := ev m_L_law 1128 [some (eR 0), some (eR 1), some (eR 70), some (eR 81), some (eI i), some (eI t), some (eI b3)] [] (V3, d2)) rfl (by rw [t2 ht0, hv1]; exact wrcmp1) (show wr 0 = 0 by decide) rfl hR9) ?_
      refine rOf (fun R9 hR9 => xSeg (N := 1) (r := ev m_L_law 3064 [some (eR 0), some (eR 1), some (eR 70), some (eR 81), some (eI i), some (eI t), some (eI b3)] [] (V3, d2)) rfl hR9) ?_
      refine rOf (fun R9 hR9 => xTk 5 (by rfl) rfl hR9) ?_
      exact hK V3 d2 ⟨a, x, t, ot2, C3, M3, h03, h813⟩ dl2
    · refine rOf (fun R9 hR9 => xLdV (N := 6) (M2 := m_L_law) (pc2 := 1076) (r := 0) (ls2 := [some (eR 0), some (eR 1), some (eR 70), some (eR 81), some (eI i)]) (st2 := [eR 1]) (V := V) (d := d) (i := i + 1) (k := j + 1) (ok := eOkI) (mk := fun x => .inl x) rfl h0 rfl (wr_nat (by omega) (by omega)) (by omega) hR9) ?_
      obtain ⟨V2, ot2, d2, q2, C2, o2, t2, fr2, dl2⟩ := lqV (d := d) hq C h81 rfl
      have h02 := (fr2.2 0 (by omega)).trans h0
      have h702 := (fr2.2 70 (by omega)).trans h70
      obtain ⟨P2, h12⟩ := CI_1 C2
      refine rOf (fun R9 hR9 => xCall (N := 2) (M2 := m_L_law) (pc2 := 1078) (ls2 := [some (eR 0), some (eR 1), some (eR 70), some (eR 81), some (eI i)]) (st2 := []) (y := m_L_isDown) (as := [some (eR 1), some (eI (f (j + 1))), some (eR 81)]) (w2 := (V, d)) rfl q2 hR9) ?_
      refine rOf (fun R9 hR9 => xLdV (N := 7) (M2 := m_L_law) (pc2 := 1089) (r := 0) (ls2 := [some (eR 0), some (eR 1), some (eR 70), some (eR 81), some (eI i), some (eI t)]) (st2 := [eR 70]) (V := V2) (d := d2) (i := i + 1) (k := j + 1) (ok := eOkI) (mk := fun x => .inl x) rfl h02 rfl (wr_nat (by omega) (by omega)) (by omega) hR9) ?_
      obtain ⟨V3, b3, q3, M3, hb3, fm3⟩ := nqV (d := d2) hn (MI_fr (fun k hk => fr2.2 k (by omega)) M) rfl
      have h03 := (fm3.2 0 (by omega)).trans h02
      have h13 := (fm3.2 1 (by omega)).trans h12
      have h813 := (fm3.2 81 (by omega)).trans o2
      obtain ⟨P3, h703⟩ := MI_70 M3
      have C3 := CI_fr (Nat.le_of_eq fm3.1.symm) (fun k hk => fm3.2 k (by omega)) C2
      refine rOf (fun R9 hR9 => xCallA1 (N := 1) (M2 := m_L_law) (pc2 := 1090) (y := m_M_isDown) (n := 2) (ls2 := [some (eR 0), some (eR 1), some (eR 70), some (eR 81), some (eI i), some (eI t)]) (st2 := []) (st9 := [eI (f (j + 1)), eR 70]) (V := V2) (d := d2) (r := 70) (bs := [eI (f (j + 1))]) rfl rfl h702 rfl q3 hR9) ?_
      refine rOf (fun R9 hR9 => xCallA1 (N := 3) (M2 := m_L_law) (pc2 := 1096) (y := m_M_thrown) (n := 1) (ls2 := [some (eR 0), some (eR 1), some (eR 70), some (eR 81), some (eI i), some (eI t), some (eI b3)]) (st2 := []) (st9 := [eR 70]) (V := V3) (d := d2) (r := 70) (bs := []) rfl rfl h703 rfl (thrV M3) hR9) ?_
      refine rOf (fun R9 hR9 => xEqT (N := 2) (x := t) (y := t) (A := ev m_L_law 1106 [some (eR 0), some (eR 1), some (eR 70), some (eR 81), some (eI i), some (eI t), some (eI b3)] [] (V3, d2)) (B := ev m_L_law 1104 [some (eR 0), some (eR 1), some (eR 70), some (eR 81), some (eI i), some (eI t), some (eI b3)] [] (V3, d2)) rfl rfl rfl rfl hR9) ?_
      refine rOf (fun R9 hR9 => xEqT (N := 2) (x := t) (y := 0) (A := ev m_L_law 1111 [some (eR 0), some (eR 1), some (eR 70), some (eR 81), some (eI i), some (eI t), some (eI b3)] [] (V3, d2)) (B := ev m_L_law 1130 [some (eR 0), some (eR 1), some (eR 70), some (eR 81), some (eI i), some (eI t), some (eI b3)] [] (V3, d2)) rfl (wr_id (by omega) (by omega)) (show wr 0 = 0 by decide) (by omega) hR9) ?_
      refine rOf (fun R9 hR9 => xLdV (N := 3) (M2 := m_L_law) (pc2 := 1113) (r := 81) (ls2 := [some (eR 0), some (eR 1), some (eR 70), some (eR 81), some (eI i), some (eI t), some (eI b3)]) (st2 := []) (V := V3) (d := d2) (i := 0) (k := 0) (ok := eOkJ) (mk := fun x => .inr (.inr (.inl x))) rfl h813 rfl (show wr 0 = ((0 : Nat) : Int) by decide) (by omega) hR9) ?_
      refine rOf (fun R9 hR9 => xEqT (N := 2) (x := b3) (y := 0) (A := ev m_L_law 1123 [some (eR 0), some (eR 1), some (eR 70), some (eR 81), some (eI i), some (eI t), some (eI b3)] [eJ (ot2 0)] (V3, d2)) (B := ev m_L_law 1119 [some (eR 0), some (eR 1), some (eR 70), some (eR 81), some (eI i), some (eI t), some (eI b3)] [eJ (ot2 0)] (V3, d2)) rfl (show wr b3 = 0 by rw [hb3 ht0, hv1]; decide) (show wr 0 = 0 by decide) (by decide) hR9) ?_
      refine rOf (fun R9 hR9 => xEqT (N := 3) (x := bLcmp (ot2 0) 0) (y := 0) (A := ev m_L_law 1130 [some (eR 0), some (eR 1), some (eR 70), some (eR 81), some (eI i), some (eI t), some (eI b3)] [] (V3, d2)) (B := ev m_L_law 1128 [some (eR 0), some (eR 1), some (eR 70), some (eR 81), some (eI i), some (eI t), some (eI b3)] [] (V3, d2)) rfl (by rw [t2 ht0, hv1]; exact wrcmp0) (show wr 0 = 0 by decide) rfl hR9) ?_
      refine rOf (fun R9 hR9 => xSeg (N := 1) (r := ev m_L_law 3064 [some (eR 0), some (eR 1), some (eR 70), some (eR 81), some (eI i), some (eI t), some (eI b3)] [] (V3, d2)) rfl hR9) ?_
      refine rOf (fun R9 hR9 => xTk 5 (by rfl) rfl hR9) ?_
      exact hK V3 d2 ⟨a, x, t, ot2, C3, M3, h03, h813⟩ dl2
  · refine rOf (fun R9 hR9 => xLdV (N := 6) (M2 := m_L_law) (pc2 := 1076) (r := 0) (ls2 := [some (eR 0), some (eR 1), some (eR 70), some (eR 81), some (eI i)]) (st2 := [eR 1]) (V := V) (d := d) (i := i + 1) (k := j + 1) (ok := eOkI) (mk := fun x => .inl x) rfl h0 rfl (wr_nat (by omega) (by omega)) (by omega) hR9) ?_
    obtain ⟨V2, ot2, d2, q2, C2, o2, t2, fr2, dl2⟩ := lqV (d := d) hq C h81 rfl
    have h02 := (fr2.2 0 (by omega)).trans h0
    have h702 := (fr2.2 70 (by omega)).trans h70
    obtain ⟨P2, h12⟩ := CI_1 C2
    refine rOf (fun R9 hR9 => xCall (N := 2) (M2 := m_L_law) (pc2 := 1078) (ls2 := [some (eR 0), some (eR 1), some (eR 70), some (eR 81), some (eI i)]) (st2 := []) (y := m_L_isDown) (as := [some (eR 1), some (eI (f (j + 1))), some (eR 81)]) (w2 := (V, d)) rfl q2 hR9) ?_
    refine rOf (fun R9 hR9 => xLdV (N := 7) (M2 := m_L_law) (pc2 := 1089) (r := 0) (ls2 := [some (eR 0), some (eR 1), some (eR 70), some (eR 81), some (eI i), some (eI t)]) (st2 := [eR 70]) (V := V2) (d := d2) (i := i + 1) (k := j + 1) (ok := eOkI) (mk := fun x => .inl x) rfl h02 rfl (wr_nat (by omega) (by omega)) (by omega) hR9) ?_
    obtain ⟨V3, b3, q3, M3, hb3, fm3⟩ := nqV (d := d2) hn (MI_fr (fun k hk => fr2.2 k (by omega)) M) rfl
    have h03 := (fm3.2 0 (by omega)).trans h02
    have h13 := (fm3.2 1 (by omega)).trans h12
    have h813 := (fm3.2 81 (by omega)).trans o2
    obtain ⟨P3, h703⟩ := MI_70 M3
    have C3 := CI_fr (Nat.le_of_eq fm3.1.symm) (fun k hk => fm3.2 k (by omega)) C2
    refine rOf (fun R9 hR9 => xCallA1 (N := 1) (M2 := m_L_law) (pc2 := 1090) (y := m_M_isDown) (n := 2) (ls2 := [some (eR 0), some (eR 1), some (eR 70), some (eR 81), some (eI i), some (eI t)]) (st2 := []) (st9 := [eI (f (j + 1)), eR 70]) (V := V2) (d := d2) (r := 70) (bs := [eI (f (j + 1))]) rfl rfl h702 rfl q3 hR9) ?_
    refine rOf (fun R9 hR9 => xCallA1 (N := 3) (M2 := m_L_law) (pc2 := 1096) (y := m_M_thrown) (n := 1) (ls2 := [some (eR 0), some (eR 1), some (eR 70), some (eR 81), some (eI i), some (eI t), some (eI b3)]) (st2 := []) (st9 := [eR 70]) (V := V3) (d := d2) (r := 70) (bs := []) rfl rfl h703 rfl (thrV M3) hR9) ?_
    refine rOf (fun R9 hR9 => xEqT (N := 2) (x := t) (y := t) (A := ev m_L_law 1106 [some (eR 0), some (eR 1), some (eR 70), some (eR 81), some (eI i), some (eI t), some (eI b3)] [] (V3, d2)) (B := ev m_L_law 1104 [some (eR 0), some (eR 1), some (eR 70), some (eR 81), some (eI i), some (eI t), some (eI b3)] [] (V3, d2)) rfl rfl rfl rfl hR9) ?_
    refine rOf (fun R9 hR9 => xEqF (N := 2) (x := t) (y := 0) (A := ev m_L_law 1111 [some (eR 0), some (eR 1), some (eR 70), some (eR 81), some (eI i), some (eI t), some (eI b3)] [] (V3, d2)) (B := ev m_L_law 1130 [some (eR 0), some (eR 1), some (eR 70), some (eR 81), some (eI i), some (eI t), some (eI b3)] [] (V3, d2)) rfl (wr_id (by omega) (by omega)) (show wr 0 = 0 by decide) (by omega) hR9) ?_
    refine rOf (fun R9 hR9 => xSeg (N := 1) (r := ev m_L_law 3064 [some (eR 0), some (eR 1), some (eR 70), some (eR 81), some (eI i), some (eI t), some (eI b3)] [] (V3, d2)) rfl hR9) ?_
    refine rOf (fun R9 hR9 => xTk 5 (by rfl) rfl hR9) ?_
    exact hK V3 d2 ⟨a, x, t, ot2, C3, M3, h03, h813⟩ dl2
theorem k_crossingCount {V : List eC} {d : Nat × Nat} {L j : Nat} {f : Nat → Int} {i : Int} {Q : (Option eV ⊕ Nat) × eW → Prop} (hi : i = (j : Int)) (hj : j + 6 ≤ L) (hL : L ≤ 3072) (hr : ∀ k, -2147483648 ≤ f k ∧ f k < 2147483648) (h : LI V L f) (hK : ∀ V' d', LI V' L f → dl d d' → Rs (ev m_L_law 3064 [some (eR 0), some (eR 1), some (eR 70), some (eR 81), some (eI i)] [] (V', d')) Q) : Rs (ev m_L_law 1133 [some (eR 0), some (eR 1), some (eR 70), some (eR 81), some (eI i)] [] (V, d)) Q := by
  obtain ⟨a, x, t0, ot, C, M, h0, h81⟩ := h
  obtain ⟨P1, h1⟩ := CI_1 C
  obtain ⟨P70, h70⟩ := MI_70 M
  have hI : iA a := CI_I C
  obtain ⟨t, v, ht, hq, hn⟩ := q_crossingCount hI (hr (j + 1))
  by_cases ht0 : t = 0
  · refine rOf (fun R9 hR9 => xLdV (N := 6) (M2 := m_L_law) (pc2 := 1139) (r := 0) (ls2 := [some (eR 0), some (eR 1), some (eR 70), some (eR 81), some (eI i)]) (st2 := [eR 1]) (V := V) (d := d) (i := i + 1) (k := j + 1) (ok := eOkI) (mk := fun x => .inl x) rfl h0 rfl (wr_nat (by omega) (by omega)) (by omega) hR9) ?_
    obtain ⟨V2, ot2, d2, q2, C2, o2, t2, fr2, dl2⟩ := lqV (d := d) hq C h81 rfl
    have h02 := (fr2.2 0 (by omega)).trans h0
    have h702 := (fr2.2 70 (by omega)).trans h70
    obtain ⟨P2, h12⟩ := CI_1 C2
    refine rOf (fun R9 hR9 => xCall (N := 2) (M2 := m_L_law) (pc2 := 1141) (ls2 := [some (eR 0), some (eR 1), some (eR 70), some (eR 81), some (eI i)]) (st2 := []) (y := m_L_crossingCount) (as := [some (eR 1), some (eI (f (j + 1))), some (eR 81)]) (w2 := (V, d)) rfl q2 hR9) ?_
    refine rOf (fun R9 hR9 => xLdV (N := 7) (M2 := m_L_law) (pc2 := 1152) (r := 0) (ls2 := [some (eR 0), some (eR 1), some (eR 70), some (eR 81), some (eI i), some (eI t)]) (st2 := [eR 70]) (V := V2) (d := d2) (i := i + 1) (k := j + 1) (ok := eOkI) (mk := fun x => .inl x) rfl h02 rfl (wr_nat (by omega) (by omega)) (by omega) hR9) ?_
    obtain ⟨V3, b3, q3, M3, hb3, fm3⟩ := nqV (d := d2) hn (MI_fr (fun k hk => fr2.2 k (by omega)) M) rfl
    have h03 := (fm3.2 0 (by omega)).trans h02
    have h13 := (fm3.2 1 (by omega)).trans h12
    have h813 := (fm3.2 81 (by omega)).trans o2
    obtain ⟨P3, h703⟩ := MI_70 M3
    have C3 := CI_fr (Nat.le_of_eq fm3.1.symm) (fun k hk => fm3.2 k (by omega)) C2
    refine rOf (fun R9 hR9 => xCallA1 (N := 1) (M2 := m_L_law) (pc2 := 1153) (y := m_M_crossingCount) (n := 2) (ls2 := [some (eR 0), some (eR 1), some (eR 70), some (eR 81), some (eI i), some (eI t)]) (st2 := []) (st9 := [eI (f (j + 1)), eR 70]) (V := V2) (d := d2) (r := 70) (bs := [eI (f (j + 1))]) rfl rfl h702 rfl q3 hR9) ?_
    refine rOf (fun R9 hR9 => xCallA1 (N := 3) (M2 := m_L_law) (pc2 := 1159) (y := m_M_thrown) (n := 1) (ls2 := [some (eR 0), some (eR 1), some (eR 70), some (eR 81), some (eI i), some (eI t), some (eI b3)]) (st2 := []) (st9 := [eR 70]) (V := V3) (d := d2) (r := 70) (bs := []) rfl rfl h703 rfl (thrV M3) hR9) ?_
    refine rOf (fun R9 hR9 => xEqT (N := 2) (x := t) (y := t) (A := ev m_L_law 1169 [some (eR 0), some (eR 1), some (eR 70), some (eR 81), some (eI i), some (eI t), some (eI b3)] [] (V3, d2)) (B := ev m_L_law 1167 [some (eR 0), some (eR 1), some (eR 70), some (eR 81), some (eI i), some (eI t), some (eI b3)] [] (V3, d2)) rfl rfl rfl rfl hR9) ?_
    refine rOf (fun R9 hR9 => xEqT (N := 2) (x := t) (y := 0) (A := ev m_L_law 1174 [some (eR 0), some (eR 1), some (eR 70), some (eR 81), some (eI i), some (eI t), some (eI b3)] [] (V3, d2)) (B := ev m_L_law 1186 [some (eR 0), some (eR 1), some (eR 70), some (eR 81), some (eI i), some (eI t), some (eI b3)] [] (V3, d2)) rfl (wr_id (by omega) (by omega)) (show wr 0 = 0 by decide) (by omega) hR9) ?_
    refine rOf (fun R9 hR9 => xLdV (N := 3) (M2 := m_L_law) (pc2 := 1176) (r := 81) (ls2 := [some (eR 0), some (eR 1), some (eR 70), some (eR 81), some (eI i), some (eI t), some (eI b3)]) (st2 := []) (V := V3) (d := d2) (i := 0) (k := 0) (ok := eOkJ) (mk := fun x => .inr (.inr (.inl x))) rfl h813 rfl (show wr 0 = ((0 : Nat) : Int) by decide) (by omega) hR9) ?_
    refine rOf (fun R9 hR9 => xEqT (N := 4) (x := bLcmp (ot2 0) (wr b3)) (y := 0) (A := ev m_L_law 1186 [some (eR 0), some (eR 1), some (eR 70), some (eR 81), some (eI i), some (eI t), some (eI b3)] [] (V3, d2)) (B := ev m_L_law 1184 [some (eR 0), some (eR 1), some (eR 70), some (eR 81), some (eI i), some (eI t), some (eI b3)] [] (V3, d2)) rfl (by rw [t2 ht0, hb3 ht0]; exact wrcmp) (show wr 0 = 0 by decide) rfl hR9) ?_
    refine rOf (fun R9 hR9 => xSeg (N := 1) (r := ev m_L_law 3064 [some (eR 0), some (eR 1), some (eR 70), some (eR 81), some (eI i), some (eI t), some (eI b3)] [] (V3, d2)) rfl hR9) ?_
    refine rOf (fun R9 hR9 => xTk 5 (by rfl) rfl hR9) ?_
    exact hK V3 d2 ⟨a, x, t, ot2, C3, M3, h03, h813⟩ dl2
  · refine rOf (fun R9 hR9 => xLdV (N := 6) (M2 := m_L_law) (pc2 := 1139) (r := 0) (ls2 := [some (eR 0), some (eR 1), some (eR 70), some (eR 81), some (eI i)]) (st2 := [eR 1]) (V := V) (d := d) (i := i + 1) (k := j + 1) (ok := eOkI) (mk := fun x => .inl x) rfl h0 rfl (wr_nat (by omega) (by omega)) (by omega) hR9) ?_
    obtain ⟨V2, ot2, d2, q2, C2, o2, t2, fr2, dl2⟩ := lqV (d := d) hq C h81 rfl
    have h02 := (fr2.2 0 (by omega)).trans h0
    have h702 := (fr2.2 70 (by omega)).trans h70
    obtain ⟨P2, h12⟩ := CI_1 C2
    refine rOf (fun R9 hR9 => xCall (N := 2) (M2 := m_L_law) (pc2 := 1141) (ls2 := [some (eR 0), some (eR 1), some (eR 70), some (eR 81), some (eI i)]) (st2 := []) (y := m_L_crossingCount) (as := [some (eR 1), some (eI (f (j + 1))), some (eR 81)]) (w2 := (V, d)) rfl q2 hR9) ?_
    refine rOf (fun R9 hR9 => xLdV (N := 7) (M2 := m_L_law) (pc2 := 1152) (r := 0) (ls2 := [some (eR 0), some (eR 1), some (eR 70), some (eR 81), some (eI i), some (eI t)]) (st2 := [eR 70]) (V := V2) (d := d2) (i := i + 1) (k := j + 1) (ok := eOkI) (mk := fun x => .inl x) rfl h02 rfl (wr_nat (by omega) (by omega)) (by omega) hR9) ?_
    obtain ⟨V3, b3, q3, M3, hb3, fm3⟩ := nqV (d := d2) hn (MI_fr (fun k hk => fr2.2 k (by omega)) M) rfl
    have h03 := (fm3.2 0 (by omega)).trans h02
    have h13 := (fm3.2 1 (by omega)).trans h12
    have h813 := (fm3.2 81 (by omega)).trans o2
    obtain ⟨P3, h703⟩ := MI_70 M3
    have C3 := CI_fr (Nat.le_of_eq fm3.1.symm) (fun k hk => fm3.2 k (by omega)) C2
    refine rOf (fun R9 hR9 => xCallA1 (N := 1) (M2 := m_L_law) (pc2 := 1153) (y := m_M_crossingCount) (n := 2) (ls2 := [some (eR 0), some (eR 1), some (eR 70), some (eR 81), some (eI i), some (eI t)]) (st2 := []) (st9 := [eI (f (j + 1)), eR 70]) (V := V2) (d := d2) (r := 70) (bs := [eI (f (j + 1))]) rfl rfl h702 rfl q3 hR9) ?_
    refine rOf (fun R9 hR9 => xCallA1 (N := 3) (M2 := m_L_law) (pc2 := 1159) (y := m_M_thrown) (n := 1) (ls2 := [some (eR 0), some (eR 1), some (eR 70), some (eR 81), some (eI i), some (eI t), some (eI b3)]) (st2 := []) (st9 := [eR 70]) (V := V3) (d := d2) (r := 70) (bs := []) rfl rfl h703 rfl (thrV M3) hR9) ?_
    refine rOf (fun R9 hR9 => xEqT (N := 2) (x := t) (y := t) (A := ev m_L_law 1169 [some (eR 0), some (eR 1), some (eR 70), some (eR 81), some (eI i), some (eI t), some (eI b3)] [] (V3, d2)) (B := ev m_L_law 1167 [some (eR 0), some (eR 1), some (eR 70), some (eR 81), some (eI i), some (eI t), some (eI b3)] [] (V3, d2)) rfl rfl rfl rfl hR9) ?_
    refine rOf (fun R9 hR9 => xEqF (N := 2) (x := t) (y := 0) (A := ev m_L_law 1174 [some (eR 0), some (eR 1), some (eR 70), some (eR 81), some (eI i), some (eI t), some (eI b3)] [] (V3, d2)) (B := ev m_L_law 1186 [some (eR 0), some (eR 1), some (eR 70), some (eR 81), some (eI i), some (eI t), some (eI b3)] [] (V3, d2)) rfl (wr_id (by omega) (by omega)) (show wr 0 = 0 by decide) (by omega) hR9) ?_
    refine rOf (fun R9 hR9 => xSeg (N := 1) (r := ev m_L_law 3064 [some (eR 0), some (eR 1), some (eR 70), some (eR 81), some (eI i), some (eI t), some (eI b3)] [] (V3, d2)) rfl hR9) ?_
    refine rOf (fun R9 hR9 => xTk 5 (by rfl) rfl hR9) ?_
    exact hK V3 d2 ⟨a, x, t, ot2, C3, M3, h03, h813⟩ dl2
theorem k_crossingSlot {V : List eC} {d : Nat × Nat} {L j : Nat} {f : Nat → Int} {i : Int} {Q : (Option eV ⊕ Nat) × eW → Prop} (hi : i = (j : Int)) (hj : j + 6 ≤ L) (hL : L ≤ 3072) (hr : ∀ k, -2147483648 ≤ f k ∧ f k < 2147483648) (h : LI V L f) (hK : ∀ V' d', LI V' L f → dl d d' → Rs (ev m_L_law 3064 [some (eR 0), some (eR 1), some (eR 70), some (eR 81), some (eI i)] [] (V', d')) Q) : Rs (ev m_L_law 1189 [some (eR 0), some (eR 1), some (eR 70), some (eR 81), some (eI i)] [] (V, d)) Q := by
  obtain ⟨a, x, t0, ot, C, M, h0, h81⟩ := h
  obtain ⟨P1, h1⟩ := CI_1 C
  obtain ⟨P70, h70⟩ := MI_70 M
  have hI : iA a := CI_I C
  obtain ⟨t, v, ht, hq, hn⟩ := q_crossingSlot hI (hr (j + 1)) (hr (j + 2))
  by_cases ht0 : t = 0
  · refine rOf (fun R9 hR9 => xLdV (N := 6) (M2 := m_L_law) (pc2 := 1195) (r := 0) (ls2 := [some (eR 0), some (eR 1), some (eR 70), some (eR 81), some (eI i)]) (st2 := [eR 1]) (V := V) (d := d) (i := i + 1) (k := j + 1) (ok := eOkI) (mk := fun x => .inl x) rfl h0 rfl (wr_nat (by omega) (by omega)) (by omega) hR9) ?_
    refine rOf (fun R9 hR9 => xLdV (N := 5) (M2 := m_L_law) (pc2 := 1201) (r := 0) (ls2 := [some (eR 0), some (eR 1), some (eR 70), some (eR 81), some (eI i)]) (st2 := [eI (f (j + 1)), eR 1]) (V := V) (d := d) (i := i + 2) (k := j + 2) (ok := eOkI) (mk := fun x => .inl x) rfl h0 rfl (wr_nat (by omega) (by omega)) (by omega) hR9) ?_
    obtain ⟨V2, ot2, d2, q2, C2, o2, t2, fr2, dl2⟩ := lqV (d := d) hq C h81 rfl
    have h02 := (fr2.2 0 (by omega)).trans h0
    have h702 := (fr2.2 70 (by omega)).trans h70
    obtain ⟨P2, h12⟩ := CI_1 C2
    refine rOf (fun R9 hR9 => xCall (N := 2) (M2 := m_L_law) (pc2 := 1203) (ls2 := [some (eR 0), some (eR 1), some (eR 70), some (eR 81), some (eI i)]) (st2 := []) (y := m_L_crossingSlot) (as := [some (eR 1), some (eI (f (j + 1))), some (eI (f (j + 2))), some (eR 81)]) (w2 := (V, d)) rfl q2 hR9) ?_
    refine rOf (fun R9 hR9 => xLdV (N := 7) (M2 := m_L_law) (pc2 := 1214) (r := 0) (ls2 := [some (eR 0), some (eR 1), some (eR 70), some (eR 81), some (eI i), some (eI t)]) (st2 := [eR 70]) (V := V2) (d := d2) (i := i + 1) (k := j + 1) (ok := eOkI) (mk := fun x => .inl x) rfl h02 rfl (wr_nat (by omega) (by omega)) (by omega) hR9) ?_
    refine rOf (fun R9 hR9 => xLdV (N := 5) (M2 := m_L_law) (pc2 := 1220) (r := 0) (ls2 := [some (eR 0), some (eR 1), some (eR 70), some (eR 81), some (eI i), some (eI t)]) (st2 := [eI (f (j + 1)), eR 70]) (V := V2) (d := d2) (i := i + 2) (k := j + 2) (ok := eOkI) (mk := fun x => .inl x) rfl h02 rfl (wr_nat (by omega) (by omega)) (by omega) hR9) ?_
    obtain ⟨V3, b3, q3, M3, hb3, fm3⟩ := nqV (d := d2) hn (MI_fr (fun k hk => fr2.2 k (by omega)) M) rfl
    have h03 := (fm3.2 0 (by omega)).trans h02
    have h13 := (fm3.2 1 (by omega)).trans h12
    have h813 := (fm3.2 81 (by omega)).trans o2
    obtain ⟨P3, h703⟩ := MI_70 M3
    have C3 := CI_fr (Nat.le_of_eq fm3.1.symm) (fun k hk => fm3.2 k (by omega)) C2
    refine rOf (fun R9 hR9 => xCallA1 (N := 1) (M2 := m_L_law) (pc2 := 1221) (y := m_M_crossingSlot) (n := 3) (ls2 := [some (eR 0), some (eR 1), some (eR 70), some (eR 81), some (eI i), some (eI t)]) (st2 := []) (st9 := [eI (f (j + 2)), eI (f (j + 1)), eR 70]) (V := V2) (d := d2) (r := 70) (bs := [eI (f (j + 1)), eI (f (j + 2))]) rfl rfl h702 rfl q3 hR9) ?_
    refine rOf (fun R9 hR9 => xCallA1 (N := 3) (M2 := m_L_law) (pc2 := 1227) (y := m_M_thrown) (n := 1) (ls2 := [some (eR 0), some (eR 1), some (eR 70), some (eR 81), some (eI i), some (eI t), some (eI b3)]) (st2 := []) (st9 := [eR 70]) (V := V3) (d := d2) (r := 70) (bs := []) rfl rfl h703 rfl (thrV M3) hR9) ?_
    refine rOf (fun R9 hR9 => xEqT (N := 2) (x := t) (y := t) (A := ev m_L_law 1237 [some (eR 0), some (eR 1), some (eR 70), some (eR 81), some (eI i), some (eI t), some (eI b3)] [] (V3, d2)) (B := ev m_L_law 1235 [some (eR 0), some (eR 1), some (eR 70), some (eR 81), some (eI i), some (eI t), some (eI b3)] [] (V3, d2)) rfl rfl rfl rfl hR9) ?_
    refine rOf (fun R9 hR9 => xEqT (N := 2) (x := t) (y := 0) (A := ev m_L_law 1242 [some (eR 0), some (eR 1), some (eR 70), some (eR 81), some (eI i), some (eI t), some (eI b3)] [] (V3, d2)) (B := ev m_L_law 1254 [some (eR 0), some (eR 1), some (eR 70), some (eR 81), some (eI i), some (eI t), some (eI b3)] [] (V3, d2)) rfl (wr_id (by omega) (by omega)) (show wr 0 = 0 by decide) (by omega) hR9) ?_
    refine rOf (fun R9 hR9 => xLdV (N := 3) (M2 := m_L_law) (pc2 := 1244) (r := 81) (ls2 := [some (eR 0), some (eR 1), some (eR 70), some (eR 81), some (eI i), some (eI t), some (eI b3)]) (st2 := []) (V := V3) (d := d2) (i := 0) (k := 0) (ok := eOkJ) (mk := fun x => .inr (.inr (.inl x))) rfl h813 rfl (show wr 0 = ((0 : Nat) : Int) by decide) (by omega) hR9) ?_
    refine rOf (fun R9 hR9 => xEqT (N := 4) (x := bLcmp (ot2 0) (wr b3)) (y := 0) (A := ev m_L_law 1254 [some (eR 0), some (eR 1), some (eR 70), some (eR 81), some (eI i), some (eI t), some (eI b3)] [] (V3, d2)) (B := ev m_L_law 1252 [some (eR 0), some (eR 1), some (eR 70), some (eR 81), some (eI i), some (eI t), some (eI b3)] [] (V3, d2)) rfl (by rw [t2 ht0, hb3 ht0]; exact wrcmp) (show wr 0 = 0 by decide) rfl hR9) ?_
    refine rOf (fun R9 hR9 => xSeg (N := 1) (r := ev m_L_law 3064 [some (eR 0), some (eR 1), some (eR 70), some (eR 81), some (eI i), some (eI t), some (eI b3)] [] (V3, d2)) rfl hR9) ?_
    refine rOf (fun R9 hR9 => xTk 5 (by rfl) rfl hR9) ?_
    exact hK V3 d2 ⟨a, x, t, ot2, C3, M3, h03, h813⟩ dl2
  · refine rOf (fun R9 hR9 => xLdV (N := 6) (M2 := m_L_law) (pc2 := 1195) (r := 0) (ls2 := [some (eR 0), some (eR 1), some (eR 70), some (eR 81), some (eI i)]) (st2 := [eR 1]) (V := V) (d := d) (i := i + 1) (k := j + 1) (ok := eOkI) (mk := fun x => .inl x) rfl h0 rfl (wr_nat (by omega) (by omega)) (by omega) hR9) ?_
    refine rOf (fun R9 hR9 => xLdV (N := 5) (M2 := m_L_law) (pc2 := 1201) (r := 0) (ls2 := [some (eR 0), some (eR 1), some (eR 70), some (eR 81), some (eI i)]) (st2 := [eI (f (j + 1)), eR 1]) (V := V) (d := d) (i := i + 2) (k := j + 2) (ok := eOkI) (mk := fun x => .inl x) rfl h0 rfl (wr_nat (by omega) (by omega)) (by omega) hR9) ?_
    obtain ⟨V2, ot2, d2, q2, C2, o2, t2, fr2, dl2⟩ := lqV (d := d) hq C h81 rfl
    have h02 := (fr2.2 0 (by omega)).trans h0
    have h702 := (fr2.2 70 (by omega)).trans h70
    obtain ⟨P2, h12⟩ := CI_1 C2
    refine rOf (fun R9 hR9 => xCall (N := 2) (M2 := m_L_law) (pc2 := 1203) (ls2 := [some (eR 0), some (eR 1), some (eR 70), some (eR 81), some (eI i)]) (st2 := []) (y := m_L_crossingSlot) (as := [some (eR 1), some (eI (f (j + 1))), some (eI (f (j + 2))), some (eR 81)]) (w2 := (V, d)) rfl q2 hR9) ?_
    refine rOf (fun R9 hR9 => xLdV (N := 7) (M2 := m_L_law) (pc2 := 1214) (r := 0) (ls2 := [some (eR 0), some (eR 1), some (eR 70), some (eR 81), some (eI i), some (eI t)]) (st2 := [eR 70]) (V := V2) (d := d2) (i := i + 1) (k := j + 1) (ok := eOkI) (mk := fun x => .inl x) rfl h02 rfl (wr_nat (by omega) (by omega)) (by omega) hR9) ?_
    refine rOf (fun R9 hR9 => xLdV (N := 5) (M2 := m_L_law) (pc2 := 1220) (r := 0) (ls2 := [some (eR 0), some (eR 1), some (eR 70), some (eR 81), some (eI i), some (eI t)]) (st2 := [eI (f (j + 1)), eR 70]) (V := V2) (d := d2) (i := i + 2) (k := j + 2) (ok := eOkI) (mk := fun x => .inl x) rfl h02 rfl (wr_nat (by omega) (by omega)) (by omega) hR9) ?_
    obtain ⟨V3, b3, q3, M3, hb3, fm3⟩ := nqV (d := d2) hn (MI_fr (fun k hk => fr2.2 k (by omega)) M) rfl
    have h03 := (fm3.2 0 (by omega)).trans h02
    have h13 := (fm3.2 1 (by omega)).trans h12
    have h813 := (fm3.2 81 (by omega)).trans o2
    obtain ⟨P3, h703⟩ := MI_70 M3
    have C3 := CI_fr (Nat.le_of_eq fm3.1.symm) (fun k hk => fm3.2 k (by omega)) C2
    refine rOf (fun R9 hR9 => xCallA1 (N := 1) (M2 := m_L_law) (pc2 := 1221) (y := m_M_crossingSlot) (n := 3) (ls2 := [some (eR 0), some (eR 1), some (eR 70), some (eR 81), some (eI i), some (eI t)]) (st2 := []) (st9 := [eI (f (j + 2)), eI (f (j + 1)), eR 70]) (V := V2) (d := d2) (r := 70) (bs := [eI (f (j + 1)), eI (f (j + 2))]) rfl rfl h702 rfl q3 hR9) ?_
    refine rOf (fun R9 hR9 => xCallA1 (N := 3) (M2 := m_L_law) (pc2 := 1227) (y := m_M_thrown) (n := 1) (ls2 := [some (eR 0), some (eR 1), some (eR 70), some (eR 81), some (eI i), some (eI t), some (eI b3)]) (st2 := []) (st9 := [eR 70]) (V := V3) (d := d2) (r := 70) (bs := []) rfl rfl h703 rfl (thrV M3) hR9) ?_
    refine rOf (fun R9 hR9 => xEqT (N := 2) (x := t) (y := t) (A := ev m_L_law 1237 [some (eR 0), some (eR 1), some (eR 70), some (eR 81), some (eI i), some (eI t), some (eI b3)] [] (V3, d2)) (B := ev m_L_law 1235 [some (eR 0), some (eR 1), some (eR 70), some (eR 81), some (eI i), some (eI t), some (eI b3)] [] (V3, d2)) rfl rfl rfl rfl hR9) ?_
    refine rOf (fun R9 hR9 => xEqF (N := 2) (x := t) (y := 0) (A := ev m_L_law 1242 [some (eR 0), some (eR 1), some (eR 70), some (eR 81), some (eI i), some (eI t), some (eI b3)] [] (V3, d2)) (B := ev m_L_law 1254 [some (eR 0), some (eR 1), some (eR 70), some (eR 81), some (eI i), some (eI t), some (eI b3)] [] (V3, d2)) rfl (wr_id (by omega) (by omega)) (show wr 0 = 0 by decide) (by omega) hR9) ?_
    refine rOf (fun R9 hR9 => xSeg (N := 1) (r := ev m_L_law 3064 [some (eR 0), some (eR 1), some (eR 70), some (eR 81), some (eI i), some (eI t), some (eI b3)] [] (V3, d2)) rfl hR9) ?_
    refine rOf (fun R9 hR9 => xTk 5 (by rfl) rfl hR9) ?_
    exact hK V3 d2 ⟨a, x, t, ot2, C3, M3, h03, h813⟩ dl2
theorem k_crossingPlace {V : List eC} {d : Nat × Nat} {L j : Nat} {f : Nat → Int} {i : Int} {Q : (Option eV ⊕ Nat) × eW → Prop} (hi : i = (j : Int)) (hj : j + 6 ≤ L) (hL : L ≤ 3072) (hr : ∀ k, -2147483648 ≤ f k ∧ f k < 2147483648) (h : LI V L f) (hK : ∀ V' d', LI V' L f → dl d d' → Rs (ev m_L_law 3064 [some (eR 0), some (eR 1), some (eR 70), some (eR 81), some (eI i)] [] (V', d')) Q) : Rs (ev m_L_law 1257 [some (eR 0), some (eR 1), some (eR 70), some (eR 81), some (eI i)] [] (V, d)) Q := by
  obtain ⟨a, x, t0, ot, C, M, h0, h81⟩ := h
  obtain ⟨P1, h1⟩ := CI_1 C
  obtain ⟨P70, h70⟩ := MI_70 M
  have hI : iA a := CI_I C
  obtain ⟨t, v, ht, hq, hn⟩ := q_crossingPlace hI (hr (j + 1)) (hr (j + 2))
  by_cases ht0 : t = 0
  · refine rOf (fun R9 hR9 => xLdV (N := 6) (M2 := m_L_law) (pc2 := 1263) (r := 0) (ls2 := [some (eR 0), some (eR 1), some (eR 70), some (eR 81), some (eI i)]) (st2 := [eR 1]) (V := V) (d := d) (i := i + 1) (k := j + 1) (ok := eOkI) (mk := fun x => .inl x) rfl h0 rfl (wr_nat (by omega) (by omega)) (by omega) hR9) ?_
    refine rOf (fun R9 hR9 => xLdV (N := 5) (M2 := m_L_law) (pc2 := 1269) (r := 0) (ls2 := [some (eR 0), some (eR 1), some (eR 70), some (eR 81), some (eI i)]) (st2 := [eI (f (j + 1)), eR 1]) (V := V) (d := d) (i := i + 2) (k := j + 2) (ok := eOkI) (mk := fun x => .inl x) rfl h0 rfl (wr_nat (by omega) (by omega)) (by omega) hR9) ?_
    obtain ⟨V2, ot2, d2, q2, C2, o2, t2, fr2, dl2⟩ := lqV (d := d) hq C h81 rfl
    have h02 := (fr2.2 0 (by omega)).trans h0
    have h702 := (fr2.2 70 (by omega)).trans h70
    obtain ⟨P2, h12⟩ := CI_1 C2
    refine rOf (fun R9 hR9 => xCall (N := 2) (M2 := m_L_law) (pc2 := 1271) (ls2 := [some (eR 0), some (eR 1), some (eR 70), some (eR 81), some (eI i)]) (st2 := []) (y := m_L_crossingPlace) (as := [some (eR 1), some (eI (f (j + 1))), some (eI (f (j + 2))), some (eR 81)]) (w2 := (V, d)) rfl q2 hR9) ?_
    refine rOf (fun R9 hR9 => xLdV (N := 7) (M2 := m_L_law) (pc2 := 1282) (r := 0) (ls2 := [some (eR 0), some (eR 1), some (eR 70), some (eR 81), some (eI i), some (eI t)]) (st2 := [eR 70]) (V := V2) (d := d2) (i := i + 1) (k := j + 1) (ok := eOkI) (mk := fun x => .inl x) rfl h02 rfl (wr_nat (by omega) (by omega)) (by omega) hR9) ?_
    refine rOf (fun R9 hR9 => xLdV (N := 5) (M2 := m_L_law) (pc2 := 1288) (r := 0) (ls2 := [some (eR 0), some (eR 1), some (eR 70), some (eR 81), some (eI i), some (eI t)]) (st2 := [eI (f (j + 1)), eR 70]) (V := V2) (d := d2) (i := i + 2) (k := j + 2) (ok := eOkI) (mk := fun x => .inl x) rfl h02 rfl (wr_nat (by omega) (by omega)) (by omega) hR9) ?_
    obtain ⟨V3, b3, q3, M3, hb3, fm3⟩ := nqV (d := d2) hn (MI_fr (fun k hk => fr2.2 k (by omega)) M) rfl
    have h03 := (fm3.2 0 (by omega)).trans h02
    have h13 := (fm3.2 1 (by omega)).trans h12
    have h813 := (fm3.2 81 (by omega)).trans o2
    obtain ⟨P3, h703⟩ := MI_70 M3
    have C3 := CI_fr (Nat.le_of_eq fm3.1.symm) (fun k hk => fm3.2 k (by omega)) C2
    refine rOf (fun R9 hR9 => xCallA1 (N := 1) (M2 := m_L_law) (pc2 := 1289) (y := m_M_crossingPlace) (n := 3) (ls2 := [some (eR 0), some (eR 1), some (eR 70), some (eR 81), some (eI i), some (eI t)]) (st2 := []) (st9 := [eI (f (j + 2)), eI (f (j + 1)), eR 70]) (V := V2) (d := d2) (r := 70) (bs := [eI (f (j + 1)), eI (f (j + 2))]) rfl rfl h702 rfl q3 hR9) ?_
    refine rOf (fun R9 hR9 => xCallA1 (N := 3) (M2 := m_L_law) (pc2 := 1295) (y := m_M_thrown) (n := 1) (ls2 := [some (eR 0), some (eR 1), some (eR 70), some (eR 81), some (eI i), some (eI t), some (eI b3)]) (st2 := []) (st9 := [eR 70]) (V := V3) (d := d2) (r := 70) (bs := []) rfl rfl h703 rfl (thrV M3) hR9) ?_
    refine rOf (fun R9 hR9 => xEqT (N := 2) (x := t) (y := t) (A := ev m_L_law 1305 [some (eR 0), some (eR 1), some (eR 70), some (eR 81), some (eI i), some (eI t), some (eI b3)] [] (V3, d2)) (B := ev m_L_law 1303 [some (eR 0), some (eR 1), some (eR 70), some (eR 81), some (eI i), some (eI t), some (eI b3)] [] (V3, d2)) rfl rfl rfl rfl hR9) ?_
    refine rOf (fun R9 hR9 => xEqT (N := 2) (x := t) (y := 0) (A := ev m_L_law 1310 [some (eR 0), some (eR 1), some (eR 70), some (eR 81), some (eI i), some (eI t), some (eI b3)] [] (V3, d2)) (B := ev m_L_law 1322 [some (eR 0), some (eR 1), some (eR 70), some (eR 81), some (eI i), some (eI t), some (eI b3)] [] (V3, d2)) rfl (wr_id (by omega) (by omega)) (show wr 0 = 0 by decide) (by omega) hR9) ?_
    refine rOf (fun R9 hR9 => xLdV (N := 3) (M2 := m_L_law) (pc2 := 1312) (r := 81) (ls2 := [some (eR 0), some (eR 1), some (eR 70), some (eR 81), some (eI i), some (eI t), some (eI b3)]) (st2 := []) (V := V3) (d := d2) (i := 0) (k := 0) (ok := eOkJ) (mk := fun x => .inr (.inr (.inl x))) rfl h813 rfl (show wr 0 = ((0 : Nat) : Int) by decide) (by omega) hR9) ?_
    refine rOf (fun R9 hR9 => xEqT (N := 4) (x := bLcmp (ot2 0) (wr b3)) (y := 0) (A := ev m_L_law 1322 [some (eR 0), some (eR 1), some (eR 70), some (eR 81), some (eI i), some (eI t), some (eI b3)] [] (V3, d2)) (B := ev m_L_law 1320 [some (eR 0), some (eR 1), some (eR 70), some (eR 81), some (eI i), some (eI t), some (eI b3)] [] (V3, d2)) rfl (by rw [t2 ht0, hb3 ht0]; exact wrcmp) (show wr 0 = 0 by decide) rfl hR9) ?_
    refine rOf (fun R9 hR9 => xSeg (N := 1) (r := ev m_L_law 3064 [some (eR 0), some (eR 1), some (eR 70), some (eR 81), some (eI i), some (eI t), some (eI b3)] [] (V3, d2)) rfl hR9) ?_
    refine rOf (fun R9 hR9 => xTk 5 (by rfl) rfl hR9) ?_
    exact hK V3 d2 ⟨a, x, t, ot2, C3, M3, h03, h813⟩ dl2
  · refine rOf (fun R9 hR9 => xLdV (N := 6) (M2 := m_L_law) (pc2 := 1263) (r := 0) (ls2 := [some (eR 0), some (eR 1), some (eR 70), some (eR 81), some (eI i)]) (st2 := [eR 1]) (V := V) (d := d) (i := i + 1) (k := j + 1) (ok := eOkI) (mk := fun x => .inl x) rfl h0 rfl (wr_nat (by omega) (by omega)) (by omega) hR9) ?_
    refine rOf (fun R9 hR9 => xLdV (N := 5) (M2 := m_L_law) (pc2 := 1269) (r := 0) (ls2 := [some (eR 0), some (eR 1), some (eR 70), some (eR 81), some (eI i)]) (st2 := [eI (f (j + 1)), eR 1]) (V := V) (d := d) (i := i + 2) (k := j + 2) (ok := eOkI) (mk := fun x => .inl x) rfl h0 rfl (wr_nat (by omega) (by omega)) (by omega) hR9) ?_
    obtain ⟨V2, ot2, d2, q2, C2, o2, t2, fr2, dl2⟩ := lqV (d := d) hq C h81 rfl
    have h02 := (fr2.2 0 (by omega)).trans h0
    have h702 := (fr2.2 70 (by omega)).trans h70
    obtain ⟨P2, h12⟩ := CI_1 C2
    refine rOf (fun R9 hR9 => xCall (N := 2) (M2 := m_L_law) (pc2 := 1271) (ls2 := [some (eR 0), some (eR 1), some (eR 70), some (eR 81), some (eI i)]) (st2 := []) (y := m_L_crossingPlace) (as := [some (eR 1), some (eI (f (j + 1))), some (eI (f (j + 2))), some (eR 81)]) (w2 := (V, d)) rfl q2 hR9) ?_
    refine rOf (fun R9 hR9 => xLdV (N := 7) (M2 := m_L_law) (pc2 := 1282) (r := 0) (ls2 := [some (eR 0), some (eR 1), some (eR 70), some (eR 81), some (eI i), some (eI t)]) (st2 := [eR 70]) (V := V2) (d := d2) (i := i + 1) (k := j + 1) (ok := eOkI) (mk := fun x => .inl x) rfl h02 rfl (wr_nat (by omega) (by omega)) (by omega) hR9) ?_
    refine rOf (fun R9 hR9 => xLdV (N := 5) (M2 := m_L_law) (pc2 := 1288) (r := 0) (ls2 := [some (eR 0), some (eR 1), some (eR 70), some (eR 81), some (eI i), some (eI t)]) (st2 := [eI (f (j + 1)), eR 70]) (V := V2) (d := d2) (i := i + 2) (k := j + 2) (ok := eOkI) (mk := fun x => .inl x) rfl h02 rfl (wr_nat (by omega) (by omega)) (by omega) hR9) ?_
    obtain ⟨V3, b3, q3, M3, hb3, fm3⟩ := nqV (d := d2) hn (MI_fr (fun k hk => fr2.2 k (by omega)) M) rfl
    have h03 := (fm3.2 0 (by omega)).trans h02
    have h13 := (fm3.2 1 (by omega)).trans h12
    have h813 := (fm3.2 81 (by omega)).trans o2
    obtain ⟨P3, h703⟩ := MI_70 M3
    have C3 := CI_fr (Nat.le_of_eq fm3.1.symm) (fun k hk => fm3.2 k (by omega)) C2
    refine rOf (fun R9 hR9 => xCallA1 (N := 1) (M2 := m_L_law) (pc2 := 1289) (y := m_M_crossingPlace) (n := 3) (ls2 := [some (eR 0), some (eR 1), some (eR 70), some (eR 81), some (eI i), some (eI t)]) (st2 := []) (st9 := [eI (f (j + 2)), eI (f (j + 1)), eR 70]) (V := V2) (d := d2) (r := 70) (bs := [eI (f (j + 1)), eI (f (j + 2))]) rfl rfl h702 rfl q3 hR9) ?_
    refine rOf (fun R9 hR9 => xCallA1 (N := 3) (M2 := m_L_law) (pc2 := 1295) (y := m_M_thrown) (n := 1) (ls2 := [some (eR 0), some (eR 1), some (eR 70), some (eR 81), some (eI i), some (eI t), some (eI b3)]) (st2 := []) (st9 := [eR 70]) (V := V3) (d := d2) (r := 70) (bs := []) rfl rfl h703 rfl (thrV M3) hR9) ?_
    refine rOf (fun R9 hR9 => xEqT (N := 2) (x := t) (y := t) (A := ev m_L_law 1305 [some (eR 0), some (eR 1), some (eR 70), some (eR 81), some (eI i), some (eI t), some (eI b3)] [] (V3, d2)) (B := ev m_L_law 1303 [some (eR 0), some (eR 1), some (eR 70), some (eR 81), some (eI i), some (eI t), some (eI b3)] [] (V3, d2)) rfl rfl rfl rfl hR9) ?_
    refine rOf (fun R9 hR9 => xEqF (N := 2) (x := t) (y := 0) (A := ev m_L_law 1310 [some (eR 0), some (eR 1), some (eR 70), some (eR 81), some (eI i), some (eI t), some (eI b3)] [] (V3, d2)) (B := ev m_L_law 1322 [some (eR 0), some (eR 1), some (eR 70), some (eR 81), some (eI i), some (eI t), some (eI b3)] [] (V3, d2)) rfl (wr_id (by omega) (by omega)) (show wr 0 = 0 by decide) (by omega) hR9) ?_
    refine rOf (fun R9 hR9 => xSeg (N := 1) (r := ev m_L_law 3064 [some (eR 0), some (eR 1), some (eR 70), some (eR 81), some (eI i), some (eI t), some (eI b3)] [] (V3, d2)) rfl hR9) ?_
    refine rOf (fun R9 hR9 => xTk 5 (by rfl) rfl hR9) ?_
    exact hK V3 d2 ⟨a, x, t, ot2, C3, M3, h03, h813⟩ dl2
theorem k_wordLength {V : List eC} {d : Nat × Nat} {L j : Nat} {f : Nat → Int} {i : Int} {Q : (Option eV ⊕ Nat) × eW → Prop} (hi : i = (j : Int)) (hj : j + 6 ≤ L) (hL : L ≤ 3072) (hr : ∀ k, -2147483648 ≤ f k ∧ f k < 2147483648) (h : LI V L f) (hK : ∀ V' d', LI V' L f → dl d d' → Rs (ev m_L_law 3064 [some (eR 0), some (eR 1), some (eR 70), some (eR 81), some (eI i)] [] (V', d')) Q) : Rs (ev m_L_law 1325 [some (eR 0), some (eR 1), some (eR 70), some (eR 81), some (eI i)] [] (V, d)) Q := by
  obtain ⟨a, x, t0, ot, C, M, h0, h81⟩ := h
  obtain ⟨P1, h1⟩ := CI_1 C
  obtain ⟨P70, h70⟩ := MI_70 M
  have hI : iA a := CI_I C
  obtain ⟨t, v, ht, hq, hn⟩ := q_wordLength hI (hr (j + 1))
  by_cases ht0 : t = 0
  · refine rOf (fun R9 hR9 => xLdV (N := 6) (M2 := m_L_law) (pc2 := 1331) (r := 0) (ls2 := [some (eR 0), some (eR 1), some (eR 70), some (eR 81), some (eI i)]) (st2 := [eR 1]) (V := V) (d := d) (i := i + 1) (k := j + 1) (ok := eOkI) (mk := fun x => .inl x) rfl h0 rfl (wr_nat (by omega) (by omega)) (by omega) hR9) ?_
    obtain ⟨V2, ot2, d2, q2, C2, o2, t2, fr2, dl2⟩ := lqV (d := d) hq C h81 rfl
    have h02 := (fr2.2 0 (by omega)).trans h0
    have h702 := (fr2.2 70 (by omega)).trans h70
    obtain ⟨P2, h12⟩ := CI_1 C2
    refine rOf (fun R9 hR9 => xCall (N := 2) (M2 := m_L_law) (pc2 := 1333) (ls2 := [some (eR 0), some (eR 1), some (eR 70), some (eR 81), some (eI i)]) (st2 := []) (y := m_L_wordLength) (as := [some (eR 1), some (eI (f (j + 1))), some (eR 81)]) (w2 := (V, d)) rfl q2 hR9) ?_
    refine rOf (fun R9 hR9 => xLdV (N := 7) (M2 := m_L_law) (pc2 := 1344) (r := 0) (ls2 := [some (eR 0), some (eR 1), some (eR 70), some (eR 81), some (eI i), some (eI t)]) (st2 := [eR 70]) (V := V2) (d := d2) (i := i + 1) (k := j + 1) (ok := eOkI) (mk := fun x => .inl x) rfl h02 rfl (wr_nat (by omega) (by omega)) (by omega) hR9) ?_
    obtain ⟨V3, b3, q3, M3, hb3, fm3⟩ := nqV (d := d2) hn (MI_fr (fun k hk => fr2.2 k (by omega)) M) rfl
    have h03 := (fm3.2 0 (by omega)).trans h02
    have h13 := (fm3.2 1 (by omega)).trans h12
    have h813 := (fm3.2 81 (by omega)).trans o2
    obtain ⟨P3, h703⟩ := MI_70 M3
    have C3 := CI_fr (Nat.le_of_eq fm3.1.symm) (fun k hk => fm3.2 k (by omega)) C2
    refine rOf (fun R9 hR9 => xCallA1 (N := 1) (M2 := m_L_law) (pc2 := 1345) (y := m_M_wordLength) (n := 2) (ls2 := [some (eR 0), some (eR 1), some (eR 70), some (eR 81), some (eI i), some (eI t)]) (st2 := []) (st9 := [eI (f (j + 1)), eR 70]) (V := V2) (d := d2) (r := 70) (bs := [eI (f (j + 1))]) rfl rfl h702 rfl q3 hR9) ?_
    refine rOf (fun R9 hR9 => xCallA1 (N := 3) (M2 := m_L_law) (pc2 := 1351) (y := m_M_thrown) (n := 1) (ls2 := [some (eR 0), some (eR 1), some (eR 70), some (eR 81), some (eI i), some (eI t), some (eI b3)]) (st2 := []) (st9 := [eR 70]) (V := V3) (d := d2) (r := 70) (bs := []) rfl rfl h703 rfl (thrV M3) hR9) ?_
    refine rOf (fun R9 hR9 => xEqT (N := 2) (x := t) (y := t) (A := ev m_L_law 1361 [some (eR 0), some (eR 1), some (eR 70), some (eR 81), some (eI i), some (eI t), some (eI b3)] [] (V3, d2)) (B := ev m_L_law 1359 [some (eR 0), some (eR 1), some (eR 70), some (eR 81), some (eI i), some (eI t), some (eI b3)] [] (V3, d2)) rfl rfl rfl rfl hR9) ?_
    refine rOf (fun R9 hR9 => xEqT (N := 2) (x := t) (y := 0) (A := ev m_L_law 1366 [some (eR 0), some (eR 1), some (eR 70), some (eR 81), some (eI i), some (eI t), some (eI b3)] [] (V3, d2)) (B := ev m_L_law 1378 [some (eR 0), some (eR 1), some (eR 70), some (eR 81), some (eI i), some (eI t), some (eI b3)] [] (V3, d2)) rfl (wr_id (by omega) (by omega)) (show wr 0 = 0 by decide) (by omega) hR9) ?_
    refine rOf (fun R9 hR9 => xLdV (N := 3) (M2 := m_L_law) (pc2 := 1368) (r := 81) (ls2 := [some (eR 0), some (eR 1), some (eR 70), some (eR 81), some (eI i), some (eI t), some (eI b3)]) (st2 := []) (V := V3) (d := d2) (i := 0) (k := 0) (ok := eOkJ) (mk := fun x => .inr (.inr (.inl x))) rfl h813 rfl (show wr 0 = ((0 : Nat) : Int) by decide) (by omega) hR9) ?_
    refine rOf (fun R9 hR9 => xEqT (N := 4) (x := bLcmp (ot2 0) (wr b3)) (y := 0) (A := ev m_L_law 1378 [some (eR 0), some (eR 1), some (eR 70), some (eR 81), some (eI i), some (eI t), some (eI b3)] [] (V3, d2)) (B := ev m_L_law 1376 [some (eR 0), some (eR 1), some (eR 70), some (eR 81), some (eI i), some (eI t), some (eI b3)] [] (V3, d2)) rfl (by rw [t2 ht0, hb3 ht0]; exact wrcmp) (show wr 0 = 0 by decide) rfl hR9) ?_
    refine rOf (fun R9 hR9 => xSeg (N := 1) (r := ev m_L_law 3064 [some (eR 0), some (eR 1), some (eR 70), some (eR 81), some (eI i), some (eI t), some (eI b3)] [] (V3, d2)) rfl hR9) ?_
    refine rOf (fun R9 hR9 => xTk 5 (by rfl) rfl hR9) ?_
    exact hK V3 d2 ⟨a, x, t, ot2, C3, M3, h03, h813⟩ dl2
  · refine rOf (fun R9 hR9 => xLdV (N := 6) (M2 := m_L_law) (pc2 := 1331) (r := 0) (ls2 := [some (eR 0), some (eR 1), some (eR 70), some (eR 81), some (eI i)]) (st2 := [eR 1]) (V := V) (d := d) (i := i + 1) (k := j + 1) (ok := eOkI) (mk := fun x => .inl x) rfl h0 rfl (wr_nat (by omega) (by omega)) (by omega) hR9) ?_
    obtain ⟨V2, ot2, d2, q2, C2, o2, t2, fr2, dl2⟩ := lqV (d := d) hq C h81 rfl
    have h02 := (fr2.2 0 (by omega)).trans h0
    have h702 := (fr2.2 70 (by omega)).trans h70
    obtain ⟨P2, h12⟩ := CI_1 C2
    refine rOf (fun R9 hR9 => xCall (N := 2) (M2 := m_L_law) (pc2 := 1333) (ls2 := [some (eR 0), some (eR 1), some (eR 70), some (eR 81), some (eI i)]) (st2 := []) (y := m_L_wordLength) (as := [some (eR 1), some (eI (f (j + 1))), some (eR 81)]) (w2 := (V, d)) rfl q2 hR9) ?_
    refine rOf (fun R9 hR9 => xLdV (N := 7) (M2 := m_L_law) (pc2 := 1344) (r := 0) (ls2 := [some (eR 0), some (eR 1), some (eR 70), some (eR 81), some (eI i), some (eI t)]) (st2 := [eR 70]) (V := V2) (d := d2) (i := i + 1) (k := j + 1) (ok := eOkI) (mk := fun x => .inl x) rfl h02 rfl (wr_nat (by omega) (by omega)) (by omega) hR9) ?_
    obtain ⟨V3, b3, q3, M3, hb3, fm3⟩ := nqV (d := d2) hn (MI_fr (fun k hk => fr2.2 k (by omega)) M) rfl
    have h03 := (fm3.2 0 (by omega)).trans h02
    have h13 := (fm3.2 1 (by omega)).trans h12
    have h813 := (fm3.2 81 (by omega)).trans o2
    obtain ⟨P3, h703⟩ := MI_70 M3
    have C3 := CI_fr (Nat.le_of_eq fm3.1.symm) (fun k hk => fm3.2 k (by omega)) C2
    refine rOf (fun R9 hR9 => xCallA1 (N := 1) (M2 := m_L_law) (pc2 := 1345) (y := m_M_wordLength) (n := 2) (ls2 := [some (eR 0), some (eR 1), some (eR 70), some (eR 81), some (eI i), some (eI t)]) (st2 := []) (st9 := [eI (f (j + 1)), eR 70]) (V := V2) (d := d2) (r := 70) (bs := [eI (f (j + 1))]) rfl rfl h702 rfl q3 hR9) ?_
    refine rOf (fun R9 hR9 => xCallA1 (N := 3) (M2 := m_L_law) (pc2 := 1351) (y := m_M_thrown) (n := 1) (ls2 := [some (eR 0), some (eR 1), some (eR 70), some (eR 81), some (eI i), some (eI t), some (eI b3)]) (st2 := []) (st9 := [eR 70]) (V := V3) (d := d2) (r := 70) (bs := []) rfl rfl h703 rfl (thrV M3) hR9) ?_
    refine rOf (fun R9 hR9 => xEqT (N := 2) (x := t) (y := t) (A := ev m_L_law 1361 [some (eR 0), some (eR 1), some (eR 70), some (eR 81), some (eI i), some (eI t), some (eI b3)] [] (V3, d2)) (B := ev m_L_law 1359 [some (eR 0), some (eR 1), some (eR 70), some (eR 81), some (eI i), some (eI t), some (eI b3)] [] (V3, d2)) rfl rfl rfl rfl hR9) ?_
    refine rOf (fun R9 hR9 => xEqF (N := 2) (x := t) (y := 0) (A := ev m_L_law 1366 [some (eR 0), some (eR 1), some (eR 70), some (eR 81), some (eI i), some (eI t), some (eI b3)] [] (V3, d2)) (B := ev m_L_law 1378 [some (eR 0), some (eR 1), some (eR 70), some (eR 81), some (eI i), some (eI t), some (eI b3)] [] (V3, d2)) rfl (wr_id (by omega) (by omega)) (show wr 0 = 0 by decide) (by omega) hR9) ?_
    refine rOf (fun R9 hR9 => xSeg (N := 1) (r := ev m_L_law 3064 [some (eR 0), some (eR 1), some (eR 70), some (eR 81), some (eI i), some (eI t), some (eI b3)] [] (V3, d2)) rfl hR9) ?_
    refine rOf (fun R9 hR9 => xTk 5 (by rfl) rfl hR9) ?_
    exact hK V3 d2 ⟨a, x, t, ot2, C3, M3, h03, h813⟩ dl2
theorem k_letterOf {V : List eC} {d : Nat × Nat} {L j : Nat} {f : Nat → Int} {i : Int} {Q : (Option eV ⊕ Nat) × eW → Prop} (hi : i = (j : Int)) (hj : j + 6 ≤ L) (hL : L ≤ 3072) (hr : ∀ k, -2147483648 ≤ f k ∧ f k < 2147483648) (h : LI V L f) (hK : ∀ V' d', LI V' L f → dl d d' → Rs (ev m_L_law 3064 [some (eR 0), some (eR 1), some (eR 70), some (eR 81), some (eI i)] [] (V', d')) Q) : Rs (ev m_L_law 1381 [some (eR 0), some (eR 1), some (eR 70), some (eR 81), some (eI i)] [] (V, d)) Q := by
  obtain ⟨a, x, t0, ot, C, M, h0, h81⟩ := h
  obtain ⟨P1, h1⟩ := CI_1 C
  obtain ⟨P70, h70⟩ := MI_70 M
  have hI : iA a := CI_I C
  obtain ⟨t, v, ht, hq, hn⟩ := q_letterOf hI (hr (j + 1)) (hr (j + 2))
  by_cases ht0 : t = 0
  · refine rOf (fun R9 hR9 => xLdV (N := 6) (M2 := m_L_law) (pc2 := 1387) (r := 0) (ls2 := [some (eR 0), some (eR 1), some (eR 70), some (eR 81), some (eI i)]) (st2 := [eR 1]) (V := V) (d := d) (i := i + 1) (k := j + 1) (ok := eOkI) (mk := fun x => .inl x) rfl h0 rfl (wr_nat (by omega) (by omega)) (by omega) hR9) ?_
    refine rOf (fun R9 hR9 => xLdV (N := 5) (M2 := m_L_law) (pc2 := 1393) (r := 0) (ls2 := [some (eR 0), some (eR 1), some (eR 70), some (eR 81), some (eI i)]) (st2 := [eI (f (j + 1)), eR 1]) (V := V) (d := d) (i := i + 2) (k := j + 2) (ok := eOkI) (mk := fun x => .inl x) rfl h0 rfl (wr_nat (by omega) (by omega)) (by omega) hR9) ?_
    obtain ⟨V2, ot2, d2, q2, C2, o2, t2, fr2, dl2⟩ := lqV (d := d) hq C h81 rfl
    have h02 := (fr2.2 0 (by omega)).trans h0
    have h702 := (fr2.2 70 (by omega)).trans h70
    obtain ⟨P2, h12⟩ := CI_1 C2
    refine rOf (fun R9 hR9 => xCall (N := 2) (M2 := m_L_law) (pc2 := 1395) (ls2 := [some (eR 0), some (eR 1), some (eR 70), some (eR 81), some (eI i)]) (st2 := []) (y := m_L_letterOf) (as := [some (eR 1), some (eI (f (j + 1))), some (eI (f (j + 2))), some (eR 81)]) (w2 := (V, d)) rfl q2 hR9) ?_
    refine rOf (fun R9 hR9 => xLdV (N := 7) (M2 := m_L_law) (pc2 := 1406) (r := 0) (ls2 := [some (eR 0), some (eR 1), some (eR 70), some (eR 81), some (eI i), some (eI t)]) (st2 := [eR 70]) (V := V2) (d := d2) (i := i + 1) (k := j + 1) (ok := eOkI) (mk := fun x => .inl x) rfl h02 rfl (wr_nat (by omega) (by omega)) (by omega) hR9) ?_
    refine rOf (fun R9 hR9 => xLdV (N := 5) (M2 := m_L_law) (pc2 := 1412) (r := 0) (ls2 := [some (eR 0), some (eR 1), some (eR 70), some (eR 81), some (eI i), some (eI t)]) (st2 := [eI (f (j + 1)), eR 70]) (V := V2) (d := d2) (i := i + 2) (k := j + 2) (ok := eOkI) (mk := fun x => .inl x) rfl h02 rfl (wr_nat (by omega) (by omega)) (by omega) hR9) ?_
    obtain ⟨V3, b3, q3, M3, hb3, fm3⟩ := nqV (d := d2) hn (MI_fr (fun k hk => fr2.2 k (by omega)) M) rfl
    have h03 := (fm3.2 0 (by omega)).trans h02
    have h13 := (fm3.2 1 (by omega)).trans h12
    have h813 := (fm3.2 81 (by omega)).trans o2
    obtain ⟨P3, h703⟩ := MI_70 M3
    have C3 := CI_fr (Nat.le_of_eq fm3.1.symm) (fun k hk => fm3.2 k (by omega)) C2
    refine rOf (fun R9 hR9 => xCallA1 (N := 1) (M2 := m_L_law) (pc2 := 1413) (y := m_M_letterOf) (n := 3) (ls2 := [some (eR 0), some (eR 1), some (eR 70), some (eR 81), some (eI i), some (eI t)]) (st2 := []) (st9 := [eI (f (j + 2)), eI (f (j + 1)), eR 70]) (V := V2) (d := d2) (r := 70) (bs := [eI (f (j + 1)), eI (f (j + 2))]) rfl rfl h702 rfl q3 hR9) ?_
    refine rOf (fun R9 hR9 => xCallA1 (N := 3) (M2 := m_L_law) (pc2 := 1419) (y := m_M_thrown) (n := 1) (ls2 := [some (eR 0), some (eR 1), some (eR 70), some (eR 81), some (eI i), some (eI t), some (eI b3)]) (st2 := []) (st9 := [eR 70]) (V := V3) (d := d2) (r := 70) (bs := []) rfl rfl h703 rfl (thrV M3) hR9) ?_
    refine rOf (fun R9 hR9 => xEqT (N := 2) (x := t) (y := t) (A := ev m_L_law 1429 [some (eR 0), some (eR 1), some (eR 70), some (eR 81), some (eI i), some (eI t), some (eI b3)] [] (V3, d2)) (B := ev m_L_law 1427 [some (eR 0), some (eR 1), some (eR 70), some (eR 81), some (eI i), some (eI t), some (eI b3)] [] (V3, d2)) rfl rfl rfl rfl hR9) ?_
    refine rOf (fun R9 hR9 => xEqT (N := 2) (x := t) (y := 0) (A := ev m_L_law 1434 [some (eR 0), some (eR 1), some (eR 70), some (eR 81), some (eI i), some (eI t), some (eI b3)] [] (V3, d2)) (B := ev m_L_law 1446 [some (eR 0), some (eR 1), some (eR 70), some (eR 81), some (eI i), some (eI t), some (eI b3)] [] (V3, d2)) rfl (wr_id (by omega) (by omega)) (show wr 0 = 0 by decide) (by omega) hR9) ?_
    refine rOf (fun R9 hR9 => xLdV (N := 3) (M2 := m_L_law) (pc2 := 1436) (r := 81) (ls2 := [some (eR 0), some (eR 1), some (eR 70), some (eR 81), some (eI i), some (eI t), some (eI b3)]) (st2 := []) (V := V3) (d := d2) (i := 0) (k := 0) (ok := eOkJ) (mk := fun x => .inr (.inr (.inl x))) rfl h813 rfl (show wr 0 = ((0 : Nat) : Int) by decide) (by omega) hR9) ?_
    refine rOf (fun R9 hR9 => xEqT (N := 4) (x := bLcmp (ot2 0) (wr b3)) (y := 0) (A := ev m_L_law 1446 [some (eR 0), some (eR 1), some (eR 70), some (eR 81), some (eI i), some (eI t), some (eI b3)] [] (V3, d2)) (B := ev m_L_law 1444 [some (eR 0), some (eR 1), some (eR 70), some (eR 81), some (eI i), some (eI t), some (eI b3)] [] (V3, d2)) rfl (by rw [t2 ht0, hb3 ht0]; exact wrcmp) (show wr 0 = 0 by decide) rfl hR9) ?_
    refine rOf (fun R9 hR9 => xSeg (N := 1) (r := ev m_L_law 3064 [some (eR 0), some (eR 1), some (eR 70), some (eR 81), some (eI i), some (eI t), some (eI b3)] [] (V3, d2)) rfl hR9) ?_
    refine rOf (fun R9 hR9 => xTk 5 (by rfl) rfl hR9) ?_
    exact hK V3 d2 ⟨a, x, t, ot2, C3, M3, h03, h813⟩ dl2
  · refine rOf (fun R9 hR9 => xLdV (N := 6) (M2 := m_L_law) (pc2 := 1387) (r := 0) (ls2 := [some (eR 0), some (eR 1), some (eR 70), some (eR 81), some (eI i)]) (st2 := [eR 1]) (V := V) (d := d) (i := i + 1) (k := j + 1) (ok := eOkI) (mk := fun x => .inl x) rfl h0 rfl (wr_nat (by omega) (by omega)) (by omega) hR9) ?_
    refine rOf (fun R9 hR9 => xLdV (N := 5) (M2 := m_L_law) (pc2 := 1393) (r := 0) (ls2 := [some (eR 0), some (eR 1), some (eR 70), some (eR 81), some (eI i)]) (st2 := [eI (f (j + 1)), eR 1]) (V := V) (d := d) (i := i + 2) (k := j + 2) (ok := eOkI) (mk := fun x => .inl x) rfl h0 rfl (wr_nat (by omega) (by omega)) (by omega) hR9) ?_
    obtain ⟨V2, ot2, d2, q2, C2, o2, t2, fr2, dl2⟩ := lqV (d := d) hq C h81 rfl
    have h02 := (fr2.2 0 (by omega)).trans h0
    have h702 := (fr2.2 70 (by omega)).trans h70
    obtain ⟨P2, h12⟩ := CI_1 C2
    refine rOf (fun R9 hR9 => xCall (N := 2) (M2 := m_L_law) (pc2 := 1395) (ls2 := [some (eR 0), some (eR 1), some (eR 70), some (eR 81), some (eI i)]) (st2 := []) (y := m_L_letterOf) (as := [some (eR 1), some (eI (f (j + 1))), some (eI (f (j + 2))), some (eR 81)]) (w2 := (V, d)) rfl q2 hR9) ?_
    refine rOf (fun R9 hR9 => xLdV (N := 7) (M2 := m_L_law) (pc2 := 1406) (r := 0) (ls2 := [some (eR 0), some (eR 1), some (eR 70), some (eR 81), some (eI i), some (eI t)]) (st2 := [eR 70]) (V := V2) (d := d2) (i := i + 1) (k := j + 1) (ok := eOkI) (mk := fun x => .inl x) rfl h02 rfl (wr_nat (by omega) (by omega)) (by omega) hR9) ?_
    refine rOf (fun R9 hR9 => xLdV (N := 5) (M2 := m_L_law) (pc2 := 1412) (r := 0) (ls2 := [some (eR 0), some (eR 1), some (eR 70), some (eR 81), some (eI i), some (eI t)]) (st2 := [eI (f (j + 1)), eR 70]) (V := V2) (d := d2) (i := i + 2) (k := j + 2) (ok := eOkI) (mk := fun x => .inl x) rfl h02 rfl (wr_nat (by omega) (by omega)) (by omega) hR9) ?_
    obtain ⟨V3, b3, q3, M3, hb3, fm3⟩ := nqV (d := d2) hn (MI_fr (fun k hk => fr2.2 k (by omega)) M) rfl
    have h03 := (fm3.2 0 (by omega)).trans h02
    have h13 := (fm3.2 1 (by omega)).trans h12
    have h813 := (fm3.2 81 (by omega)).trans o2
    obtain ⟨P3, h703⟩ := MI_70 M3
    have C3 := CI_fr (Nat.le_of_eq fm3.1.symm) (fun k hk => fm3.2 k (by omega)) C2
    refine rOf (fun R9 hR9 => xCallA1 (N := 1) (M2 := m_L_law) (pc2 := 1413) (y := m_M_letterOf) (n := 3) (ls2 := [some (eR 0), some (eR 1), some (eR 70), some (eR 81), some (eI i), some (eI t)]) (st2 := []) (st9 := [eI (f (j + 2)), eI (f (j + 1)), eR 70]) (V := V2) (d := d2) (r := 70) (bs := [eI (f (j + 1)), eI (f (j + 2))]) rfl rfl h702 rfl q3 hR9) ?_
    refine rOf (fun R9 hR9 => xCallA1 (N := 3) (M2 := m_L_law) (pc2 := 1419) (y := m_M_thrown) (n := 1) (ls2 := [some (eR 0), some (eR 1), some (eR 70), some (eR 81), some (eI i), some (eI t), some (eI b3)]) (st2 := []) (st9 := [eR 70]) (V := V3) (d := d2) (r := 70) (bs := []) rfl rfl h703 rfl (thrV M3) hR9) ?_
    refine rOf (fun R9 hR9 => xEqT (N := 2) (x := t) (y := t) (A := ev m_L_law 1429 [some (eR 0), some (eR 1), some (eR 70), some (eR 81), some (eI i), some (eI t), some (eI b3)] [] (V3, d2)) (B := ev m_L_law 1427 [some (eR 0), some (eR 1), some (eR 70), some (eR 81), some (eI i), some (eI t), some (eI b3)] [] (V3, d2)) rfl rfl rfl rfl hR9) ?_
    refine rOf (fun R9 hR9 => xEqF (N := 2) (x := t) (y := 0) (A := ev m_L_law 1434 [some (eR 0), some (eR 1), some (eR 70), some (eR 81), some (eI i), some (eI t), some (eI b3)] [] (V3, d2)) (B := ev m_L_law 1446 [some (eR 0), some (eR 1), some (eR 70), some (eR 81), some (eI i), some (eI t), some (eI b3)] [] (V3, d2)) rfl (wr_id (by omega) (by omega)) (show wr 0 = 0 by decide) (by omega) hR9) ?_
    refine rOf (fun R9 hR9 => xSeg (N := 1) (r := ev m_L_law 3064 [some (eR 0), some (eR 1), some (eR 70), some (eR 81), some (eI i), some (eI t), some (eI b3)] [] (V3, d2)) rfl hR9) ?_
    refine rOf (fun R9 hR9 => xTk 5 (by rfl) rfl hR9) ?_
    exact hK V3 d2 ⟨a, x, t, ot2, C3, M3, h03, h813⟩ dl2
theorem k_prizeOf {V : List eC} {d : Nat × Nat} {L j : Nat} {f : Nat → Int} {i : Int} {Q : (Option eV ⊕ Nat) × eW → Prop} (hi : i = (j : Int)) (hj : j + 6 ≤ L) (hL : L ≤ 3072) (hr : ∀ k, -2147483648 ≤ f k ∧ f k < 2147483648) (h : LI V L f) (hK : ∀ V' d', LI V' L f → dl d d' → Rs (ev m_L_law 3064 [some (eR 0), some (eR 1), some (eR 70), some (eR 81), some (eI i)] [] (V', d')) Q) : Rs (ev m_L_law 1449 [some (eR 0), some (eR 1), some (eR 70), some (eR 81), some (eI i)] [] (V, d)) Q := by
  obtain ⟨a, x, t0, ot, C, M, h0, h81⟩ := h
  obtain ⟨P1, h1⟩ := CI_1 C
  obtain ⟨P70, h70⟩ := MI_70 M
  have hI : iA a := CI_I C
  obtain ⟨t, v, ht, hq, hn⟩ := q_prizeOf hI (hr (j + 1))
  by_cases ht0 : t = 0
  · refine rOf (fun R9 hR9 => xLdV (N := 6) (M2 := m_L_law) (pc2 := 1455) (r := 0) (ls2 := [some (eR 0), some (eR 1), some (eR 70), some (eR 81), some (eI i)]) (st2 := [eR 1]) (V := V) (d := d) (i := i + 1) (k := j + 1) (ok := eOkI) (mk := fun x => .inl x) rfl h0 rfl (wr_nat (by omega) (by omega)) (by omega) hR9) ?_
    obtain ⟨V2, ot2, d2, q2, C2, o2, t2, fr2, dl2⟩ := lqV (d := d) hq C h81 rfl
    have h02 := (fr2.2 0 (by omega)).trans h0
    have h702 := (fr2.2 70 (by omega)).trans h70
    obtain ⟨P2, h12⟩ := CI_1 C2
    refine rOf (fun R9 hR9 => xCall (N := 2) (M2 := m_L_law) (pc2 := 1457) (ls2 := [some (eR 0), some (eR 1), some (eR 70), some (eR 81), some (eI i)]) (st2 := []) (y := m_L_prizeOf) (as := [some (eR 1), some (eI (f (j + 1))), some (eR 81)]) (w2 := (V, d)) rfl q2 hR9) ?_
    refine rOf (fun R9 hR9 => xLdV (N := 7) (M2 := m_L_law) (pc2 := 1468) (r := 0) (ls2 := [some (eR 0), some (eR 1), some (eR 70), some (eR 81), some (eI i), some (eI t)]) (st2 := [eR 70]) (V := V2) (d := d2) (i := i + 1) (k := j + 1) (ok := eOkI) (mk := fun x => .inl x) rfl h02 rfl (wr_nat (by omega) (by omega)) (by omega) hR9) ?_
    obtain ⟨V3, b3, q3, M3, hb3, fm3⟩ := nqV (d := d2) hn (MI_fr (fun k hk => fr2.2 k (by omega)) M) rfl
    have h03 := (fm3.2 0 (by omega)).trans h02
    have h13 := (fm3.2 1 (by omega)).trans h12
    have h813 := (fm3.2 81 (by omega)).trans o2
    obtain ⟨P3, h703⟩ := MI_70 M3
    have C3 := CI_fr (Nat.le_of_eq fm3.1.symm) (fun k hk => fm3.2 k (by omega)) C2
    refine rOf (fun R9 hR9 => xCallA1 (N := 1) (M2 := m_L_law) (pc2 := 1469) (y := m_M_prizeOf) (n := 2) (ls2 := [some (eR 0), some (eR 1), some (eR 70), some (eR 81), some (eI i), some (eI t)]) (st2 := []) (st9 := [eI (f (j + 1)), eR 70]) (V := V2) (d := d2) (r := 70) (bs := [eI (f (j + 1))]) rfl rfl h702 rfl q3 hR9) ?_
    refine rOf (fun R9 hR9 => xCallA1 (N := 3) (M2 := m_L_law) (pc2 := 1475) (y := m_M_thrown) (n := 1) (ls2 := [some (eR 0), some (eR 1), some (eR 70), some (eR 81), some (eI i), some (eI t), some (eI b3)]) (st2 := []) (st9 := [eR 70]) (V := V3) (d := d2) (r := 70) (bs := []) rfl rfl h703 rfl (thrV M3) hR9) ?_
    refine rOf (fun R9 hR9 => xEqT (N := 2) (x := t) (y := t) (A := ev m_L_law 1485 [some (eR 0), some (eR 1), some (eR 70), some (eR 81), some (eI i), some (eI t), some (eI b3)] [] (V3, d2)) (B := ev m_L_law 1483 [some (eR 0), some (eR 1), some (eR 70), some (eR 81), some (eI i), some (eI t), some (eI b3)] [] (V3, d2)) rfl rfl rfl rfl hR9) ?_
    refine rOf (fun R9 hR9 => xEqT (N := 2) (x := t) (y := 0) (A := ev m_L_law 1490 [some (eR 0), some (eR 1), some (eR 70), some (eR 81), some (eI i), some (eI t), some (eI b3)] [] (V3, d2)) (B := ev m_L_law 1502 [some (eR 0), some (eR 1), some (eR 70), some (eR 81), some (eI i), some (eI t), some (eI b3)] [] (V3, d2)) rfl (wr_id (by omega) (by omega)) (show wr 0 = 0 by decide) (by omega) hR9) ?_
    refine rOf (fun R9 hR9 => xLdV (N := 3) (M2 := m_L_law) (pc2 := 1492) (r := 81) (ls2 := [some (eR 0), some (eR 1), some (eR 70), some (eR 81), some (eI i), some (eI t), some (eI b3)]) (st2 := []) (V := V3) (d := d2) (i := 0) (k := 0) (ok := eOkJ) (mk := fun x => .inr (.inr (.inl x))) rfl h813 rfl (show wr 0 = ((0 : Nat) : Int) by decide) (by omega) hR9) ?_
    refine rOf (fun R9 hR9 => xEqT (N := 4) (x := bLcmp (ot2 0) (wr b3)) (y := 0) (A := ev m_L_law 1502 [some (eR 0), some (eR 1), some (eR 70), some (eR 81), some (eI i), some (eI t), some (eI b3)] [] (V3, d2)) (B := ev m_L_law 1500 [some (eR 0), some (eR 1), some (eR 70), some (eR 81), some (eI i), some (eI t), some (eI b3)] [] (V3, d2)) rfl (by rw [t2 ht0, hb3 ht0]; exact wrcmp) (show wr 0 = 0 by decide) rfl hR9) ?_
    refine rOf (fun R9 hR9 => xSeg (N := 1) (r := ev m_L_law 3064 [some (eR 0), some (eR 1), some (eR 70), some (eR 81), some (eI i), some (eI t), some (eI b3)] [] (V3, d2)) rfl hR9) ?_
    refine rOf (fun R9 hR9 => xTk 5 (by rfl) rfl hR9) ?_
    exact hK V3 d2 ⟨a, x, t, ot2, C3, M3, h03, h813⟩ dl2
  · refine rOf (fun R9 hR9 => xLdV (N := 6) (M2 := m_L_law) (pc2 := 1455) (r := 0) (ls2 := [some (eR 0), some (eR 1), some (eR 70), some (eR 81), some (eI i)]) (st2 := [eR 1]) (V := V) (d := d) (i := i + 1) (k := j + 1) (ok := eOkI) (mk := fun x => .inl x) rfl h0 rfl (wr_nat (by omega) (by omega)) (by omega) hR9) ?_
    obtain ⟨V2, ot2, d2, q2, C2, o2, t2, fr2, dl2⟩ := lqV (d := d) hq C h81 rfl
    have h02 := (fr2.2 0 (by omega)).trans h0
    have h702 := (fr2.2 70 (by omega)).trans h70
    obtain ⟨P2, h12⟩ := CI_1 C2
    refine rOf (fun R9 hR9 => xCall (N := 2) (M2 := m_L_law) (pc2 := 1457) (ls2 := [some (eR 0), some (eR 1), some (eR 70), some (eR 81), some (eI i)]) (st2 := []) (y := m_L_prizeOf) (as := [some (eR 1), some (eI (f (j + 1))), some (eR 81)]) (w2 := (V, d)) rfl q2 hR9) ?_
    refine rOf (fun R9 hR9 => xLdV (N := 7) (M2 := m_L_law) (pc2 := 1468) (r := 0) (ls2 := [some (eR 0), some (eR 1), some (eR 70), some (eR 81), some (eI i), some (eI t)]) (st2 := [eR 70]) (V := V2) (d := d2) (i := i + 1) (k := j + 1) (ok := eOkI) (mk := fun x => .inl x) rfl h02 rfl (wr_nat (by omega) (by omega)) (by omega) hR9) ?_
    obtain ⟨V3, b3, q3, M3, hb3, fm3⟩ := nqV (d := d2) hn (MI_fr (fun k hk => fr2.2 k (by omega)) M) rfl
    have h03 := (fm3.2 0 (by omega)).trans h02
    have h13 := (fm3.2 1 (by omega)).trans h12
    have h813 := (fm3.2 81 (by omega)).trans o2
    obtain ⟨P3, h703⟩ := MI_70 M3
    have C3 := CI_fr (Nat.le_of_eq fm3.1.symm) (fun k hk => fm3.2 k (by omega)) C2
    refine rOf (fun R9 hR9 => xCallA1 (N := 1) (M2 := m_L_law) (pc2 := 1469) (y := m_M_prizeOf) (n := 2) (ls2 := [some (eR 0), some (eR 1), some (eR 70), some (eR 81), some (eI i), some (eI t)]) (st2 := []) (st9 := [eI (f (j + 1)), eR 70]) (V := V2) (d := d2) (r := 70) (bs := [eI (f (j + 1))]) rfl rfl h702 rfl q3 hR9) ?_
    refine rOf (fun R9 hR9 => xCallA1 (N := 3) (M2 := m_L_law) (pc2 := 1475) (y := m_M_thrown) (n := 1) (ls2 := [some (eR 0), some (eR 1), some (eR 70), some (eR 81), some (eI i), some (eI t), some (eI b3)]) (st2 := []) (st9 := [eR 70]) (V := V3) (d := d2) (r := 70) (bs := []) rfl rfl h703 rfl (thrV M3) hR9) ?_
    refine rOf (fun R9 hR9 => xEqT (N := 2) (x := t) (y := t) (A := ev m_L_law 1485 [some (eR 0), some (eR 1), some (eR 70), some (eR 81), some (eI i), some (eI t), some (eI b3)] [] (V3, d2)) (B := ev m_L_law 1483 [some (eR 0), some (eR 1), some (eR 70), some (eR 81), some (eI i), some (eI t), some (eI b3)] [] (V3, d2)) rfl rfl rfl rfl hR9) ?_
    refine rOf (fun R9 hR9 => xEqF (N := 2) (x := t) (y := 0) (A := ev m_L_law 1490 [some (eR 0), some (eR 1), some (eR 70), some (eR 81), some (eI i), some (eI t), some (eI b3)] [] (V3, d2)) (B := ev m_L_law 1502 [some (eR 0), some (eR 1), some (eR 70), some (eR 81), some (eI i), some (eI t), some (eI b3)] [] (V3, d2)) rfl (wr_id (by omega) (by omega)) (show wr 0 = 0 by decide) (by omega) hR9) ?_
    refine rOf (fun R9 hR9 => xSeg (N := 1) (r := ev m_L_law 3064 [some (eR 0), some (eR 1), some (eR 70), some (eR 81), some (eI i), some (eI t), some (eI b3)] [] (V3, d2)) rfl hR9) ?_
    refine rOf (fun R9 hR9 => xTk 5 (by rfl) rfl hR9) ?_
    exact hK V3 d2 ⟨a, x, t, ot2, C3, M3, h03, h813⟩ dl2
theorem k_wordsWith {V : List eC} {d : Nat × Nat} {L j : Nat} {f : Nat → Int} {i : Int} {Q : (Option eV ⊕ Nat) × eW → Prop} (hi : i = (j : Int)) (hj : j + 6 ≤ L) (hL : L ≤ 3072) (hr : ∀ k, -2147483648 ≤ f k ∧ f k < 2147483648) (h : LI V L f) (hK : ∀ V' d', LI V' L f → dl d d' → Rs (ev m_L_law 3064 [some (eR 0), some (eR 1), some (eR 70), some (eR 81), some (eI i)] [] (V', d')) Q) : Rs (ev m_L_law 1505 [some (eR 0), some (eR 1), some (eR 70), some (eR 81), some (eI i)] [] (V, d)) Q := by
  obtain ⟨a, x, t0, ot, C, M, h0, h81⟩ := h
  obtain ⟨P1, h1⟩ := CI_1 C
  obtain ⟨P70, h70⟩ := MI_70 M
  have hI : iA a := CI_I C
  obtain ⟨t, v, ht, hq, hn⟩ := q_wordsWith hI (hr (j + 1))
  by_cases ht0 : t = 0
  · refine rOf (fun R9 hR9 => xLdV (N := 6) (M2 := m_L_law) (pc2 := 1511) (r := 0) (ls2 := [some (eR 0), some (eR 1), some (eR 70), some (eR 81), some (eI i)]) (st2 := [eR 1]) (V := V) (d := d) (i := i + 1) (k := j + 1) (ok := eOkI) (mk := fun x => .inl x) rfl h0 rfl (wr_nat (by omega) (by omega)) (by omega) hR9) ?_
    obtain ⟨V2, ot2, d2, q2, C2, o2, t2, fr2, dl2⟩ := lqV (d := d) hq C h81 rfl
    have h02 := (fr2.2 0 (by omega)).trans h0
    have h702 := (fr2.2 70 (by omega)).trans h70
    obtain ⟨P2, h12⟩ := CI_1 C2
    refine rOf (fun R9 hR9 => xCall (N := 2) (M2 := m_L_law) (pc2 := 1513) (ls2 := [some (eR 0), some (eR 1), some (eR 70), some (eR 81), some (eI i)]) (st2 := []) (y := m_L_wordsWith) (as := [some (eR 1), some (eI (f (j + 1))), some (eR 81)]) (w2 := (V, d)) rfl q2 hR9) ?_
    refine rOf (fun R9 hR9 => xLdV (N := 7) (M2 := m_L_law) (pc2 := 1524) (r := 0) (ls2 := [some (eR 0), some (eR 1), some (eR 70), some (eR 81), some (eI i), some (eI t)]) (st2 := [eR 70]) (V := V2) (d := d2) (i := i + 1) (k := j + 1) (ok := eOkI) (mk := fun x => .inl x) rfl h02 rfl (wr_nat (by omega) (by omega)) (by omega) hR9) ?_
    obtain ⟨V3, b3, q3, M3, hb3, fm3⟩ := nqV (d := d2) hn (MI_fr (fun k hk => fr2.2 k (by omega)) M) rfl
    have h03 := (fm3.2 0 (by omega)).trans h02
    have h13 := (fm3.2 1 (by omega)).trans h12
    have h813 := (fm3.2 81 (by omega)).trans o2
    obtain ⟨P3, h703⟩ := MI_70 M3
    have C3 := CI_fr (Nat.le_of_eq fm3.1.symm) (fun k hk => fm3.2 k (by omega)) C2
    refine rOf (fun R9 hR9 => xCallA1 (N := 1) (M2 := m_L_law) (pc2 := 1525) (y := m_M_wordsWith) (n := 2) (ls2 := [some (eR 0), some (eR 1), some (eR 70), some (eR 81), some (eI i), some (eI t)]) (st2 := []) (st9 := [eI (f (j + 1)), eR 70]) (V := V2) (d := d2) (r := 70) (bs := [eI (f (j + 1))]) rfl rfl h702 rfl q3 hR9) ?_
    refine rOf (fun R9 hR9 => xCallA1 (N := 3) (M2 := m_L_law) (pc2 := 1531) (y := m_M_thrown) (n := 1) (ls2 := [some (eR 0), some (eR 1), some (eR 70), some (eR 81), some (eI i), some (eI t), some (eI b3)]) (st2 := []) (st9 := [eR 70]) (V := V3) (d := d2) (r := 70) (bs := []) rfl rfl h703 rfl (thrV M3) hR9) ?_
    refine rOf (fun R9 hR9 => xEqT (N := 2) (x := t) (y := t) (A := ev m_L_law 1541 [some (eR 0), some (eR 1), some (eR 70), some (eR 81), some (eI i), some (eI t), some (eI b3)] [] (V3, d2)) (B := ev m_L_law 1539 [some (eR 0), some (eR 1), some (eR 70), some (eR 81), some (eI i), some (eI t), some (eI b3)] [] (V3, d2)) rfl rfl rfl rfl hR9) ?_
    refine rOf (fun R9 hR9 => xEqT (N := 2) (x := t) (y := 0) (A := ev m_L_law 1546 [some (eR 0), some (eR 1), some (eR 70), some (eR 81), some (eI i), some (eI t), some (eI b3)] [] (V3, d2)) (B := ev m_L_law 1558 [some (eR 0), some (eR 1), some (eR 70), some (eR 81), some (eI i), some (eI t), some (eI b3)] [] (V3, d2)) rfl (wr_id (by omega) (by omega)) (show wr 0 = 0 by decide) (by omega) hR9) ?_
    refine rOf (fun R9 hR9 => xLdV (N := 3) (M2 := m_L_law) (pc2 := 1548) (r := 81) (ls2 := [some (eR 0), some (eR 1), some (eR 70), some (eR 81), some (eI i), some (eI t), some (eI b3)]) (st2 := []) (V := V3) (d := d2) (i := 0) (k := 0) (ok := eOkJ) (mk := fun x => .inr (.inr (.inl x))) rfl h813 rfl (show wr 0 = ((0 : Nat) : Int) by decide) (by omega) hR9) ?_
    refine rOf (fun R9 hR9 => xEqT (N := 4) (x := bLcmp (ot2 0) (wr b3)) (y := 0) (A := ev m_L_law 1558 [some (eR 0), some (eR 1), some (eR 70), some (eR 81), some (eI i), some (eI t), some (eI b3)] [] (V3, d2)) (B := ev m_L_law 1556 [some (eR 0), some (eR 1), some (eR 70), some (eR 81), some (eI i), some (eI t), some (eI b3)] [] (V3, d2)) rfl (by rw [t2 ht0, hb3 ht0]; exact wrcmp) (show wr 0 = 0 by decide) rfl hR9) ?_
    refine rOf (fun R9 hR9 => xSeg (N := 1) (r := ev m_L_law 3064 [some (eR 0), some (eR 1), some (eR 70), some (eR 81), some (eI i), some (eI t), some (eI b3)] [] (V3, d2)) rfl hR9) ?_
    refine rOf (fun R9 hR9 => xTk 5 (by rfl) rfl hR9) ?_
    exact hK V3 d2 ⟨a, x, t, ot2, C3, M3, h03, h813⟩ dl2
  · refine rOf (fun R9 hR9 => xLdV (N := 6) (M2 := m_L_law) (pc2 := 1511) (r := 0) (ls2 := [some (eR 0), some (eR 1), some (eR 70), some (eR 81), some (eI i)]) (st2 := [eR 1]) (V := V) (d := d) (i := i + 1) (k := j + 1) (ok := eOkI) (mk := fun x => .inl x) rfl h0 rfl (wr_nat (by omega) (by omega)) (by omega) hR9) ?_
    obtain ⟨V2, ot2, d2, q2, C2, o2, t2, fr2, dl2⟩ := lqV (d := d) hq C h81 rfl
    have h02 := (fr2.2 0 (by omega)).trans h0
    have h702 := (fr2.2 70 (by omega)).trans h70
    obtain ⟨P2, h12⟩ := CI_1 C2
    refine rOf (fun R9 hR9 => xCall (N := 2) (M2 := m_L_law) (pc2 := 1513) (ls2 := [some (eR 0), some (eR 1), some (eR 70), some (eR 81), some (eI i)]) (st2 := []) (y := m_L_wordsWith) (as := [some (eR 1), some (eI (f (j + 1))), some (eR 81)]) (w2 := (V, d)) rfl q2 hR9) ?_
    refine rOf (fun R9 hR9 => xLdV (N := 7) (M2 := m_L_law) (pc2 := 1524) (r := 0) (ls2 := [some (eR 0), some (eR 1), some (eR 70), some (eR 81), some (eI i), some (eI t)]) (st2 := [eR 70]) (V := V2) (d := d2) (i := i + 1) (k := j + 1) (ok := eOkI) (mk := fun x => .inl x) rfl h02 rfl (wr_nat (by omega) (by omega)) (by omega) hR9) ?_
    obtain ⟨V3, b3, q3, M3, hb3, fm3⟩ := nqV (d := d2) hn (MI_fr (fun k hk => fr2.2 k (by omega)) M) rfl
    have h03 := (fm3.2 0 (by omega)).trans h02
    have h13 := (fm3.2 1 (by omega)).trans h12
    have h813 := (fm3.2 81 (by omega)).trans o2
    obtain ⟨P3, h703⟩ := MI_70 M3
    have C3 := CI_fr (Nat.le_of_eq fm3.1.symm) (fun k hk => fm3.2 k (by omega)) C2
    refine rOf (fun R9 hR9 => xCallA1 (N := 1) (M2 := m_L_law) (pc2 := 1525) (y := m_M_wordsWith) (n := 2) (ls2 := [some (eR 0), some (eR 1), some (eR 70), some (eR 81), some (eI i), some (eI t)]) (st2 := []) (st9 := [eI (f (j + 1)), eR 70]) (V := V2) (d := d2) (r := 70) (bs := [eI (f (j + 1))]) rfl rfl h702 rfl q3 hR9) ?_
    refine rOf (fun R9 hR9 => xCallA1 (N := 3) (M2 := m_L_law) (pc2 := 1531) (y := m_M_thrown) (n := 1) (ls2 := [some (eR 0), some (eR 1), some (eR 70), some (eR 81), some (eI i), some (eI t), some (eI b3)]) (st2 := []) (st9 := [eR 70]) (V := V3) (d := d2) (r := 70) (bs := []) rfl rfl h703 rfl (thrV M3) hR9) ?_
    refine rOf (fun R9 hR9 => xEqT (N := 2) (x := t) (y := t) (A := ev m_L_law 1541 [some (eR 0), some (eR 1), some (eR 70), some (eR 81), some (eI i), some (eI t), some (eI b3)] [] (V3, d2)) (B := ev m_L_law 1539 [some (eR 0), some (eR 1), some (eR 70), some (eR 81), some (eI i), some (eI t), some (eI b3)] [] (V3, d2)) rfl rfl rfl rfl hR9) ?_
    refine rOf (fun R9 hR9 => xEqF (N := 2) (x := t) (y := 0) (A := ev m_L_law 1546 [some (eR 0), some (eR 1), some (eR 70), some (eR 81), some (eI i), some (eI t), some (eI b3)] [] (V3, d2)) (B := ev m_L_law 1558 [some (eR 0), some (eR 1), some (eR 70), some (eR 81), some (eI i), some (eI t), some (eI b3)] [] (V3, d2)) rfl (wr_id (by omega) (by omega)) (show wr 0 = 0 by decide) (by omega) hR9) ?_
    refine rOf (fun R9 hR9 => xSeg (N := 1) (r := ev m_L_law 3064 [some (eR 0), some (eR 1), some (eR 70), some (eR 81), some (eI i), some (eI t), some (eI b3)] [] (V3, d2)) rfl hR9) ?_
    refine rOf (fun R9 hR9 => xTk 5 (by rfl) rfl hR9) ?_
    exact hK V3 d2 ⟨a, x, t, ot2, C3, M3, h03, h813⟩ dl2
theorem k_prizeOfLetter {V : List eC} {d : Nat × Nat} {L j : Nat} {f : Nat → Int} {i : Int} {Q : (Option eV ⊕ Nat) × eW → Prop} (hi : i = (j : Int)) (hj : j + 6 ≤ L) (hL : L ≤ 3072) (hr : ∀ k, -2147483648 ≤ f k ∧ f k < 2147483648) (h : LI V L f) (hK : ∀ V' d', LI V' L f → dl d d' → Rs (ev m_L_law 3064 [some (eR 0), some (eR 1), some (eR 70), some (eR 81), some (eI i)] [] (V', d')) Q) : Rs (ev m_L_law 1561 [some (eR 0), some (eR 1), some (eR 70), some (eR 81), some (eI i)] [] (V, d)) Q := by
  obtain ⟨a, x, t0, ot, C, M, h0, h81⟩ := h
  obtain ⟨P1, h1⟩ := CI_1 C
  obtain ⟨P70, h70⟩ := MI_70 M
  have hI : iA a := CI_I C
  obtain ⟨t, v, ht, hq, hn⟩ := q_prizeOfLetter hI (hr (j + 1))
  by_cases ht0 : t = 0
  · refine rOf (fun R9 hR9 => xLdV (N := 6) (M2 := m_L_law) (pc2 := 1567) (r := 0) (ls2 := [some (eR 0), some (eR 1), some (eR 70), some (eR 81), some (eI i)]) (st2 := [eR 1]) (V := V) (d := d) (i := i + 1) (k := j + 1) (ok := eOkI) (mk := fun x => .inl x) rfl h0 rfl (wr_nat (by omega) (by omega)) (by omega) hR9) ?_
    obtain ⟨V2, ot2, d2, q2, C2, o2, t2, fr2, dl2⟩ := lqV (d := d) hq C h81 rfl
    have h02 := (fr2.2 0 (by omega)).trans h0
    have h702 := (fr2.2 70 (by omega)).trans h70
    obtain ⟨P2, h12⟩ := CI_1 C2
    refine rOf (fun R9 hR9 => xCall (N := 2) (M2 := m_L_law) (pc2 := 1569) (ls2 := [some (eR 0), some (eR 1), some (eR 70), some (eR 81), some (eI i)]) (st2 := []) (y := m_L_prizeOfLetter) (as := [some (eR 1), some (eI (f (j + 1))), some (eR 81)]) (w2 := (V, d)) rfl q2 hR9) ?_
    refine rOf (fun R9 hR9 => xLdV (N := 7) (M2 := m_L_law) (pc2 := 1580) (r := 0) (ls2 := [some (eR 0), some (eR 1), some (eR 70), some (eR 81), some (eI i), some (eI t)]) (st2 := [eR 70]) (V := V2) (d := d2) (i := i + 1) (k := j + 1) (ok := eOkI) (mk := fun x => .inl x) rfl h02 rfl (wr_nat (by omega) (by omega)) (by omega) hR9) ?_
    obtain ⟨V3, b3, q3, M3, hb3, fm3⟩ := nqV (d := d2) hn (MI_fr (fun k hk => fr2.2 k (by omega)) M) rfl
    have h03 := (fm3.2 0 (by omega)).trans h02
    have h13 := (fm3.2 1 (by omega)).trans h12
    have h813 := (fm3.2 81 (by omega)).trans o2
    obtain ⟨P3, h703⟩ := MI_70 M3
    have C3 := CI_fr (Nat.le_of_eq fm3.1.symm) (fun k hk => fm3.2 k (by omega)) C2
    refine rOf (fun R9 hR9 => xCallA1 (N := 1) (M2 := m_L_law) (pc2 := 1581) (y := m_M_prizeOfLetter) (n := 2) (ls2 := [some (eR 0), some (eR 1), some (eR 70), some (eR 81), some (eI i), some (eI t)]) (st2 := []) (st9 := [eI (f (j + 1)), eR 70]) (V := V2) (d := d2) (r := 70) (bs := [eI (f (j + 1))]) rfl rfl h702 rfl q3 hR9) ?_
    refine rOf (fun R9 hR9 => xCallA1 (N := 3) (M2 := m_L_law) (pc2 := 1587) (y := m_M_thrown) (n := 1) (ls2 := [some (eR 0), some (eR 1), some (eR 70), some (eR 81), some (eI i), some (eI t), some (eI b3)]) (st2 := []) (st9 := [eR 70]) (V := V3) (d := d2) (r := 70) (bs := []) rfl rfl h703 rfl (thrV M3) hR9) ?_
    refine rOf (fun R9 hR9 => xEqT (N := 2) (x := t) (y := t) (A := ev m_L_law 1597 [some (eR 0), some (eR 1), some (eR 70), some (eR 81), some (eI i), some (eI t), some (eI b3)] [] (V3, d2)) (B := ev m_L_law 1595 [some (eR 0), some (eR 1), some (eR 70), some (eR 81), some (eI i), some (eI t), some (eI b3)] [] (V3, d2)) rfl rfl rfl rfl hR9) ?_
    refine rOf (fun R9 hR9 => xEqT (N := 2) (x := t) (y := 0) (A := ev m_L_law 1602 [some (eR 0), some (eR 1), some (eR 70), some (eR 81), some (eI i), some (eI t), some (eI b3)] [] (V3, d2)) (B := ev m_L_law 1614 [some (eR 0), some (eR 1), some (eR 70), some (eR 81), some (eI i), some (eI t), some (eI b3)] [] (V3, d2)) rfl (wr_id (by omega) (by omega)) (show wr 0 = 0 by decide) (by omega) hR9) ?_
    refine rOf (fun R9 hR9 => xLdV (N := 3) (M2 := m_L_law) (pc2 := 1604) (r := 81) (ls2 := [some (eR 0), some (eR 1), some (eR 70), some (eR 81), some (eI i), some (eI t), some (eI b3)]) (st2 := []) (V := V3) (d := d2) (i := 0) (k := 0) (ok := eOkJ) (mk := fun x => .inr (.inr (.inl x))) rfl h813 rfl (show wr 0 = ((0 : Nat) : Int) by decide) (by omega) hR9) ?_
    refine rOf (fun R9 hR9 => xEqT (N := 4) (x := bLcmp (ot2 0) (wr b3)) (y := 0) (A := ev m_L_law 1614 [some (eR 0), some (eR 1), some (eR 70), some (eR 81), some (eI i), some (eI t), some (eI b3)] [] (V3, d2)) (B := ev m_L_law 1612 [some (eR 0), some (eR 1), some (eR 70), some (eR 81), some (eI i), some (eI t), some (eI b3)] [] (V3, d2)) rfl (by rw [t2 ht0, hb3 ht0]; exact wrcmp) (show wr 0 = 0 by decide) rfl hR9) ?_
    refine rOf (fun R9 hR9 => xSeg (N := 1) (r := ev m_L_law 3064 [some (eR 0), some (eR 1), some (eR 70), some (eR 81), some (eI i), some (eI t), some (eI b3)] [] (V3, d2)) rfl hR9) ?_
    refine rOf (fun R9 hR9 => xTk 5 (by rfl) rfl hR9) ?_
    exact hK V3 d2 ⟨a, x, t, ot2, C3, M3, h03, h813⟩ dl2
  · refine rOf (fun R9 hR9 => xLdV (N := 6) (M2 := m_L_law) (pc2 := 1567) (r := 0) (ls2 := [some (eR 0), some (eR 1), some (eR 70), some (eR 81), some (eI i)]) (st2 := [eR 1]) (V := V) (d := d) (i := i + 1) (k := j + 1) (ok := eOkI) (mk := fun x => .inl x) rfl h0 rfl (wr_nat (by omega) (by omega)) (by omega) hR9) ?_
    obtain ⟨V2, ot2, d2, q2, C2, o2, t2, fr2, dl2⟩ := lqV (d := d) hq C h81 rfl
    have h02 := (fr2.2 0 (by omega)).trans h0
    have h702 := (fr2.2 70 (by omega)).trans h70
    obtain ⟨P2, h12⟩ := CI_1 C2
    refine rOf (fun R9 hR9 => xCall (N := 2) (M2 := m_L_law) (pc2 := 1569) (ls2 := [some (eR 0), some (eR 1), some (eR 70), some (eR 81), some (eI i)]) (st2 := []) (y := m_L_prizeOfLetter) (as := [some (eR 1), some (eI (f (j + 1))), some (eR 81)]) (w2 := (V, d)) rfl q2 hR9) ?_
    refine rOf (fun R9 hR9 => xLdV (N := 7) (M2 := m_L_law) (pc2 := 1580) (r := 0) (ls2 := [some (eR 0), some (eR 1), some (eR 70), some (eR 81), some (eI i), some (eI t)]) (st2 := [eR 70]) (V := V2) (d := d2) (i := i + 1) (k := j + 1) (ok := eOkI) (mk := fun x => .inl x) rfl h02 rfl (wr_nat (by omega) (by omega)) (by omega) hR9) ?_
    obtain ⟨V3, b3, q3, M3, hb3, fm3⟩ := nqV (d := d2) hn (MI_fr (fun k hk => fr2.2 k (by omega)) M) rfl
    have h03 := (fm3.2 0 (by omega)).trans h02
    have h13 := (fm3.2 1 (by omega)).trans h12
    have h813 := (fm3.2 81 (by omega)).trans o2
    obtain ⟨P3, h703⟩ := MI_70 M3
    have C3 := CI_fr (Nat.le_of_eq fm3.1.symm) (fun k hk => fm3.2 k (by omega)) C2
    refine rOf (fun R9 hR9 => xCallA1 (N := 1) (M2 := m_L_law) (pc2 := 1581) (y := m_M_prizeOfLetter) (n := 2) (ls2 := [some (eR 0), some (eR 1), some (eR 70), some (eR 81), some (eI i), some (eI t)]) (st2 := []) (st9 := [eI (f (j + 1)), eR 70]) (V := V2) (d := d2) (r := 70) (bs := [eI (f (j + 1))]) rfl rfl h702 rfl q3 hR9) ?_
    refine rOf (fun R9 hR9 => xCallA1 (N := 3) (M2 := m_L_law) (pc2 := 1587) (y := m_M_thrown) (n := 1) (ls2 := [some (eR 0), some (eR 1), some (eR 70), some (eR 81), some (eI i), some (eI t), some (eI b3)]) (st2 := []) (st9 := [eR 70]) (V := V3) (d := d2) (r := 70) (bs := []) rfl rfl h703 rfl (thrV M3) hR9) ?_
    refine rOf (fun R9 hR9 => xEqT (N := 2) (x := t) (y := t) (A := ev m_L_law 1597 [some (eR 0), some (eR 1), some (eR 70), some (eR 81), some (eI i), some (eI t), some (eI b3)] [] (V3, d2)) (B := ev m_L_law 1595 [some (eR 0), some (eR 1), some (eR 70), some (eR 81), some (eI i), some (eI t), some (eI b3)] [] (V3, d2)) rfl rfl rfl rfl hR9) ?_
    refine rOf (fun R9 hR9 => xEqF (N := 2) (x := t) (y := 0) (A := ev m_L_law 1602 [some (eR 0), some (eR 1), some (eR 70), some (eR 81), some (eI i), some (eI t), some (eI b3)] [] (V3, d2)) (B := ev m_L_law 1614 [some (eR 0), some (eR 1), some (eR 70), some (eR 81), some (eI i), some (eI t), some (eI b3)] [] (V3, d2)) rfl (wr_id (by omega) (by omega)) (show wr 0 = 0 by decide) (by omega) hR9) ?_
    refine rOf (fun R9 hR9 => xSeg (N := 1) (r := ev m_L_law 3064 [some (eR 0), some (eR 1), some (eR 70), some (eR 81), some (eI i), some (eI t), some (eI b3)] [] (V3, d2)) rfl hR9) ?_
    refine rOf (fun R9 hR9 => xTk 5 (by rfl) rfl hR9) ?_
    exact hK V3 d2 ⟨a, x, t, ot2, C3, M3, h03, h813⟩ dl2
theorem k_candidateCount {V : List eC} {d : Nat × Nat} {L j : Nat} {f : Nat → Int} {i : Int} {Q : (Option eV ⊕ Nat) × eW → Prop} (hi : i = (j : Int)) (hj : j + 6 ≤ L) (hL : L ≤ 3072) (hr : ∀ k, -2147483648 ≤ f k ∧ f k < 2147483648) (h : LI V L f) (hK : ∀ V' d', LI V' L f → dl d d' → Rs (ev m_L_law 3064 [some (eR 0), some (eR 1), some (eR 70), some (eR 81), some (eI i)] [] (V', d')) Q) : Rs (ev m_L_law 1617 [some (eR 0), some (eR 1), some (eR 70), some (eR 81), some (eI i)] [] (V, d)) Q := by
  obtain ⟨a, x, t0, ot, C, M, h0, h81⟩ := h
  obtain ⟨P1, h1⟩ := CI_1 C
  obtain ⟨P70, h70⟩ := MI_70 M
  have hI : iA a := CI_I C
  obtain ⟨t, v, ht, hq, hn⟩ := q_candidateCount hI (hr (j + 1))
  by_cases ht0 : t = 0
  · refine rOf (fun R9 hR9 => xLdV (N := 6) (M2 := m_L_law) (pc2 := 1623) (r := 0) (ls2 := [some (eR 0), some (eR 1), some (eR 70), some (eR 81), some (eI i)]) (st2 := [eR 1]) (V := V) (d := d) (i := i + 1) (k := j + 1) (ok := eOkI) (mk := fun x => .inl x) rfl h0 rfl (wr_nat (by omega) (by omega)) (by omega) hR9) ?_
    obtain ⟨V2, ot2, d2, q2, C2, o2, t2, fr2, dl2⟩ := lqV (d := d) hq C h81 rfl
    have h02 := (fr2.2 0 (by omega)).trans h0
    have h702 := (fr2.2 70 (by omega)).trans h70
    obtain ⟨P2, h12⟩ := CI_1 C2
    refine rOf (fun R9 hR9 => xCall (N := 2) (M2 := m_L_law) (pc2 := 1625) (ls2 := [some (eR 0), some (eR 1), some (eR 70), some (eR 81), some (eI i)]) (st2 := []) (y := m_L_candidateCount) (as := [some (eR 1), some (eI (f (j + 1))), some (eR 81)]) (w2 := (V, d)) rfl q2 hR9) ?_
    refine rOf (fun R9 hR9 => xLdV (N := 7) (M2 := m_L_law) (pc2 := 1636) (r := 0) (ls2 := [some (eR 0), some (eR 1), some (eR 70), some (eR 81), some (eI i), some (eI t)]) (st2 := [eR 70]) (V := V2) (d := d2) (i := i + 1) (k := j + 1) (ok := eOkI) (mk := fun x => .inl x) rfl h02 rfl (wr_nat (by omega) (by omega)) (by omega) hR9) ?_
    obtain ⟨V3, b3, q3, M3, hb3, fm3⟩ := nqV (d := d2) hn (MI_fr (fun k hk => fr2.2 k (by omega)) M) rfl
    have h03 := (fm3.2 0 (by omega)).trans h02
    have h13 := (fm3.2 1 (by omega)).trans h12
    have h813 := (fm3.2 81 (by omega)).trans o2
    obtain ⟨P3, h703⟩ := MI_70 M3
    have C3 := CI_fr (Nat.le_of_eq fm3.1.symm) (fun k hk => fm3.2 k (by omega)) C2
    refine rOf (fun R9 hR9 => xCallA1 (N := 1) (M2 := m_L_law) (pc2 := 1637) (y := m_M_candidateCount) (n := 2) (ls2 := [some (eR 0), some (eR 1), some (eR 70), some (eR 81), some (eI i), some (eI t)]) (st2 := []) (st9 := [eI (f (j + 1)), eR 70]) (V := V2) (d := d2) (r := 70) (bs := [eI (f (j + 1))]) rfl rfl h702 rfl q3 hR9) ?_
    refine rOf (fun R9 hR9 => xCallA1 (N := 3) (M2 := m_L_law) (pc2 := 1643) (y := m_M_thrown) (n := 1) (ls2 := [some (eR 0), some (eR 1), some (eR 70), some (eR 81), some (eI i), some (eI t), some (eI b3)]) (st2 := []) (st9 := [eR 70]) (V := V3) (d := d2) (r := 70) (bs := []) rfl rfl h703 rfl (thrV M3) hR9) ?_
    refine rOf (fun R9 hR9 => xEqT (N := 2) (x := t) (y := t) (A := ev m_L_law 1653 [some (eR 0), some (eR 1), some (eR 70), some (eR 81), some (eI i), some (eI t), some (eI b3)] [] (V3, d2)) (B := ev m_L_law 1651 [some (eR 0), some (eR 1), some (eR 70), some (eR 81), some (eI i), some (eI t), some (eI b3)] [] (V3, d2)) rfl rfl rfl rfl hR9) ?_
    refine rOf (fun R9 hR9 => xEqT (N := 2) (x := t) (y := 0) (A := ev m_L_law 1658 [some (eR 0), some (eR 1), some (eR 70), some (eR 81), some (eI i), some (eI t), some (eI b3)] [] (V3, d2)) (B := ev m_L_law 1670 [some (eR 0), some (eR 1), some (eR 70), some (eR 81), some (eI i), some (eI t), some (eI b3)] [] (V3, d2)) rfl (wr_id (by omega) (by omega)) (show wr 0 = 0 by decide) (by omega) hR9) ?_
    refine rOf (fun R9 hR9 => xLdV (N := 3) (M2 := m_L_law) (pc2 := 1660) (r := 81) (ls2 := [some (eR 0), some (eR 1), some (eR 70), some (eR 81), some (eI i), some (eI t), some (eI b3)]) (st2 := []) (V := V3) (d := d2) (i := 0) (k := 0) (ok := eOkJ) (mk := fun x => .inr (.inr (.inl x))) rfl h813 rfl (show wr 0 = ((0 : Nat) : Int) by decide) (by omega) hR9) ?_
    refine rOf (fun R9 hR9 => xEqT (N := 4) (x := bLcmp (ot2 0) (wr b3)) (y := 0) (A := ev m_L_law 1670 [some (eR 0), some (eR 1), some (eR 70), some (eR 81), some (eI i), some (eI t), some (eI b3)] [] (V3, d2)) (B := ev m_L_law 1668 [some (eR 0), some (eR 1), some (eR 70), some (eR 81), some (eI i), some (eI t), some (eI b3)] [] (V3, d2)) rfl (by rw [t2 ht0, hb3 ht0]; exact wrcmp) (show wr 0 = 0 by decide) rfl hR9) ?_
    refine rOf (fun R9 hR9 => xSeg (N := 1) (r := ev m_L_law 3064 [some (eR 0), some (eR 1), some (eR 70), some (eR 81), some (eI i), some (eI t), some (eI b3)] [] (V3, d2)) rfl hR9) ?_
    refine rOf (fun R9 hR9 => xTk 5 (by rfl) rfl hR9) ?_
    exact hK V3 d2 ⟨a, x, t, ot2, C3, M3, h03, h813⟩ dl2
  · refine rOf (fun R9 hR9 => xLdV (N := 6) (M2 := m_L_law) (pc2 := 1623) (r := 0) (ls2 := [some (eR 0), some (eR 1), some (eR 70), some (eR 81), some (eI i)]) (st2 := [eR 1]) (V := V) (d := d) (i := i + 1) (k := j + 1) (ok := eOkI) (mk := fun x => .inl x) rfl h0 rfl (wr_nat (by omega) (by omega)) (by omega) hR9) ?_
    obtain ⟨V2, ot2, d2, q2, C2, o2, t2, fr2, dl2⟩ := lqV (d := d) hq C h81 rfl
    have h02 := (fr2.2 0 (by omega)).trans h0
    have h702 := (fr2.2 70 (by omega)).trans h70
    obtain ⟨P2, h12⟩ := CI_1 C2
    refine rOf (fun R9 hR9 => xCall (N := 2) (M2 := m_L_law) (pc2 := 1625) (ls2 := [some (eR 0), some (eR 1), some (eR 70), some (eR 81), some (eI i)]) (st2 := []) (y := m_L_candidateCount) (as := [some (eR 1), some (eI (f (j + 1))), some (eR 81)]) (w2 := (V, d)) rfl q2 hR9) ?_
    refine rOf (fun R9 hR9 => xLdV (N := 7) (M2 := m_L_law) (pc2 := 1636) (r := 0) (ls2 := [some (eR 0), some (eR 1), some (eR 70), some (eR 81), some (eI i), some (eI t)]) (st2 := [eR 70]) (V := V2) (d := d2) (i := i + 1) (k := j + 1) (ok := eOkI) (mk := fun x => .inl x) rfl h02 rfl (wr_nat (by omega) (by omega)) (by omega) hR9) ?_
    obtain ⟨V3, b3, q3, M3, hb3, fm3⟩ := nqV (d := d2) hn (MI_fr (fun k hk => fr2.2 k (by omega)) M) rfl
    have h03 := (fm3.2 0 (by omega)).trans h02
    have h13 := (fm3.2 1 (by omega)).trans h12
    have h813 := (fm3.2 81 (by omega)).trans o2
    obtain ⟨P3, h703⟩ := MI_70 M3
    have C3 := CI_fr (Nat.le_of_eq fm3.1.symm) (fun k hk => fm3.2 k (by omega)) C2
    refine rOf (fun R9 hR9 => xCallA1 (N := 1) (M2 := m_L_law) (pc2 := 1637) (y := m_M_candidateCount) (n := 2) (ls2 := [some (eR 0), some (eR 1), some (eR 70), some (eR 81), some (eI i), some (eI t)]) (st2 := []) (st9 := [eI (f (j + 1)), eR 70]) (V := V2) (d := d2) (r := 70) (bs := [eI (f (j + 1))]) rfl rfl h702 rfl q3 hR9) ?_
    refine rOf (fun R9 hR9 => xCallA1 (N := 3) (M2 := m_L_law) (pc2 := 1643) (y := m_M_thrown) (n := 1) (ls2 := [some (eR 0), some (eR 1), some (eR 70), some (eR 81), some (eI i), some (eI t), some (eI b3)]) (st2 := []) (st9 := [eR 70]) (V := V3) (d := d2) (r := 70) (bs := []) rfl rfl h703 rfl (thrV M3) hR9) ?_
    refine rOf (fun R9 hR9 => xEqT (N := 2) (x := t) (y := t) (A := ev m_L_law 1653 [some (eR 0), some (eR 1), some (eR 70), some (eR 81), some (eI i), some (eI t), some (eI b3)] [] (V3, d2)) (B := ev m_L_law 1651 [some (eR 0), some (eR 1), some (eR 70), some (eR 81), some (eI i), some (eI t), some (eI b3)] [] (V3, d2)) rfl rfl rfl rfl hR9) ?_
    refine rOf (fun R9 hR9 => xEqF (N := 2) (x := t) (y := 0) (A := ev m_L_law 1658 [some (eR 0), some (eR 1), some (eR 70), some (eR 81), some (eI i), some (eI t), some (eI b3)] [] (V3, d2)) (B := ev m_L_law 1670 [some (eR 0), some (eR 1), some (eR 70), some (eR 81), some (eI i), some (eI t), some (eI b3)] [] (V3, d2)) rfl (wr_id (by omega) (by omega)) (show wr 0 = 0 by decide) (by omega) hR9) ?_
    refine rOf (fun R9 hR9 => xSeg (N := 1) (r := ev m_L_law 3064 [some (eR 0), some (eR 1), some (eR 70), some (eR 81), some (eI i), some (eI t), some (eI b3)] [] (V3, d2)) rfl hR9) ?_
    refine rOf (fun R9 hR9 => xTk 5 (by rfl) rfl hR9) ?_
    exact hK V3 d2 ⟨a, x, t, ot2, C3, M3, h03, h813⟩ dl2
theorem k_isCandidate {V : List eC} {d : Nat × Nat} {L j : Nat} {f : Nat → Int} {i : Int} {Q : (Option eV ⊕ Nat) × eW → Prop} (hi : i = (j : Int)) (hj : j + 6 ≤ L) (hL : L ≤ 3072) (hr : ∀ k, -2147483648 ≤ f k ∧ f k < 2147483648) (h : LI V L f) (hK : ∀ V' d', LI V' L f → dl d d' → Rs (ev m_L_law 3064 [some (eR 0), some (eR 1), some (eR 70), some (eR 81), some (eI i)] [] (V', d')) Q) : Rs (ev m_L_law 1673 [some (eR 0), some (eR 1), some (eR 70), some (eR 81), some (eI i)] [] (V, d)) Q := by
  obtain ⟨a, x, t0, ot, C, M, h0, h81⟩ := h
  obtain ⟨P1, h1⟩ := CI_1 C
  obtain ⟨P70, h70⟩ := MI_70 M
  have hI : iA a := CI_I C
  obtain ⟨t, v, ht, hv9, hq, hn⟩ := q_isCandidate hI (hr (j + 1)) (hr (j + 2))
  by_cases ht0 : t = 0
  · rcases hv9 ht0 with hv1 | hv1
    · refine rOf (fun R9 hR9 => xLdV (N := 6) (M2 := m_L_law) (pc2 := 1679) (r := 0) (ls2 := [some (eR 0), some (eR 1), some (eR 70), some (eR 81), some (eI i)]) (st2 := [eR 1]) (V := V) (d := d) (i := i + 1) (k := j + 1) (ok := eOkI) (mk := fun x => .inl x) rfl h0 rfl (wr_nat (by omega) (by omega)) (by omega) hR9) ?_
      refine rOf (fun R9 hR9 => xLdV (N := 5) (M2 := m_L_law) (pc2 := 1685) (r := 0) (ls2 := [some (eR 0), some (eR 1), some (eR 70), some (eR 81), some (eI i)]) (st2 := [eI (f (j + 1)), eR 1]) (V := V) (d := d) (i := i + 2) (k := j + 2) (ok := eOkI) (mk := fun x => .inl x) rfl h0 rfl (wr_nat (by omega) (by omega)) (by omega) hR9) ?_
      obtain ⟨V2, ot2, d2, q2, C2, o2, t2, fr2, dl2⟩ := lqV (d := d) hq C h81 rfl
      have h02 := (fr2.2 0 (by omega)).trans h0
      have h702 := (fr2.2 70 (by omega)).trans h70
      obtain ⟨P2, h12⟩ := CI_1 C2
      refine rOf (fun R9 hR9 => xCall (N := 2) (M2 := m_L_law) (pc2 := 1687) (ls2 := [some (eR 0), some (eR 1), some (eR 70), some (eR 81), some (eI i)]) (st2 := []) (y := m_L_isCandidate) (as := [some (eR 1), some (eI (f (j + 1))), some (eI (f (j + 2))), some (eR 81)]) (w2 := (V, d)) rfl q2 hR9) ?_
      refine rOf (fun R9 hR9 => xLdV (N := 7) (M2 := m_L_law) (pc2 := 1698) (r := 0) (ls2 := [some (eR 0), some (eR 1), some (eR 70), some (eR 81), some (eI i), some (eI t)]) (st2 := [eR 70]) (V := V2) (d := d2) (i := i + 1) (k := j + 1) (ok := eOkI) (mk := fun x => .inl x) rfl h02 rfl (wr_nat (by omega) (by omega)) (by omega) hR9) ?_
      refine rOf (fun R9 hR9 => xLdV (N := 5) (M2 := m_L_law) (pc2 := 1704) (r := 0) (ls2 := [some (eR 0), some (eR 1), some (eR 70), some (eR 81), some (eI i), some (eI t)]) (st2 := [eI (f (j + 1)), eR 70]) (V := V2) (d := d2) (i := i + 2) (k := j + 2) (ok := eOkI) (mk := fun x => .inl x) rfl h02 rfl (wr_nat (by omega) (by omega)) (by omega) hR9) ?_
      obtain ⟨V3, b3, q3, M3, hb3, fm3⟩ := nqV (d := d2) hn (MI_fr (fun k hk => fr2.2 k (by omega)) M) rfl
      have h03 := (fm3.2 0 (by omega)).trans h02
      have h13 := (fm3.2 1 (by omega)).trans h12
      have h813 := (fm3.2 81 (by omega)).trans o2
      obtain ⟨P3, h703⟩ := MI_70 M3
      have C3 := CI_fr (Nat.le_of_eq fm3.1.symm) (fun k hk => fm3.2 k (by omega)) C2
      refine rOf (fun R9 hR9 => xCallA1 (N := 1) (M2 := m_L_law) (pc2 := 1705) (y := m_M_isCandidate) (n := 3) (ls2 := [some (eR 0), some (eR 1), some (eR 70), some (eR 81), some (eI i), some (eI t)]) (st2 := []) (st9 := [eI (f (j + 2)), eI (f (j + 1)), eR 70]) (V := V2) (d := d2) (r := 70) (bs := [eI (f (j + 1)), eI (f (j + 2))]) rfl rfl h702 rfl q3 hR9) ?_
      refine rOf (fun R9 hR9 => xCallA1 (N := 3) (M2 := m_L_law) (pc2 := 1711) (y := m_M_thrown) (n := 1) (ls2 := [some (eR 0), some (eR 1), some (eR 70), some (eR 81), some (eI i), some (eI t), some (eI b3)]) (st2 := []) (st9 := [eR 70]) (V := V3) (d := d2) (r := 70) (bs := []) rfl rfl h703 rfl (thrV M3) hR9) ?_
      refine rOf (fun R9 hR9 => xEqT (N := 2) (x := t) (y := t) (A := ev m_L_law 1721 [some (eR 0), some (eR 1), some (eR 70), some (eR 81), some (eI i), some (eI t), some (eI b3)] [] (V3, d2)) (B := ev m_L_law 1719 [some (eR 0), some (eR 1), some (eR 70), some (eR 81), some (eI i), some (eI t), some (eI b3)] [] (V3, d2)) rfl rfl rfl rfl hR9) ?_
      refine rOf (fun R9 hR9 => xEqT (N := 2) (x := t) (y := 0) (A := ev m_L_law 1726 [some (eR 0), some (eR 1), some (eR 70), some (eR 81), some (eI i), some (eI t), some (eI b3)] [] (V3, d2)) (B := ev m_L_law 1745 [some (eR 0), some (eR 1), some (eR 70), some (eR 81), some (eI i), some (eI t), some (eI b3)] [] (V3, d2)) rfl (wr_id (by omega) (by omega)) (show wr 0 = 0 by decide) (by omega) hR9) ?_
      refine rOf (fun R9 hR9 => xLdV (N := 3) (M2 := m_L_law) (pc2 := 1728) (r := 81) (ls2 := [some (eR 0), some (eR 1), some (eR 70), some (eR 81), some (eI i), some (eI t), some (eI b3)]) (st2 := []) (V := V3) (d := d2) (i := 0) (k := 0) (ok := eOkJ) (mk := fun x => .inr (.inr (.inl x))) rfl h813 rfl (show wr 0 = ((0 : Nat) : Int) by decide) (by omega) hR9) ?_
      refine rOf (fun R9 hR9 => xEqF (N := 2) (x := b3) (y := 0) (A := ev m_L_law 1738 [some (eR 0), some (eR 1), some (eR 70), some (eR 81), some (eI i), some (eI t), some (eI b3)] [eJ (ot2 0)] (V3, d2)) (B := ev m_L_law 1734 [some (eR 0), some (eR 1), some (eR 70), some (eR 81), some (eI i), some (eI t), some (eI b3)] [eJ (ot2 0)] (V3, d2)) rfl (show wr b3 = 1 by rw [hb3 ht0, hv1]; decide) (show wr 0 = 0 by decide) (by decide) hR9) ?_
      refine rOf (fun R9 hR9 => xEqT (N := 4) (x := bLcmp (ot2 0) 1) (y := 0) (A := ev m_L_law 1745 [some (eR 0), some (eR 1), some (eR 70), some (eR 81), some (eI i), some (eI t), some (eI b3)] [] (V3, d2)) (B := ev m_L_law 1743 [some (eR 0), some (eR 1), some (eR 70), some (eR 81), some (eI i), some (eI t), some (eI b3)] [] (V3, d2)) rfl (by rw [t2 ht0, hv1]; exact wrcmp1) (show wr 0 = 0 by decide) rfl hR9) ?_
      refine rOf (fun R9 hR9 => xSeg (N := 1) (r := ev m_L_law 3064 [some (eR 0), some (eR 1), some (eR 70), some (eR 81), some (eI i), some (eI t), some (eI b3)] [] (V3, d2)) rfl hR9) ?_
      refine rOf (fun R9 hR9 => xTk 5 (by rfl) rfl hR9) ?_
      exact hK V3 d2 ⟨a, x, t, ot2, C3, M3, h03, h813⟩ dl2
    · refine rOf (fun R9 hR9 => xLdV (N := 6) (M2 := m_L_law) (pc2 := 1679) (r := 0) (ls2 := [some (eR 0), some (eR 1), some (eR 70), some (eR 81), some (eI i)]) (st2 := [eR 1]) (V := V) (d := d) (i := i + 1) (k := j + 1) (ok := eOkI) (mk := fun x => .inl x) rfl h0 rfl (wr_nat (by omega) (by omega)) (by omega) hR9) ?_
      refine rOf (fun R9 hR9 => xLdV (N := 5) (M2 := m_L_law) (pc2 := 1685) (r := 0) (ls2 := [some (eR 0), some (eR 1), some (eR 70), some (eR 81), some (eI i)]) (st2 := [eI (f (j + 1)), eR 1]) (V := V) (d := d) (i := i + 2) (k := j + 2) (ok := eOkI) (mk := fun x => .inl x) rfl h0 rfl (wr_nat (by omega) (by omega)) (by omega) hR9) ?_
      obtain ⟨V2, ot2, d2, q2, C2, o2, t2, fr2, dl2⟩ := lqV (d := d) hq C h81 rfl
      have h02 := (fr2.2 0 (by omega)).trans h0
      have h702 := (fr2.2 70 (by omega)).trans h70
      obtain ⟨P2, h12⟩ := CI_1 C2
      refine rOf (fun R9 hR9 => xCall (N := 2) (M2 := m_L_law) (pc2 := 1687) (ls2 := [some (eR 0), some (eR 1), some (eR 70), some (eR 81), some (eI i)]) (st2 := []) (y := m_L_isCandidate) (as := [some (eR 1), some (eI (f (j + 1))), some (eI (f (j + 2))), some (eR 81)]) (w2 := (V, d)) rfl q2 hR9) ?_
      refine rOf (fun R9 hR9 => xLdV (N := 7) (M2 := m_L_law) (pc2 := 1698) (r := 0) (ls2 := [some (eR 0), some (eR 1), some (eR 70), some (eR 81), some (eI i), some (eI t)]) (st2 := [eR 70]) (V := V2) (d := d2) (i := i + 1) (k := j + 1) (ok := eOkI) (mk := fun x => .inl x) rfl h02 rfl (wr_nat (by omega) (by omega)) (by omega) hR9) ?_
      refine rOf (fun R9 hR9 => xLdV (N := 5) (M2 := m_L_law) (pc2 := 1704) (r := 0) (ls2 := [some (eR 0), some (eR 1), some (eR 70), some (eR 81), some (eI i), some (eI t)]) (st2 := [eI (f (j + 1)), eR 70]) (V := V2) (d := d2) (i := i + 2) (k := j + 2) (ok := eOkI) (mk := fun x => .inl x) rfl h02 rfl (wr_nat (by omega) (by omega)) (by omega) hR9) ?_
      obtain ⟨V3, b3, q3, M3, hb3, fm3⟩ := nqV (d := d2) hn (MI_fr (fun k hk => fr2.2 k (by omega)) M) rfl
      have h03 := (fm3.2 0 (by omega)).trans h02
      have h13 := (fm3.2 1 (by omega)).trans h12
      have h813 := (fm3.2 81 (by omega)).trans o2
      obtain ⟨P3, h703⟩ := MI_70 M3
      have C3 := CI_fr (Nat.le_of_eq fm3.1.symm) (fun k hk => fm3.2 k (by omega)) C2
      refine rOf (fun R9 hR9 => xCallA1 (N := 1) (M2 := m_L_law) (pc2 := 1705) (y := m_M_isCandidate) (n := 3) (ls2 := [some (eR 0), some (eR 1), some (eR 70), some (eR 81), some (eI i), some (eI t)]) (st2 := []) (st9 := [eI (f (j + 2)), eI (f (j + 1)), eR 70]) (V := V2) (d := d2) (r := 70) (bs := [eI (f (j + 1)), eI (f (j + 2))]) rfl rfl h702 rfl q3 hR9) ?_
      refine rOf (fun R9 hR9 => xCallA1 (N := 3) (M2 := m_L_law) (pc2 := 1711) (y := m_M_thrown) (n := 1) (ls2 := [some (eR 0), some (eR 1), some (eR 70), some (eR 81), some (eI i), some (eI t), some (eI b3)]) (st2 := []) (st9 := [eR 70]) (V := V3) (d := d2) (r := 70) (bs := []) rfl rfl h703 rfl (thrV M3) hR9) ?_
      refine rOf (fun R9 hR9 => xEqT (N := 2) (x := t) (y := t) (A := ev m_L_law 1721 [some (eR 0), some (eR 1), some (eR 70), some (eR 81), some (eI i), some (eI t), some (eI b3)] [] (V3, d2)) (B := ev m_L_law 1719 [some (eR 0), some (eR 1), some (eR 70), some (eR 81), some (eI i), some (eI t), some (eI b3)] [] (V3, d2)) rfl rfl rfl rfl hR9) ?_
      refine rOf (fun R9 hR9 => xEqT (N := 2) (x := t) (y := 0) (A := ev m_L_law 1726 [some (eR 0), some (eR 1), some (eR 70), some (eR 81), some (eI i), some (eI t), some (eI b3)] [] (V3, d2)) (B := ev m_L_law 1745 [some (eR 0), some (eR 1), some (eR 70), some (eR 81), some (eI i), some (eI t), some (eI b3)] [] (V3, d2)) rfl (wr_id (by omega) (by omega)) (show wr 0 = 0 by decide) (by omega) hR9) ?_
      refine rOf (fun R9 hR9 => xLdV (N := 3) (M2 := m_L_law) (pc2 := 1728) (r := 81) (ls2 := [some (eR 0), some (eR 1), some (eR 70), some (eR 81), some (eI i), some (eI t), some (eI b3)]) (st2 := []) (V := V3) (d := d2) (i := 0) (k := 0) (ok := eOkJ) (mk := fun x => .inr (.inr (.inl x))) rfl h813 rfl (show wr 0 = ((0 : Nat) : Int) by decide) (by omega) hR9) ?_
      refine rOf (fun R9 hR9 => xEqT (N := 2) (x := b3) (y := 0) (A := ev m_L_law 1738 [some (eR 0), some (eR 1), some (eR 70), some (eR 81), some (eI i), some (eI t), some (eI b3)] [eJ (ot2 0)] (V3, d2)) (B := ev m_L_law 1734 [some (eR 0), some (eR 1), some (eR 70), some (eR 81), some (eI i), some (eI t), some (eI b3)] [eJ (ot2 0)] (V3, d2)) rfl (show wr b3 = 0 by rw [hb3 ht0, hv1]; decide) (show wr 0 = 0 by decide) (by decide) hR9) ?_
      refine rOf (fun R9 hR9 => xEqT (N := 3) (x := bLcmp (ot2 0) 0) (y := 0) (A := ev m_L_law 1745 [some (eR 0), some (eR 1), some (eR 70), some (eR 81), some (eI i), some (eI t), some (eI b3)] [] (V3, d2)) (B := ev m_L_law 1743 [some (eR 0), some (eR 1), some (eR 70), some (eR 81), some (eI i), some (eI t), some (eI b3)] [] (V3, d2)) rfl (by rw [t2 ht0, hv1]; exact wrcmp0) (show wr 0 = 0 by decide) rfl hR9) ?_
      refine rOf (fun R9 hR9 => xSeg (N := 1) (r := ev m_L_law 3064 [some (eR 0), some (eR 1), some (eR 70), some (eR 81), some (eI i), some (eI t), some (eI b3)] [] (V3, d2)) rfl hR9) ?_
      refine rOf (fun R9 hR9 => xTk 5 (by rfl) rfl hR9) ?_
      exact hK V3 d2 ⟨a, x, t, ot2, C3, M3, h03, h813⟩ dl2
  · refine rOf (fun R9 hR9 => xLdV (N := 6) (M2 := m_L_law) (pc2 := 1679) (r := 0) (ls2 := [some (eR 0), some (eR 1), some (eR 70), some (eR 81), some (eI i)]) (st2 := [eR 1]) (V := V) (d := d) (i := i + 1) (k := j + 1) (ok := eOkI) (mk := fun x => .inl x) rfl h0 rfl (wr_nat (by omega) (by omega)) (by omega) hR9) ?_
    refine rOf (fun R9 hR9 => xLdV (N := 5) (M2 := m_L_law) (pc2 := 1685) (r := 0) (ls2 := [some (eR 0), some (eR 1), some (eR 70), some (eR 81), some (eI i)]) (st2 := [eI (f (j + 1)), eR 1]) (V := V) (d := d) (i := i + 2) (k := j + 2) (ok := eOkI) (mk := fun x => .inl x) rfl h0 rfl (wr_nat (by omega) (by omega)) (by omega) hR9) ?_
    obtain ⟨V2, ot2, d2, q2, C2, o2, t2, fr2, dl2⟩ := lqV (d := d) hq C h81 rfl
    have h02 := (fr2.2 0 (by omega)).trans h0
    have h702 := (fr2.2 70 (by omega)).trans h70
    obtain ⟨P2, h12⟩ := CI_1 C2
    refine rOf (fun R9 hR9 => xCall (N := 2) (M2 := m_L_law) (pc2 := 1687) (ls2 := [some (eR 0), some (eR 1), some (eR 70), some (eR 81), some (eI i)]) (st2 := []) (y := m_L_isCandidate) (as := [some (eR 1), some (eI (f (j + 1))), some (eI (f (j + 2))), some (eR 81)]) (w2 := (V, d)) rfl q2 hR9) ?_
    refine rOf (fun R9 hR9 => xLdV (N := 7) (M2 := m_L_law) (pc2 := 1698) (r := 0) (ls2 := [some (eR 0), some (eR 1), some (eR 70), some (eR 81), some (eI i), some (eI t)]) (st2 := [eR 70]) (V := V2) (d := d2) (i := i + 1) (k := j + 1) (ok := eOkI) (mk := fun x => .inl x) rfl h02 rfl (wr_nat (by omega) (by omega)) (by omega) hR9) ?_
    refine rOf (fun R9 hR9 => xLdV (N := 5) (M2 := m_L_law) (pc2 := 1704) (r := 0) (ls2 := [some (eR 0), some (eR 1), some (eR 70), some (eR 81), some (eI i), some (eI t)]) (st2 := [eI (f (j + 1)), eR 70]) (V := V2) (d := d2) (i := i + 2) (k := j + 2) (ok := eOkI) (mk := fun x => .inl x) rfl h02 rfl (wr_nat (by omega) (by omega)) (by omega) hR9) ?_
    obtain ⟨V3, b3, q3, M3, hb3, fm3⟩ := nqV (d := d2) hn (MI_fr (fun k hk => fr2.2 k (by omega)) M) rfl
    have h03 := (fm3.2 0 (by omega)).trans h02
    have h13 := (fm3.2 1 (by omega)).trans h12
    have h813 := (fm3.2 81 (by omega)).trans o2
    obtain ⟨P3, h703⟩ := MI_70 M3
    have C3 := CI_fr (Nat.le_of_eq fm3.1.symm) (fun k hk => fm3.2 k (by omega)) C2
    refine rOf (fun R9 hR9 => xCallA1 (N := 1) (M2 := m_L_law) (pc2 := 1705) (y := m_M_isCandidate) (n := 3) (ls2 := [some (eR 0), some (eR 1), some (eR 70), some (eR 81), some (eI i), some (eI t)]) (st2 := []) (st9 := [eI (f (j + 2)), eI (f (j + 1)), eR 70]) (V := V2) (d := d2) (r := 70) (bs := [eI (f (j + 1)), eI (f (j + 2))]) rfl rfl h702 rfl q3 hR9) ?_
    refine rOf (fun R9 hR9 => xCallA1 (N := 3) (M2 := m_L_law) (pc2 := 1711) (y := m_M_thrown) (n := 1) (ls2 := [some (eR 0), some (eR 1), some (eR 70), some (eR 81), some (eI i), some (eI t), some (eI b3)]) (st2 := []) (st9 := [eR 70]) (V := V3) (d := d2) (r := 70) (bs := []) rfl rfl h703 rfl (thrV M3) hR9) ?_
    refine rOf (fun R9 hR9 => xEqT (N := 2) (x := t) (y := t) (A := ev m_L_law 1721 [some (eR 0), some (eR 1), some (eR 70), some (eR 81), some (eI i), some (eI t), some (eI b3)] [] (V3, d2)) (B := ev m_L_law 1719 [some (eR 0), some (eR 1), some (eR 70), some (eR 81), some (eI i), some (eI t), some (eI b3)] [] (V3, d2)) rfl rfl rfl rfl hR9) ?_
    refine rOf (fun R9 hR9 => xEqF (N := 2) (x := t) (y := 0) (A := ev m_L_law 1726 [some (eR 0), some (eR 1), some (eR 70), some (eR 81), some (eI i), some (eI t), some (eI b3)] [] (V3, d2)) (B := ev m_L_law 1745 [some (eR 0), some (eR 1), some (eR 70), some (eR 81), some (eI i), some (eI t), some (eI b3)] [] (V3, d2)) rfl (wr_id (by omega) (by omega)) (show wr 0 = 0 by decide) (by omega) hR9) ?_
    refine rOf (fun R9 hR9 => xSeg (N := 1) (r := ev m_L_law 3064 [some (eR 0), some (eR 1), some (eR 70), some (eR 81), some (eI i), some (eI t), some (eI b3)] [] (V3, d2)) rfl hR9) ?_
    refine rOf (fun R9 hR9 => xTk 5 (by rfl) rfl hR9) ?_
    exact hK V3 d2 ⟨a, x, t, ot2, C3, M3, h03, h813⟩ dl2
theorem k_candidateAt {V : List eC} {d : Nat × Nat} {L j : Nat} {f : Nat → Int} {i : Int} {Q : (Option eV ⊕ Nat) × eW → Prop} (hi : i = (j : Int)) (hj : j + 6 ≤ L) (hL : L ≤ 3072) (hr : ∀ k, -2147483648 ≤ f k ∧ f k < 2147483648) (h : LI V L f) (hK : ∀ V' d', LI V' L f → dl d d' → Rs (ev m_L_law 3064 [some (eR 0), some (eR 1), some (eR 70), some (eR 81), some (eI i)] [] (V', d')) Q) : Rs (ev m_L_law 1748 [some (eR 0), some (eR 1), some (eR 70), some (eR 81), some (eI i)] [] (V, d)) Q := by
  obtain ⟨a, x, t0, ot, C, M, h0, h81⟩ := h
  obtain ⟨P1, h1⟩ := CI_1 C
  obtain ⟨P70, h70⟩ := MI_70 M
  have hI : iA a := CI_I C
  obtain ⟨t, v, ht, hq, hn⟩ := q_candidateAt hI (hr (j + 1)) (hr (j + 2))
  by_cases ht0 : t = 0
  · refine rOf (fun R9 hR9 => xLdV (N := 6) (M2 := m_L_law) (pc2 := 1754) (r := 0) (ls2 := [some (eR 0), some (eR 1), some (eR 70), some (eR 81), some (eI i)]) (st2 := [eR 1]) (V := V) (d := d) (i := i + 1) (k := j + 1) (ok := eOkI) (mk := fun x => .inl x) rfl h0 rfl (wr_nat (by omega) (by omega)) (by omega) hR9) ?_
    refine rOf (fun R9 hR9 => xLdV (N := 5) (M2 := m_L_law) (pc2 := 1760) (r := 0) (ls2 := [some (eR 0), some (eR 1), some (eR 70), some (eR 81), some (eI i)]) (st2 := [eI (f (j + 1)), eR 1]) (V := V) (d := d) (i := i + 2) (k := j + 2) (ok := eOkI) (mk := fun x => .inl x) rfl h0 rfl (wr_nat (by omega) (by omega)) (by omega) hR9) ?_
    obtain ⟨V2, ot2, d2, q2, C2, o2, t2, fr2, dl2⟩ := lqV (d := d) hq C h81 rfl
    have h02 := (fr2.2 0 (by omega)).trans h0
    have h702 := (fr2.2 70 (by omega)).trans h70
    obtain ⟨P2, h12⟩ := CI_1 C2
    refine rOf (fun R9 hR9 => xCall (N := 2) (M2 := m_L_law) (pc2 := 1762) (ls2 := [some (eR 0), some (eR 1), some (eR 70), some (eR 81), some (eI i)]) (st2 := []) (y := m_L_candidateAt) (as := [some (eR 1), some (eI (f (j + 1))), some (eI (f (j + 2))), some (eR 81)]) (w2 := (V, d)) rfl q2 hR9) ?_
    refine rOf (fun R9 hR9 => xLdV (N := 7) (M2 := m_L_law) (pc2 := 1773) (r := 0) (ls2 := [some (eR 0), some (eR 1), some (eR 70), some (eR 81), some (eI i), some (eI t)]) (st2 := [eR 70]) (V := V2) (d := d2) (i := i + 1) (k := j + 1) (ok := eOkI) (mk := fun x => .inl x) rfl h02 rfl (wr_nat (by omega) (by omega)) (by omega) hR9) ?_
    refine rOf (fun R9 hR9 => xLdV (N := 5) (M2 := m_L_law) (pc2 := 1779) (r := 0) (ls2 := [some (eR 0), some (eR 1), some (eR 70), some (eR 81), some (eI i), some (eI t)]) (st2 := [eI (f (j + 1)), eR 70]) (V := V2) (d := d2) (i := i + 2) (k := j + 2) (ok := eOkI) (mk := fun x => .inl x) rfl h02 rfl (wr_nat (by omega) (by omega)) (by omega) hR9) ?_
    obtain ⟨V3, b3, q3, M3, hb3, fm3⟩ := nqV (d := d2) hn (MI_fr (fun k hk => fr2.2 k (by omega)) M) rfl
    have h03 := (fm3.2 0 (by omega)).trans h02
    have h13 := (fm3.2 1 (by omega)).trans h12
    have h813 := (fm3.2 81 (by omega)).trans o2
    obtain ⟨P3, h703⟩ := MI_70 M3
    have C3 := CI_fr (Nat.le_of_eq fm3.1.symm) (fun k hk => fm3.2 k (by omega)) C2
    refine rOf (fun R9 hR9 => xCallA1 (N := 1) (M2 := m_L_law) (pc2 := 1780) (y := m_M_candidateAt) (n := 3) (ls2 := [some (eR 0), some (eR 1), some (eR 70), some (eR 81), some (eI i), some (eI t)]) (st2 := []) (st9 := [eI (f (j + 2)), eI (f (j + 1)), eR 70]) (V := V2) (d := d2) (r := 70) (bs := [eI (f (j + 1)), eI (f (j + 2))]) rfl rfl h702 rfl q3 hR9) ?_
    refine rOf (fun R9 hR9 => xCallA1 (N := 3) (M2 := m_L_law) (pc2 := 1786) (y := m_M_thrown) (n := 1) (ls2 := [some (eR 0), some (eR 1), some (eR 70), some (eR 81), some (eI i), some (eI t), some (eI b3)]) (st2 := []) (st9 := [eR 70]) (V := V3) (d := d2) (r := 70) (bs := []) rfl rfl h703 rfl (thrV M3) hR9) ?_
    refine rOf (fun R9 hR9 => xEqT (N := 2) (x := t) (y := t) (A := ev m_L_law 1796 [some (eR 0), some (eR 1), some (eR 70), some (eR 81), some (eI i), some (eI t), some (eI b3)] [] (V3, d2)) (B := ev m_L_law 1794 [some (eR 0), some (eR 1), some (eR 70), some (eR 81), some (eI i), some (eI t), some (eI b3)] [] (V3, d2)) rfl rfl rfl rfl hR9) ?_
    refine rOf (fun R9 hR9 => xEqT (N := 2) (x := t) (y := 0) (A := ev m_L_law 1801 [some (eR 0), some (eR 1), some (eR 70), some (eR 81), some (eI i), some (eI t), some (eI b3)] [] (V3, d2)) (B := ev m_L_law 1813 [some (eR 0), some (eR 1), some (eR 70), some (eR 81), some (eI i), some (eI t), some (eI b3)] [] (V3, d2)) rfl (wr_id (by omega) (by omega)) (show wr 0 = 0 by decide) (by omega) hR9) ?_
    refine rOf (fun R9 hR9 => xLdV (N := 3) (M2 := m_L_law) (pc2 := 1803) (r := 81) (ls2 := [some (eR 0), some (eR 1), some (eR 70), some (eR 81), some (eI i), some (eI t), some (eI b3)]) (st2 := []) (V := V3) (d := d2) (i := 0) (k := 0) (ok := eOkJ) (mk := fun x => .inr (.inr (.inl x))) rfl h813 rfl (show wr 0 = ((0 : Nat) : Int) by decide) (by omega) hR9) ?_
    refine rOf (fun R9 hR9 => xEqT (N := 4) (x := bLcmp (ot2 0) (wr b3)) (y := 0) (A := ev m_L_law 1813 [some (eR 0), some (eR 1), some (eR 70), some (eR 81), some (eI i), some (eI t), some (eI b3)] [] (V3, d2)) (B := ev m_L_law 1811 [some (eR 0), some (eR 1), some (eR 70), some (eR 81), some (eI i), some (eI t), some (eI b3)] [] (V3, d2)) rfl (by rw [t2 ht0, hb3 ht0]; exact wrcmp) (show wr 0 = 0 by decide) rfl hR9) ?_
    refine rOf (fun R9 hR9 => xSeg (N := 1) (r := ev m_L_law 3064 [some (eR 0), some (eR 1), some (eR 70), some (eR 81), some (eI i), some (eI t), some (eI b3)] [] (V3, d2)) rfl hR9) ?_
    refine rOf (fun R9 hR9 => xTk 5 (by rfl) rfl hR9) ?_
    exact hK V3 d2 ⟨a, x, t, ot2, C3, M3, h03, h813⟩ dl2
  · refine rOf (fun R9 hR9 => xLdV (N := 6) (M2 := m_L_law) (pc2 := 1754) (r := 0) (ls2 := [some (eR 0), some (eR 1), some (eR 70), some (eR 81), some (eI i)]) (st2 := [eR 1]) (V := V) (d := d) (i := i + 1) (k := j + 1) (ok := eOkI) (mk := fun x => .inl x) rfl h0 rfl (wr_nat (by omega) (by omega)) (by omega) hR9) ?_
    refine rOf (fun R9 hR9 => xLdV (N := 5) (M2 := m_L_law) (pc2 := 1760) (r := 0) (ls2 := [some (eR 0), some (eR 1), some (eR 70), some (eR 81), some (eI i)]) (st2 := [eI (f (j + 1)), eR 1]) (V := V) (d := d) (i := i + 2) (k := j + 2) (ok := eOkI) (mk := fun x => .inl x) rfl h0 rfl (wr_nat (by omega) (by omega)) (by omega) hR9) ?_
    obtain ⟨V2, ot2, d2, q2, C2, o2, t2, fr2, dl2⟩ := lqV (d := d) hq C h81 rfl
    have h02 := (fr2.2 0 (by omega)).trans h0
    have h702 := (fr2.2 70 (by omega)).trans h70
    obtain ⟨P2, h12⟩ := CI_1 C2
    refine rOf (fun R9 hR9 => xCall (N := 2) (M2 := m_L_law) (pc2 := 1762) (ls2 := [some (eR 0), some (eR 1), some (eR 70), some (eR 81), some (eI i)]) (st2 := []) (y := m_L_candidateAt) (as := [some (eR 1), some (eI (f (j + 1))), some (eI (f (j + 2))), some (eR 81)]) (w2 := (V, d)) rfl q2 hR9) ?_
    refine rOf (fun R9 hR9 => xLdV (N := 7) (M2 := m_L_law) (pc2 := 1773) (r := 0) (ls2 := [some (eR 0), some (eR 1), some (eR 70), some (eR 81), some (eI i), some (eI t)]) (st2 := [eR 70]) (V := V2) (d := d2) (i := i + 1) (k := j + 1) (ok := eOkI) (mk := fun x => .inl x) rfl h02 rfl (wr_nat (by omega) (by omega)) (by omega) hR9) ?_
    refine rOf (fun R9 hR9 => xLdV (N := 5) (M2 := m_L_law) (pc2 := 1779) (r := 0) (ls2 := [some (eR 0), some (eR 1), some (eR 70), some (eR 81), some (eI i), some (eI t)]) (st2 := [eI (f (j + 1)), eR 70]) (V := V2) (d := d2) (i := i + 2) (k := j + 2) (ok := eOkI) (mk := fun x => .inl x) rfl h02 rfl (wr_nat (by omega) (by omega)) (by omega) hR9) ?_
    obtain ⟨V3, b3, q3, M3, hb3, fm3⟩ := nqV (d := d2) hn (MI_fr (fun k hk => fr2.2 k (by omega)) M) rfl
    have h03 := (fm3.2 0 (by omega)).trans h02
    have h13 := (fm3.2 1 (by omega)).trans h12
    have h813 := (fm3.2 81 (by omega)).trans o2
    obtain ⟨P3, h703⟩ := MI_70 M3
    have C3 := CI_fr (Nat.le_of_eq fm3.1.symm) (fun k hk => fm3.2 k (by omega)) C2
    refine rOf (fun R9 hR9 => xCallA1 (N := 1) (M2 := m_L_law) (pc2 := 1780) (y := m_M_candidateAt) (n := 3) (ls2 := [some (eR 0), some (eR 1), some (eR 70), some (eR 81), some (eI i), some (eI t)]) (st2 := []) (st9 := [eI (f (j + 2)), eI (f (j + 1)), eR 70]) (V := V2) (d := d2) (r := 70) (bs := [eI (f (j + 1)), eI (f (j + 2))]) rfl rfl h702 rfl q3 hR9) ?_
    refine rOf (fun R9 hR9 => xCallA1 (N := 3) (M2 := m_L_law) (pc2 := 1786) (y := m_M_thrown) (n := 1) (ls2 := [some (eR 0), some (eR 1), some (eR 70), some (eR 81), some (eI i), some (eI t), some (eI b3)]) (st2 := []) (st9 := [eR 70]) (V := V3) (d := d2) (r := 70) (bs := []) rfl rfl h703 rfl (thrV M3) hR9) ?_
    refine rOf (fun R9 hR9 => xEqT (N := 2) (x := t) (y := t) (A := ev m_L_law 1796 [some (eR 0), some (eR 1), some (eR 70), some (eR 81), some (eI i), some (eI t), some (eI b3)] [] (V3, d2)) (B := ev m_L_law 1794 [some (eR 0), some (eR 1), some (eR 70), some (eR 81), some (eI i), some (eI t), some (eI b3)] [] (V3, d2)) rfl rfl rfl rfl hR9) ?_
    refine rOf (fun R9 hR9 => xEqF (N := 2) (x := t) (y := 0) (A := ev m_L_law 1801 [some (eR 0), some (eR 1), some (eR 70), some (eR 81), some (eI i), some (eI t), some (eI b3)] [] (V3, d2)) (B := ev m_L_law 1813 [some (eR 0), some (eR 1), some (eR 70), some (eR 81), some (eI i), some (eI t), some (eI b3)] [] (V3, d2)) rfl (wr_id (by omega) (by omega)) (show wr 0 = 0 by decide) (by omega) hR9) ?_
    refine rOf (fun R9 hR9 => xSeg (N := 1) (r := ev m_L_law 3064 [some (eR 0), some (eR 1), some (eR 70), some (eR 81), some (eI i), some (eI t), some (eI b3)] [] (V3, d2)) rfl hR9) ?_
    refine rOf (fun R9 hR9 => xTk 5 (by rfl) rfl hR9) ?_
    exact hK V3 d2 ⟨a, x, t, ot2, C3, M3, h03, h813⟩ dl2
theorem k_guessedSlot {V : List eC} {d : Nat × Nat} {L j : Nat} {f : Nat → Int} {i : Int} {Q : (Option eV ⊕ Nat) × eW → Prop} (hi : i = (j : Int)) (hj : j + 6 ≤ L) (hL : L ≤ 3072) (hr : ∀ k, -2147483648 ≤ f k ∧ f k < 2147483648) (h : LI V L f) (hK : ∀ V' d', LI V' L f → dl d d' → Rs (ev m_L_law 3064 [some (eR 0), some (eR 1), some (eR 70), some (eR 81), some (eI i)] [] (V', d')) Q) : Rs (ev m_L_law 1842 [some (eR 0), some (eR 1), some (eR 70), some (eR 81), some (eI i)] [] (V, d)) Q := by
  obtain ⟨a, x, t0, ot, C, M, h0, h81⟩ := h
  obtain ⟨P1, h1⟩ := CI_1 C
  obtain ⟨P70, h70⟩ := MI_70 M
  have hI : iA a := CI_I C
  obtain ⟨t, v, ht, hq, hn⟩ := q_guessedSlot hI (hr (j + 1))
  by_cases ht0 : t = 0
  · refine rOf (fun R9 hR9 => xLdV (N := 6) (M2 := m_L_law) (pc2 := 1848) (r := 0) (ls2 := [some (eR 0), some (eR 1), some (eR 70), some (eR 81), some (eI i)]) (st2 := [eR 1]) (V := V) (d := d) (i := i + 1) (k := j + 1) (ok := eOkI) (mk := fun x => .inl x) rfl h0 rfl (wr_nat (by omega) (by omega)) (by omega) hR9) ?_
    obtain ⟨V2, ot2, d2, q2, C2, o2, t2, fr2, dl2⟩ := lqV (d := d) hq C h81 rfl
    have h02 := (fr2.2 0 (by omega)).trans h0
    have h702 := (fr2.2 70 (by omega)).trans h70
    obtain ⟨P2, h12⟩ := CI_1 C2
    refine rOf (fun R9 hR9 => xCall (N := 2) (M2 := m_L_law) (pc2 := 1850) (ls2 := [some (eR 0), some (eR 1), some (eR 70), some (eR 81), some (eI i)]) (st2 := []) (y := m_L_guessedSlot) (as := [some (eR 1), some (eI (f (j + 1))), some (eR 81)]) (w2 := (V, d)) rfl q2 hR9) ?_
    refine rOf (fun R9 hR9 => xLdV (N := 7) (M2 := m_L_law) (pc2 := 1861) (r := 0) (ls2 := [some (eR 0), some (eR 1), some (eR 70), some (eR 81), some (eI i), some (eI t)]) (st2 := [eR 70]) (V := V2) (d := d2) (i := i + 1) (k := j + 1) (ok := eOkI) (mk := fun x => .inl x) rfl h02 rfl (wr_nat (by omega) (by omega)) (by omega) hR9) ?_
    obtain ⟨V3, b3, q3, M3, hb3, fm3⟩ := nqV (d := d2) hn (MI_fr (fun k hk => fr2.2 k (by omega)) M) rfl
    have h03 := (fm3.2 0 (by omega)).trans h02
    have h13 := (fm3.2 1 (by omega)).trans h12
    have h813 := (fm3.2 81 (by omega)).trans o2
    obtain ⟨P3, h703⟩ := MI_70 M3
    have C3 := CI_fr (Nat.le_of_eq fm3.1.symm) (fun k hk => fm3.2 k (by omega)) C2
    refine rOf (fun R9 hR9 => xCallA1 (N := 1) (M2 := m_L_law) (pc2 := 1862) (y := m_M_guessedSlot) (n := 2) (ls2 := [some (eR 0), some (eR 1), some (eR 70), some (eR 81), some (eI i), some (eI t)]) (st2 := []) (st9 := [eI (f (j + 1)), eR 70]) (V := V2) (d := d2) (r := 70) (bs := [eI (f (j + 1))]) rfl rfl h702 rfl q3 hR9) ?_
    refine rOf (fun R9 hR9 => xCallA1 (N := 3) (M2 := m_L_law) (pc2 := 1868) (y := m_M_thrown) (n := 1) (ls2 := [some (eR 0), some (eR 1), some (eR 70), some (eR 81), some (eI i), some (eI t), some (eI b3)]) (st2 := []) (st9 := [eR 70]) (V := V3) (d := d2) (r := 70) (bs := []) rfl rfl h703 rfl (thrV M3) hR9) ?_
    refine rOf (fun R9 hR9 => xEqT (N := 2) (x := t) (y := t) (A := ev m_L_law 1878 [some (eR 0), some (eR 1), some (eR 70), some (eR 81), some (eI i), some (eI t), some (eI b3)] [] (V3, d2)) (B := ev m_L_law 1876 [some (eR 0), some (eR 1), some (eR 70), some (eR 81), some (eI i), some (eI t), some (eI b3)] [] (V3, d2)) rfl rfl rfl rfl hR9) ?_
    refine rOf (fun R9 hR9 => xEqT (N := 2) (x := t) (y := 0) (A := ev m_L_law 1883 [some (eR 0), some (eR 1), some (eR 70), some (eR 81), some (eI i), some (eI t), some (eI b3)] [] (V3, d2)) (B := ev m_L_law 1895 [some (eR 0), some (eR 1), some (eR 70), some (eR 81), some (eI i), some (eI t), some (eI b3)] [] (V3, d2)) rfl (wr_id (by omega) (by omega)) (show wr 0 = 0 by decide) (by omega) hR9) ?_
    refine rOf (fun R9 hR9 => xLdV (N := 3) (M2 := m_L_law) (pc2 := 1885) (r := 81) (ls2 := [some (eR 0), some (eR 1), some (eR 70), some (eR 81), some (eI i), some (eI t), some (eI b3)]) (st2 := []) (V := V3) (d := d2) (i := 0) (k := 0) (ok := eOkJ) (mk := fun x => .inr (.inr (.inl x))) rfl h813 rfl (show wr 0 = ((0 : Nat) : Int) by decide) (by omega) hR9) ?_
    refine rOf (fun R9 hR9 => xEqT (N := 4) (x := bLcmp (ot2 0) (wr b3)) (y := 0) (A := ev m_L_law 1895 [some (eR 0), some (eR 1), some (eR 70), some (eR 81), some (eI i), some (eI t), some (eI b3)] [] (V3, d2)) (B := ev m_L_law 1893 [some (eR 0), some (eR 1), some (eR 70), some (eR 81), some (eI i), some (eI t), some (eI b3)] [] (V3, d2)) rfl (by rw [t2 ht0, hb3 ht0]; exact wrcmp) (show wr 0 = 0 by decide) rfl hR9) ?_
    refine rOf (fun R9 hR9 => xSeg (N := 1) (r := ev m_L_law 3064 [some (eR 0), some (eR 1), some (eR 70), some (eR 81), some (eI i), some (eI t), some (eI b3)] [] (V3, d2)) rfl hR9) ?_
    refine rOf (fun R9 hR9 => xTk 5 (by rfl) rfl hR9) ?_
    exact hK V3 d2 ⟨a, x, t, ot2, C3, M3, h03, h813⟩ dl2
  · refine rOf (fun R9 hR9 => xLdV (N := 6) (M2 := m_L_law) (pc2 := 1848) (r := 0) (ls2 := [some (eR 0), some (eR 1), some (eR 70), some (eR 81), some (eI i)]) (st2 := [eR 1]) (V := V) (d := d) (i := i + 1) (k := j + 1) (ok := eOkI) (mk := fun x => .inl x) rfl h0 rfl (wr_nat (by omega) (by omega)) (by omega) hR9) ?_
    obtain ⟨V2, ot2, d2, q2, C2, o2, t2, fr2, dl2⟩ := lqV (d := d) hq C h81 rfl
    have h02 := (fr2.2 0 (by omega)).trans h0
    have h702 := (fr2.2 70 (by omega)).trans h70
    obtain ⟨P2, h12⟩ := CI_1 C2
    refine rOf (fun R9 hR9 => xCall (N := 2) (M2 := m_L_law) (pc2 := 1850) (ls2 := [some (eR 0), some (eR 1), some (eR 70), some (eR 81), some (eI i)]) (st2 := []) (y := m_L_guessedSlot) (as := [some (eR 1), some (eI (f (j + 1))), some (eR 81)]) (w2 := (V, d)) rfl q2 hR9) ?_
    refine rOf (fun R9 hR9 => xLdV (N := 7) (M2 := m_L_law) (pc2 := 1861) (r := 0) (ls2 := [some (eR 0), some (eR 1), some (eR 70), some (eR 81), some (eI i), some (eI t)]) (st2 := [eR 70]) (V := V2) (d := d2) (i := i + 1) (k := j + 1) (ok := eOkI) (mk := fun x => .inl x) rfl h02 rfl (wr_nat (by omega) (by omega)) (by omega) hR9) ?_
    obtain ⟨V3, b3, q3, M3, hb3, fm3⟩ := nqV (d := d2) hn (MI_fr (fun k hk => fr2.2 k (by omega)) M) rfl
    have h03 := (fm3.2 0 (by omega)).trans h02
    have h13 := (fm3.2 1 (by omega)).trans h12
    have h813 := (fm3.2 81 (by omega)).trans o2
    obtain ⟨P3, h703⟩ := MI_70 M3
    have C3 := CI_fr (Nat.le_of_eq fm3.1.symm) (fun k hk => fm3.2 k (by omega)) C2
    refine rOf (fun R9 hR9 => xCallA1 (N := 1) (M2 := m_L_law) (pc2 := 1862) (y := m_M_guessedSlot) (n := 2) (ls2 := [some (eR 0), some (eR 1), some (eR 70), some (eR 81), some (eI i), some (eI t)]) (st2 := []) (st9 := [eI (f (j + 1)), eR 70]) (V := V2) (d := d2) (r := 70) (bs := [eI (f (j + 1))]) rfl rfl h702 rfl q3 hR9) ?_
    refine rOf (fun R9 hR9 => xCallA1 (N := 3) (M2 := m_L_law) (pc2 := 1868) (y := m_M_thrown) (n := 1) (ls2 := [some (eR 0), some (eR 1), some (eR 70), some (eR 81), some (eI i), some (eI t), some (eI b3)]) (st2 := []) (st9 := [eR 70]) (V := V3) (d := d2) (r := 70) (bs := []) rfl rfl h703 rfl (thrV M3) hR9) ?_
    refine rOf (fun R9 hR9 => xEqT (N := 2) (x := t) (y := t) (A := ev m_L_law 1878 [some (eR 0), some (eR 1), some (eR 70), some (eR 81), some (eI i), some (eI t), some (eI b3)] [] (V3, d2)) (B := ev m_L_law 1876 [some (eR 0), some (eR 1), some (eR 70), some (eR 81), some (eI i), some (eI t), some (eI b3)] [] (V3, d2)) rfl rfl rfl rfl hR9) ?_
    refine rOf (fun R9 hR9 => xEqF (N := 2) (x := t) (y := 0) (A := ev m_L_law 1883 [some (eR 0), some (eR 1), some (eR 70), some (eR 81), some (eI i), some (eI t), some (eI b3)] [] (V3, d2)) (B := ev m_L_law 1895 [some (eR 0), some (eR 1), some (eR 70), some (eR 81), some (eI i), some (eI t), some (eI b3)] [] (V3, d2)) rfl (wr_id (by omega) (by omega)) (show wr 0 = 0 by decide) (by omega) hR9) ?_
    refine rOf (fun R9 hR9 => xSeg (N := 1) (r := ev m_L_law 3064 [some (eR 0), some (eR 1), some (eR 70), some (eR 81), some (eI i), some (eI t), some (eI b3)] [] (V3, d2)) rfl hR9) ?_
    refine rOf (fun R9 hR9 => xTk 5 (by rfl) rfl hR9) ?_
    exact hK V3 d2 ⟨a, x, t, ot2, C3, M3, h03, h813⟩ dl2
theorem k_guessedWord {V : List eC} {d : Nat × Nat} {L j : Nat} {f : Nat → Int} {i : Int} {Q : (Option eV ⊕ Nat) × eW → Prop} (hi : i = (j : Int)) (hj : j + 6 ≤ L) (hL : L ≤ 3072) (hr : ∀ k, -2147483648 ≤ f k ∧ f k < 2147483648) (h : LI V L f) (hK : ∀ V' d', LI V' L f → dl d d' → Rs (ev m_L_law 3064 [some (eR 0), some (eR 1), some (eR 70), some (eR 81), some (eI i)] [] (V', d')) Q) : Rs (ev m_L_law 1898 [some (eR 0), some (eR 1), some (eR 70), some (eR 81), some (eI i)] [] (V, d)) Q := by
  obtain ⟨a, x, t0, ot, C, M, h0, h81⟩ := h
  obtain ⟨P1, h1⟩ := CI_1 C
  obtain ⟨P70, h70⟩ := MI_70 M
  have hI : iA a := CI_I C
  obtain ⟨t, v, ht, hq, hn⟩ := q_guessedWord hI (hr (j + 1))
  by_cases ht0 : t = 0
  · refine rOf (fun R9 hR9 => xLdV (N := 6) (M2 := m_L_law) (pc2 := 1904) (r := 0) (ls2 := [some (eR 0), some (eR 1), some (eR 70), some (eR 81), some (eI i)]) (st2 := [eR 1]) (V := V) (d := d) (i := i + 1) (k := j + 1) (ok := eOkI) (mk := fun x => .inl x) rfl h0 rfl (wr_nat (by omega) (by omega)) (by omega) hR9) ?_
    obtain ⟨V2, ot2, d2, q2, C2, o2, t2, fr2, dl2⟩ := lqV (d := d) hq C h81 rfl
    have h02 := (fr2.2 0 (by omega)).trans h0
    have h702 := (fr2.2 70 (by omega)).trans h70
    obtain ⟨P2, h12⟩ := CI_1 C2
    refine rOf (fun R9 hR9 => xCall (N := 2) (M2 := m_L_law) (pc2 := 1906) (ls2 := [some (eR 0), some (eR 1), some (eR 70), some (eR 81), some (eI i)]) (st2 := []) (y := m_L_guessedWord) (as := [some (eR 1), some (eI (f (j + 1))), some (eR 81)]) (w2 := (V, d)) rfl q2 hR9) ?_
    refine rOf (fun R9 hR9 => xLdV (N := 7) (M2 := m_L_law) (pc2 := 1917) (r := 0) (ls2 := [some (eR 0), some (eR 1), some (eR 70), some (eR 81), some (eI i), some (eI t)]) (st2 := [eR 70]) (V := V2) (d := d2) (i := i + 1) (k := j + 1) (ok := eOkI) (mk := fun x => .inl x) rfl h02 rfl (wr_nat (by omega) (by omega)) (by omega) hR9) ?_
    obtain ⟨V3, b3, q3, M3, hb3, fm3⟩ := nqV (d := d2) hn (MI_fr (fun k hk => fr2.2 k (by omega)) M) rfl
    have h03 := (fm3.2 0 (by omega)).trans h02
    have h13 := (fm3.2 1 (by omega)).trans h12
    have h813 := (fm3.2 81 (by omega)).trans o2
    obtain ⟨P3, h703⟩ := MI_70 M3
    have C3 := CI_fr (Nat.le_of_eq fm3.1.symm) (fun k hk => fm3.2 k (by omega)) C2
    refine rOf (fun R9 hR9 => xCallA1 (N := 1) (M2 := m_L_law) (pc2 := 1918) (y := m_M_guessedWord) (n := 2) (ls2 := [some (eR 0), some (eR 1), some (eR 70), some (eR 81), some (eI i), some (eI t)]) (st2 := []) (st9 := [eI (f (j + 1)), eR 70]) (V := V2) (d := d2) (r := 70) (bs := [eI (f (j + 1))]) rfl rfl h702 rfl q3 hR9) ?_
    refine rOf (fun R9 hR9 => xCallA1 (N := 3) (M2 := m_L_law) (pc2 := 1924) (y := m_M_thrown) (n := 1) (ls2 := [some (eR 0), some (eR 1), some (eR 70), some (eR 81), some (eI i), some (eI t), some (eI b3)]) (st2 := []) (st9 := [eR 70]) (V := V3) (d := d2) (r := 70) (bs := []) rfl rfl h703 rfl (thrV M3) hR9) ?_
    refine rOf (fun R9 hR9 => xEqT (N := 2) (x := t) (y := t) (A := ev m_L_law 1934 [some (eR 0), some (eR 1), some (eR 70), some (eR 81), some (eI i), some (eI t), some (eI b3)] [] (V3, d2)) (B := ev m_L_law 1932 [some (eR 0), some (eR 1), some (eR 70), some (eR 81), some (eI i), some (eI t), some (eI b3)] [] (V3, d2)) rfl rfl rfl rfl hR9) ?_
    refine rOf (fun R9 hR9 => xEqT (N := 2) (x := t) (y := 0) (A := ev m_L_law 1939 [some (eR 0), some (eR 1), some (eR 70), some (eR 81), some (eI i), some (eI t), some (eI b3)] [] (V3, d2)) (B := ev m_L_law 1951 [some (eR 0), some (eR 1), some (eR 70), some (eR 81), some (eI i), some (eI t), some (eI b3)] [] (V3, d2)) rfl (wr_id (by omega) (by omega)) (show wr 0 = 0 by decide) (by omega) hR9) ?_
    refine rOf (fun R9 hR9 => xLdV (N := 3) (M2 := m_L_law) (pc2 := 1941) (r := 81) (ls2 := [some (eR 0), some (eR 1), some (eR 70), some (eR 81), some (eI i), some (eI t), some (eI b3)]) (st2 := []) (V := V3) (d := d2) (i := 0) (k := 0) (ok := eOkJ) (mk := fun x => .inr (.inr (.inl x))) rfl h813 rfl (show wr 0 = ((0 : Nat) : Int) by decide) (by omega) hR9) ?_
    refine rOf (fun R9 hR9 => xEqT (N := 4) (x := bLcmp (ot2 0) (wr b3)) (y := 0) (A := ev m_L_law 1951 [some (eR 0), some (eR 1), some (eR 70), some (eR 81), some (eI i), some (eI t), some (eI b3)] [] (V3, d2)) (B := ev m_L_law 1949 [some (eR 0), some (eR 1), some (eR 70), some (eR 81), some (eI i), some (eI t), some (eI b3)] [] (V3, d2)) rfl (by rw [t2 ht0, hb3 ht0]; exact wrcmp) (show wr 0 = 0 by decide) rfl hR9) ?_
    refine rOf (fun R9 hR9 => xSeg (N := 1) (r := ev m_L_law 3064 [some (eR 0), some (eR 1), some (eR 70), some (eR 81), some (eI i), some (eI t), some (eI b3)] [] (V3, d2)) rfl hR9) ?_
    refine rOf (fun R9 hR9 => xTk 5 (by rfl) rfl hR9) ?_
    exact hK V3 d2 ⟨a, x, t, ot2, C3, M3, h03, h813⟩ dl2
  · refine rOf (fun R9 hR9 => xLdV (N := 6) (M2 := m_L_law) (pc2 := 1904) (r := 0) (ls2 := [some (eR 0), some (eR 1), some (eR 70), some (eR 81), some (eI i)]) (st2 := [eR 1]) (V := V) (d := d) (i := i + 1) (k := j + 1) (ok := eOkI) (mk := fun x => .inl x) rfl h0 rfl (wr_nat (by omega) (by omega)) (by omega) hR9) ?_
    obtain ⟨V2, ot2, d2, q2, C2, o2, t2, fr2, dl2⟩ := lqV (d := d) hq C h81 rfl
    have h02 := (fr2.2 0 (by omega)).trans h0
    have h702 := (fr2.2 70 (by omega)).trans h70
    obtain ⟨P2, h12⟩ := CI_1 C2
    refine rOf (fun R9 hR9 => xCall (N := 2) (M2 := m_L_law) (pc2 := 1906) (ls2 := [some (eR 0), some (eR 1), some (eR 70), some (eR 81), some (eI i)]) (st2 := []) (y := m_L_guessedWord) (as := [some (eR 1), some (eI (f (j + 1))), some (eR 81)]) (w2 := (V, d)) rfl q2 hR9) ?_
    refine rOf (fun R9 hR9 => xLdV (N := 7) (M2 := m_L_law) (pc2 := 1917) (r := 0) (ls2 := [some (eR 0), some (eR 1), some (eR 70), some (eR 81), some (eI i), some (eI t)]) (st2 := [eR 70]) (V := V2) (d := d2) (i := i + 1) (k := j + 1) (ok := eOkI) (mk := fun x => .inl x) rfl h02 rfl (wr_nat (by omega) (by omega)) (by omega) hR9) ?_
    obtain ⟨V3, b3, q3, M3, hb3, fm3⟩ := nqV (d := d2) hn (MI_fr (fun k hk => fr2.2 k (by omega)) M) rfl
    have h03 := (fm3.2 0 (by omega)).trans h02
    have h13 := (fm3.2 1 (by omega)).trans h12
    have h813 := (fm3.2 81 (by omega)).trans o2
    obtain ⟨P3, h703⟩ := MI_70 M3
    have C3 := CI_fr (Nat.le_of_eq fm3.1.symm) (fun k hk => fm3.2 k (by omega)) C2
    refine rOf (fun R9 hR9 => xCallA1 (N := 1) (M2 := m_L_law) (pc2 := 1918) (y := m_M_guessedWord) (n := 2) (ls2 := [some (eR 0), some (eR 1), some (eR 70), some (eR 81), some (eI i), some (eI t)]) (st2 := []) (st9 := [eI (f (j + 1)), eR 70]) (V := V2) (d := d2) (r := 70) (bs := [eI (f (j + 1))]) rfl rfl h702 rfl q3 hR9) ?_
    refine rOf (fun R9 hR9 => xCallA1 (N := 3) (M2 := m_L_law) (pc2 := 1924) (y := m_M_thrown) (n := 1) (ls2 := [some (eR 0), some (eR 1), some (eR 70), some (eR 81), some (eI i), some (eI t), some (eI b3)]) (st2 := []) (st9 := [eR 70]) (V := V3) (d := d2) (r := 70) (bs := []) rfl rfl h703 rfl (thrV M3) hR9) ?_
    refine rOf (fun R9 hR9 => xEqT (N := 2) (x := t) (y := t) (A := ev m_L_law 1934 [some (eR 0), some (eR 1), some (eR 70), some (eR 81), some (eI i), some (eI t), some (eI b3)] [] (V3, d2)) (B := ev m_L_law 1932 [some (eR 0), some (eR 1), some (eR 70), some (eR 81), some (eI i), some (eI t), some (eI b3)] [] (V3, d2)) rfl rfl rfl rfl hR9) ?_
    refine rOf (fun R9 hR9 => xEqF (N := 2) (x := t) (y := 0) (A := ev m_L_law 1939 [some (eR 0), some (eR 1), some (eR 70), some (eR 81), some (eI i), some (eI t), some (eI b3)] [] (V3, d2)) (B := ev m_L_law 1951 [some (eR 0), some (eR 1), some (eR 70), some (eR 81), some (eI i), some (eI t), some (eI b3)] [] (V3, d2)) rfl (wr_id (by omega) (by omega)) (show wr 0 = 0 by decide) (by omega) hR9) ?_
    refine rOf (fun R9 hR9 => xSeg (N := 1) (r := ev m_L_law 3064 [some (eR 0), some (eR 1), some (eR 70), some (eR 81), some (eI i), some (eI t), some (eI b3)] [] (V3, d2)) rfl hR9) ?_
    refine rOf (fun R9 hR9 => xTk 5 (by rfl) rfl hR9) ?_
    exact hK V3 d2 ⟨a, x, t, ot2, C3, M3, h03, h813⟩ dl2
theorem k_bestWord {V : List eC} {d : Nat × Nat} {L j : Nat} {f : Nat → Int} {i : Int} {Q : (Option eV ⊕ Nat) × eW → Prop} (hi : i = (j : Int)) (hj : j + 6 ≤ L) (hL : L ≤ 3072) (hr : ∀ k, -2147483648 ≤ f k ∧ f k < 2147483648) (h : LI V L f) (hK : ∀ V' d', LI V' L f → dl d d' → Rs (ev m_L_law 3064 [some (eR 0), some (eR 1), some (eR 70), some (eR 81), some (eI i)] [] (V', d')) Q) : Rs (ev m_L_law 1967 [some (eR 0), some (eR 1), some (eR 70), some (eR 81), some (eI i)] [] (V, d)) Q := by
  obtain ⟨a, x, t0, ot, C, M, h0, h81⟩ := h
  obtain ⟨P1, h1⟩ := CI_1 C
  obtain ⟨P70, h70⟩ := MI_70 M
  have hI : iA a := CI_I C
  obtain ⟨t, v, ht, hq, hn⟩ := q_bestWord hI (hr (j + 1))
  by_cases ht0 : t = 0
  · refine rOf (fun R9 hR9 => xLdV (N := 6) (M2 := m_L_law) (pc2 := 1973) (r := 0) (ls2 := [some (eR 0), some (eR 1), some (eR 70), some (eR 81), some (eI i)]) (st2 := [eR 1]) (V := V) (d := d) (i := i + 1) (k := j + 1) (ok := eOkI) (mk := fun x => .inl x) rfl h0 rfl (wr_nat (by omega) (by omega)) (by omega) hR9) ?_
    obtain ⟨V2, ot2, d2, q2, C2, o2, t2, fr2, dl2⟩ := lqV (d := d) hq C h81 rfl
    have h02 := (fr2.2 0 (by omega)).trans h0
    have h702 := (fr2.2 70 (by omega)).trans h70
    obtain ⟨P2, h12⟩ := CI_1 C2
    refine rOf (fun R9 hR9 => xCall (N := 2) (M2 := m_L_law) (pc2 := 1975) (ls2 := [some (eR 0), some (eR 1), some (eR 70), some (eR 81), some (eI i)]) (st2 := []) (y := m_L_bestWord) (as := [some (eR 1), some (eI (f (j + 1))), some (eR 81)]) (w2 := (V, d)) rfl q2 hR9) ?_
    refine rOf (fun R9 hR9 => xLdV (N := 7) (M2 := m_L_law) (pc2 := 1986) (r := 0) (ls2 := [some (eR 0), some (eR 1), some (eR 70), some (eR 81), some (eI i), some (eI t)]) (st2 := [eR 70]) (V := V2) (d := d2) (i := i + 1) (k := j + 1) (ok := eOkI) (mk := fun x => .inl x) rfl h02 rfl (wr_nat (by omega) (by omega)) (by omega) hR9) ?_
    obtain ⟨V3, b3, q3, M3, hb3, fm3⟩ := nqV (d := d2) hn (MI_fr (fun k hk => fr2.2 k (by omega)) M) rfl
    have h03 := (fm3.2 0 (by omega)).trans h02
    have h13 := (fm3.2 1 (by omega)).trans h12
    have h813 := (fm3.2 81 (by omega)).trans o2
    obtain ⟨P3, h703⟩ := MI_70 M3
    have C3 := CI_fr (Nat.le_of_eq fm3.1.symm) (fun k hk => fm3.2 k (by omega)) C2
    refine rOf (fun R9 hR9 => xCallA1 (N := 1) (M2 := m_L_law) (pc2 := 1987) (y := m_M_bestWord) (n := 2) (ls2 := [some (eR 0), some (eR 1), some (eR 70), some (eR 81), some (eI i), some (eI t)]) (st2 := []) (st9 := [eI (f (j + 1)), eR 70]) (V := V2) (d := d2) (r := 70) (bs := [eI (f (j + 1))]) rfl rfl h702 rfl q3 hR9) ?_
    refine rOf (fun R9 hR9 => xCallA1 (N := 3) (M2 := m_L_law) (pc2 := 1993) (y := m_M_thrown) (n := 1) (ls2 := [some (eR 0), some (eR 1), some (eR 70), some (eR 81), some (eI i), some (eI t), some (eI b3)]) (st2 := []) (st9 := [eR 70]) (V := V3) (d := d2) (r := 70) (bs := []) rfl rfl h703 rfl (thrV M3) hR9) ?_
    refine rOf (fun R9 hR9 => xEqT (N := 2) (x := t) (y := t) (A := ev m_L_law 2003 [some (eR 0), some (eR 1), some (eR 70), some (eR 81), some (eI i), some (eI t), some (eI b3)] [] (V3, d2)) (B := ev m_L_law 2001 [some (eR 0), some (eR 1), some (eR 70), some (eR 81), some (eI i), some (eI t), some (eI b3)] [] (V3, d2)) rfl rfl rfl rfl hR9) ?_
    refine rOf (fun R9 hR9 => xEqT (N := 2) (x := t) (y := 0) (A := ev m_L_law 2008 [some (eR 0), some (eR 1), some (eR 70), some (eR 81), some (eI i), some (eI t), some (eI b3)] [] (V3, d2)) (B := ev m_L_law 2020 [some (eR 0), some (eR 1), some (eR 70), some (eR 81), some (eI i), some (eI t), some (eI b3)] [] (V3, d2)) rfl (wr_id (by omega) (by omega)) (show wr 0 = 0 by decide) (by omega) hR9) ?_
    refine rOf (fun R9 hR9 => xLdV (N := 3) (M2 := m_L_law) (pc2 := 2010) (r := 81) (ls2 := [some (eR 0), some (eR 1), some (eR 70), some (eR 81), some (eI i), some (eI t), some (eI b3)]) (st2 := []) (V := V3) (d := d2) (i := 0) (k := 0) (ok := eOkJ) (mk := fun x => .inr (.inr (.inl x))) rfl h813 rfl (show wr 0 = ((0 : Nat) : Int) by decide) (by omega) hR9) ?_
    refine rOf (fun R9 hR9 => xEqT (N := 4) (x := bLcmp (ot2 0) (wr b3)) (y := 0) (A := ev m_L_law 2020 [some (eR 0), some (eR 1), some (eR 70), some (eR 81), some (eI i), some (eI t), some (eI b3)] [] (V3, d2)) (B := ev m_L_law 2018 [some (eR 0), some (eR 1), some (eR 70), some (eR 81), some (eI i), some (eI t), some (eI b3)] [] (V3, d2)) rfl (by rw [t2 ht0, hb3 ht0]; exact wrcmp) (show wr 0 = 0 by decide) rfl hR9) ?_
    refine rOf (fun R9 hR9 => xSeg (N := 1) (r := ev m_L_law 3064 [some (eR 0), some (eR 1), some (eR 70), some (eR 81), some (eI i), some (eI t), some (eI b3)] [] (V3, d2)) rfl hR9) ?_
    refine rOf (fun R9 hR9 => xTk 5 (by rfl) rfl hR9) ?_
    exact hK V3 d2 ⟨a, x, t, ot2, C3, M3, h03, h813⟩ dl2
  · refine rOf (fun R9 hR9 => xLdV (N := 6) (M2 := m_L_law) (pc2 := 1973) (r := 0) (ls2 := [some (eR 0), some (eR 1), some (eR 70), some (eR 81), some (eI i)]) (st2 := [eR 1]) (V := V) (d := d) (i := i + 1) (k := j + 1) (ok := eOkI) (mk := fun x => .inl x) rfl h0 rfl (wr_nat (by omega) (by omega)) (by omega) hR9) ?_
    obtain ⟨V2, ot2, d2, q2, C2, o2, t2, fr2, dl2⟩ := lqV (d := d) hq C h81 rfl
    have h02 := (fr2.2 0 (by omega)).trans h0
    have h702 := (fr2.2 70 (by omega)).trans h70
    obtain ⟨P2, h12⟩ := CI_1 C2
    refine rOf (fun R9 hR9 => xCall (N := 2) (M2 := m_L_law) (pc2 := 1975) (ls2 := [some (eR 0), some (eR 1), some (eR 70), some (eR 81), some (eI i)]) (st2 := []) (y := m_L_bestWord) (as := [some (eR 1), some (eI (f (j + 1))), some (eR 81)]) (w2 := (V, d)) rfl q2 hR9) ?_
    refine rOf (fun R9 hR9 => xLdV (N := 7) (M2 := m_L_law) (pc2 := 1986) (r := 0) (ls2 := [some (eR 0), some (eR 1), some (eR 70), some (eR 81), some (eI i), some (eI t)]) (st2 := [eR 70]) (V := V2) (d := d2) (i := i + 1) (k := j + 1) (ok := eOkI) (mk := fun x => .inl x) rfl h02 rfl (wr_nat (by omega) (by omega)) (by omega) hR9) ?_
    obtain ⟨V3, b3, q3, M3, hb3, fm3⟩ := nqV (d := d2) hn (MI_fr (fun k hk => fr2.2 k (by omega)) M) rfl
    have h03 := (fm3.2 0 (by omega)).trans h02
    have h13 := (fm3.2 1 (by omega)).trans h12
    have h813 := (fm3.2 81 (by omega)).trans o2
    obtain ⟨P3, h703⟩ := MI_70 M3
    have C3 := CI_fr (Nat.le_of_eq fm3.1.symm) (fun k hk => fm3.2 k (by omega)) C2
    refine rOf (fun R9 hR9 => xCallA1 (N := 1) (M2 := m_L_law) (pc2 := 1987) (y := m_M_bestWord) (n := 2) (ls2 := [some (eR 0), some (eR 1), some (eR 70), some (eR 81), some (eI i), some (eI t)]) (st2 := []) (st9 := [eI (f (j + 1)), eR 70]) (V := V2) (d := d2) (r := 70) (bs := [eI (f (j + 1))]) rfl rfl h702 rfl q3 hR9) ?_
    refine rOf (fun R9 hR9 => xCallA1 (N := 3) (M2 := m_L_law) (pc2 := 1993) (y := m_M_thrown) (n := 1) (ls2 := [some (eR 0), some (eR 1), some (eR 70), some (eR 81), some (eI i), some (eI t), some (eI b3)]) (st2 := []) (st9 := [eR 70]) (V := V3) (d := d2) (r := 70) (bs := []) rfl rfl h703 rfl (thrV M3) hR9) ?_
    refine rOf (fun R9 hR9 => xEqT (N := 2) (x := t) (y := t) (A := ev m_L_law 2003 [some (eR 0), some (eR 1), some (eR 70), some (eR 81), some (eI i), some (eI t), some (eI b3)] [] (V3, d2)) (B := ev m_L_law 2001 [some (eR 0), some (eR 1), some (eR 70), some (eR 81), some (eI i), some (eI t), some (eI b3)] [] (V3, d2)) rfl rfl rfl rfl hR9) ?_
    refine rOf (fun R9 hR9 => xEqF (N := 2) (x := t) (y := 0) (A := ev m_L_law 2008 [some (eR 0), some (eR 1), some (eR 70), some (eR 81), some (eI i), some (eI t), some (eI b3)] [] (V3, d2)) (B := ev m_L_law 2020 [some (eR 0), some (eR 1), some (eR 70), some (eR 81), some (eI i), some (eI t), some (eI b3)] [] (V3, d2)) rfl (wr_id (by omega) (by omega)) (show wr 0 = 0 by decide) (by omega) hR9) ?_
    refine rOf (fun R9 hR9 => xSeg (N := 1) (r := ev m_L_law 3064 [some (eR 0), some (eR 1), some (eR 70), some (eR 81), some (eI i), some (eI t), some (eI b3)] [] (V3, d2)) rfl hR9) ?_
    refine rOf (fun R9 hR9 => xTk 5 (by rfl) rfl hR9) ?_
    exact hK V3 d2 ⟨a, x, t, ot2, C3, M3, h03, h813⟩ dl2
theorem k_guessRefusal {V : List eC} {d : Nat × Nat} {L j : Nat} {f : Nat → Int} {i : Int} {Q : (Option eV ⊕ Nat) × eW → Prop} (hi : i = (j : Int)) (hj : j + 6 ≤ L) (hL : L ≤ 3072) (hr : ∀ k, -2147483648 ≤ f k ∧ f k < 2147483648) (h : LI V L f) (hK : ∀ V' d', LI V' L f → dl d d' → Rs (ev m_L_law 3064 [some (eR 0), some (eR 1), some (eR 70), some (eR 81), some (eI i)] [] (V', d')) Q) : Rs (ev m_L_law 2023 [some (eR 0), some (eR 1), some (eR 70), some (eR 81), some (eI i)] [] (V, d)) Q := by
  obtain ⟨a, x, t0, ot, C, M, h0, h81⟩ := h
  obtain ⟨P1, h1⟩ := CI_1 C
  obtain ⟨P70, h70⟩ := MI_70 M
  have hI : iA a := CI_I C
  obtain ⟨t, v, ht, hq, hn⟩ := q_guessRefusal hI (hr (j + 1)) (hr (j + 2))
  by_cases ht0 : t = 0
  · refine rOf (fun R9 hR9 => xLdV (N := 6) (M2 := m_L_law) (pc2 := 2029) (r := 0) (ls2 := [some (eR 0), some (eR 1), some (eR 70), some (eR 81), some (eI i)]) (st2 := [eR 1]) (V := V) (d := d) (i := i + 1) (k := j + 1) (ok := eOkI) (mk := fun x => .inl x) rfl h0 rfl (wr_nat (by omega) (by omega)) (by omega) hR9) ?_
    refine rOf (fun R9 hR9 => xLdV (N := 5) (M2 := m_L_law) (pc2 := 2035) (r := 0) (ls2 := [some (eR 0), some (eR 1), some (eR 70), some (eR 81), some (eI i)]) (st2 := [eI (f (j + 1)), eR 1]) (V := V) (d := d) (i := i + 2) (k := j + 2) (ok := eOkI) (mk := fun x => .inl x) rfl h0 rfl (wr_nat (by omega) (by omega)) (by omega) hR9) ?_
    obtain ⟨V2, ot2, d2, q2, C2, o2, t2, fr2, dl2⟩ := lqV (d := d) hq C h81 rfl
    have h02 := (fr2.2 0 (by omega)).trans h0
    have h702 := (fr2.2 70 (by omega)).trans h70
    obtain ⟨P2, h12⟩ := CI_1 C2
    refine rOf (fun R9 hR9 => xCall (N := 2) (M2 := m_L_law) (pc2 := 2037) (ls2 := [some (eR 0), some (eR 1), some (eR 70), some (eR 81), some (eI i)]) (st2 := []) (y := m_L_guessRefusal) (as := [some (eR 1), some (eI (f (j + 1))), some (eI (f (j + 2))), some (eR 81)]) (w2 := (V, d)) rfl q2 hR9) ?_
    refine rOf (fun R9 hR9 => xLdV (N := 7) (M2 := m_L_law) (pc2 := 2048) (r := 0) (ls2 := [some (eR 0), some (eR 1), some (eR 70), some (eR 81), some (eI i), some (eI t)]) (st2 := [eR 70]) (V := V2) (d := d2) (i := i + 1) (k := j + 1) (ok := eOkI) (mk := fun x => .inl x) rfl h02 rfl (wr_nat (by omega) (by omega)) (by omega) hR9) ?_
    refine rOf (fun R9 hR9 => xLdV (N := 5) (M2 := m_L_law) (pc2 := 2054) (r := 0) (ls2 := [some (eR 0), some (eR 1), some (eR 70), some (eR 81), some (eI i), some (eI t)]) (st2 := [eI (f (j + 1)), eR 70]) (V := V2) (d := d2) (i := i + 2) (k := j + 2) (ok := eOkI) (mk := fun x => .inl x) rfl h02 rfl (wr_nat (by omega) (by omega)) (by omega) hR9) ?_
    obtain ⟨V3, b3, q3, M3, hb3, fm3⟩ := nqV (d := d2) hn (MI_fr (fun k hk => fr2.2 k (by omega)) M) rfl
    have h03 := (fm3.2 0 (by omega)).trans h02
    have h13 := (fm3.2 1 (by omega)).trans h12
    have h813 := (fm3.2 81 (by omega)).trans o2
    obtain ⟨P3, h703⟩ := MI_70 M3
    have C3 := CI_fr (Nat.le_of_eq fm3.1.symm) (fun k hk => fm3.2 k (by omega)) C2
    refine rOf (fun R9 hR9 => xCallA1 (N := 1) (M2 := m_L_law) (pc2 := 2055) (y := m_M_guessRefusal) (n := 3) (ls2 := [some (eR 0), some (eR 1), some (eR 70), some (eR 81), some (eI i), some (eI t)]) (st2 := []) (st9 := [eI (f (j + 2)), eI (f (j + 1)), eR 70]) (V := V2) (d := d2) (r := 70) (bs := [eI (f (j + 1)), eI (f (j + 2))]) rfl rfl h702 rfl q3 hR9) ?_
    refine rOf (fun R9 hR9 => xCallA1 (N := 3) (M2 := m_L_law) (pc2 := 2061) (y := m_M_thrown) (n := 1) (ls2 := [some (eR 0), some (eR 1), some (eR 70), some (eR 81), some (eI i), some (eI t), some (eI b3)]) (st2 := []) (st9 := [eR 70]) (V := V3) (d := d2) (r := 70) (bs := []) rfl rfl h703 rfl (thrV M3) hR9) ?_
    refine rOf (fun R9 hR9 => xEqT (N := 2) (x := t) (y := t) (A := ev m_L_law 2071 [some (eR 0), some (eR 1), some (eR 70), some (eR 81), some (eI i), some (eI t), some (eI b3)] [] (V3, d2)) (B := ev m_L_law 2069 [some (eR 0), some (eR 1), some (eR 70), some (eR 81), some (eI i), some (eI t), some (eI b3)] [] (V3, d2)) rfl rfl rfl rfl hR9) ?_
    refine rOf (fun R9 hR9 => xEqT (N := 2) (x := t) (y := 0) (A := ev m_L_law 2076 [some (eR 0), some (eR 1), some (eR 70), some (eR 81), some (eI i), some (eI t), some (eI b3)] [] (V3, d2)) (B := ev m_L_law 2088 [some (eR 0), some (eR 1), some (eR 70), some (eR 81), some (eI i), some (eI t), some (eI b3)] [] (V3, d2)) rfl (wr_id (by omega) (by omega)) (show wr 0 = 0 by decide) (by omega) hR9) ?_
    refine rOf (fun R9 hR9 => xLdV (N := 3) (M2 := m_L_law) (pc2 := 2078) (r := 81) (ls2 := [some (eR 0), some (eR 1), some (eR 70), some (eR 81), some (eI i), some (eI t), some (eI b3)]) (st2 := []) (V := V3) (d := d2) (i := 0) (k := 0) (ok := eOkJ) (mk := fun x => .inr (.inr (.inl x))) rfl h813 rfl (show wr 0 = ((0 : Nat) : Int) by decide) (by omega) hR9) ?_
    refine rOf (fun R9 hR9 => xEqT (N := 4) (x := bLcmp (ot2 0) (wr b3)) (y := 0) (A := ev m_L_law 2088 [some (eR 0), some (eR 1), some (eR 70), some (eR 81), some (eI i), some (eI t), some (eI b3)] [] (V3, d2)) (B := ev m_L_law 2086 [some (eR 0), some (eR 1), some (eR 70), some (eR 81), some (eI i), some (eI t), some (eI b3)] [] (V3, d2)) rfl (by rw [t2 ht0, hb3 ht0]; exact wrcmp) (show wr 0 = 0 by decide) rfl hR9) ?_
    refine rOf (fun R9 hR9 => xSeg (N := 1) (r := ev m_L_law 3064 [some (eR 0), some (eR 1), some (eR 70), some (eR 81), some (eI i), some (eI t), some (eI b3)] [] (V3, d2)) rfl hR9) ?_
    refine rOf (fun R9 hR9 => xTk 5 (by rfl) rfl hR9) ?_
    exact hK V3 d2 ⟨a, x, t, ot2, C3, M3, h03, h813⟩ dl2
  · refine rOf (fun R9 hR9 => xLdV (N := 6) (M2 := m_L_law) (pc2 := 2029) (r := 0) (ls2 := [some (eR 0), some (eR 1), some (eR 70), some (eR 81), some (eI i)]) (st2 := [eR 1]) (V := V) (d := d) (i := i + 1) (k := j + 1) (ok := eOkI) (mk := fun x => .inl x) rfl h0 rfl (wr_nat (by omega) (by omega)) (by omega) hR9) ?_
    refine rOf (fun R9 hR9 => xLdV (N := 5) (M2 := m_L_law) (pc2 := 2035) (r := 0) (ls2 := [some (eR 0), some (eR 1), some (eR 70), some (eR 81), some (eI i)]) (st2 := [eI (f (j + 1)), eR 1]) (V := V) (d := d) (i := i + 2) (k := j + 2) (ok := eOkI) (mk := fun x => .inl x) rfl h0 rfl (wr_nat (by omega) (by omega)) (by omega) hR9) ?_
    obtain ⟨V2, ot2, d2, q2, C2, o2, t2, fr2, dl2⟩ := lqV (d := d) hq C h81 rfl
    have h02 := (fr2.2 0 (by omega)).trans h0
    have h702 := (fr2.2 70 (by omega)).trans h70
    obtain ⟨P2, h12⟩ := CI_1 C2
    refine rOf (fun R9 hR9 => xCall (N := 2) (M2 := m_L_law) (pc2 := 2037) (ls2 := [some (eR 0), some (eR 1), some (eR 70), some (eR 81), some (eI i)]) (st2 := []) (y := m_L_guessRefusal) (as := [some (eR 1), some (eI (f (j + 1))), some (eI (f (j + 2))), some (eR 81)]) (w2 := (V, d)) rfl q2 hR9) ?_
    refine rOf (fun R9 hR9 => xLdV (N := 7) (M2 := m_L_law) (pc2 := 2048) (r := 0) (ls2 := [some (eR 0), some (eR 1), some (eR 70), some (eR 81), some (eI i), some (eI t)]) (st2 := [eR 70]) (V := V2) (d := d2) (i := i + 1) (k := j + 1) (ok := eOkI) (mk := fun x => .inl x) rfl h02 rfl (wr_nat (by omega) (by omega)) (by omega) hR9) ?_
    refine rOf (fun R9 hR9 => xLdV (N := 5) (M2 := m_L_law) (pc2 := 2054) (r := 0) (ls2 := [some (eR 0), some (eR 1), some (eR 70), some (eR 81), some (eI i), some (eI t)]) (st2 := [eI (f (j + 1)), eR 70]) (V := V2) (d := d2) (i := i + 2) (k := j + 2) (ok := eOkI) (mk := fun x => .inl x) rfl h02 rfl (wr_nat (by omega) (by omega)) (by omega) hR9) ?_
    obtain ⟨V3, b3, q3, M3, hb3, fm3⟩ := nqV (d := d2) hn (MI_fr (fun k hk => fr2.2 k (by omega)) M) rfl
    have h03 := (fm3.2 0 (by omega)).trans h02
    have h13 := (fm3.2 1 (by omega)).trans h12
    have h813 := (fm3.2 81 (by omega)).trans o2
    obtain ⟨P3, h703⟩ := MI_70 M3
    have C3 := CI_fr (Nat.le_of_eq fm3.1.symm) (fun k hk => fm3.2 k (by omega)) C2
    refine rOf (fun R9 hR9 => xCallA1 (N := 1) (M2 := m_L_law) (pc2 := 2055) (y := m_M_guessRefusal) (n := 3) (ls2 := [some (eR 0), some (eR 1), some (eR 70), some (eR 81), some (eI i), some (eI t)]) (st2 := []) (st9 := [eI (f (j + 2)), eI (f (j + 1)), eR 70]) (V := V2) (d := d2) (r := 70) (bs := [eI (f (j + 1)), eI (f (j + 2))]) rfl rfl h702 rfl q3 hR9) ?_
    refine rOf (fun R9 hR9 => xCallA1 (N := 3) (M2 := m_L_law) (pc2 := 2061) (y := m_M_thrown) (n := 1) (ls2 := [some (eR 0), some (eR 1), some (eR 70), some (eR 81), some (eI i), some (eI t), some (eI b3)]) (st2 := []) (st9 := [eR 70]) (V := V3) (d := d2) (r := 70) (bs := []) rfl rfl h703 rfl (thrV M3) hR9) ?_
    refine rOf (fun R9 hR9 => xEqT (N := 2) (x := t) (y := t) (A := ev m_L_law 2071 [some (eR 0), some (eR 1), some (eR 70), some (eR 81), some (eI i), some (eI t), some (eI b3)] [] (V3, d2)) (B := ev m_L_law 2069 [some (eR 0), some (eR 1), some (eR 70), some (eR 81), some (eI i), some (eI t), some (eI b3)] [] (V3, d2)) rfl rfl rfl rfl hR9) ?_
    refine rOf (fun R9 hR9 => xEqF (N := 2) (x := t) (y := 0) (A := ev m_L_law 2076 [some (eR 0), some (eR 1), some (eR 70), some (eR 81), some (eI i), some (eI t), some (eI b3)] [] (V3, d2)) (B := ev m_L_law 2088 [some (eR 0), some (eR 1), some (eR 70), some (eR 81), some (eI i), some (eI t), some (eI b3)] [] (V3, d2)) rfl (wr_id (by omega) (by omega)) (show wr 0 = 0 by decide) (by omega) hR9) ?_
    refine rOf (fun R9 hR9 => xSeg (N := 1) (r := ev m_L_law 3064 [some (eR 0), some (eR 1), some (eR 70), some (eR 81), some (eI i), some (eI t), some (eI b3)] [] (V3, d2)) rfl hR9) ?_
    refine rOf (fun R9 hR9 => xTk 5 (by rfl) rfl hR9) ?_
    exact hK V3 d2 ⟨a, x, t, ot2, C3, M3, h03, h813⟩ dl2
theorem k_slotAt {V : List eC} {d : Nat × Nat} {L j : Nat} {f : Nat → Int} {i : Int} {Q : (Option eV ⊕ Nat) × eW → Prop} (hi : i = (j : Int)) (hj : j + 6 ≤ L) (hL : L ≤ 3072) (hr : ∀ k, -2147483648 ≤ f k ∧ f k < 2147483648) (h : LI V L f) (hK : ∀ V' d', LI V' L f → dl d d' → Rs (ev m_L_law 3064 [some (eR 0), some (eR 1), some (eR 70), some (eR 81), some (eI i)] [] (V', d')) Q) : Rs (ev m_L_law 806 [some (eR 0), some (eR 1), some (eR 70), some (eR 81), some (eI i)] [] (V, d)) Q := by
  obtain ⟨a, x, t0, ot, C, M, h0, h81⟩ := h
  obtain ⟨P1, h1⟩ := CI_1 C
  obtain ⟨P70, h70⟩ := MI_70 M
  have hI : iA a := CI_I C
  by_cases hz : f (j + 3) = 0
  · obtain ⟨t, v, ht, hq, hn⟩ := q_slotAt0 hI (hr (j + 1)) (hr (j + 2)) (z := 0) rfl
    by_cases ht0 : t = 0
    · refine rOf (fun R9 hR9 => xLdV (N := 6) (M2 := m_L_law) (pc2 := 812) (r := 0) (ls2 := [some (eR 0), some (eR 1), some (eR 70), some (eR 81), some (eI i)]) (st2 := [eR 1]) (V := V) (d := d) (i := i + 1) (k := j + 1) (ok := eOkI) (mk := fun x => .inl x) rfl h0 rfl (wr_nat (by omega) (by omega)) (by omega) hR9) ?_
      refine rOf (fun R9 hR9 => xLdV (N := 5) (M2 := m_L_law) (pc2 := 818) (r := 0) (ls2 := [some (eR 0), some (eR 1), some (eR 70), some (eR 81), some (eI i)]) (st2 := [eI (f (j + 1)), eR 1]) (V := V) (d := d) (i := i + 2) (k := j + 2) (ok := eOkI) (mk := fun x => .inl x) rfl h0 rfl (wr_nat (by omega) (by omega)) (by omega) hR9) ?_
      refine rOf (fun R9 hR9 => xLdV (N := 5) (M2 := m_L_law) (pc2 := 824) (r := 0) (ls2 := [some (eR 0), some (eR 1), some (eR 70), some (eR 81), some (eI i)]) (st2 := [eI (f (j + 2)), eI (f (j + 1)), eR 1]) (V := V) (d := d) (i := i + 3) (k := j + 3) (ok := eOkI) (mk := fun x => .inl x) rfl h0 rfl (wr_nat (by omega) (by omega)) (by omega) hR9) ?_
      refine rOf (fun R9 hR9 => xEqT (N := 1) (x := f (j + 3)) (y := 0) (A := ev m_L_law 832 [some (eR 0), some (eR 1), some (eR 70), some (eR 81), some (eI i)] [eI (f (j + 2)), eI (f (j + 1)), eR 1] (V, d)) (B := ev m_L_law 828 [some (eR 0), some (eR 1), some (eR 70), some (eR 81), some (eI i)] [eI (f (j + 2)), eI (f (j + 1)), eR 1] (V, d)) rfl (wr_id (hr (j + 3)).1 (by have := hr (j + 3); omega)) (show wr 0 = 0 by decide) (by have := hr (j + 3); omega) hR9) ?_
      obtain ⟨V2, ot2, d2, q2, C2, o2, t2, fr2, dl2⟩ := lqV (d := d) hq C h81 rfl
      have h02 := (fr2.2 0 (by omega)).trans h0
      have h702 := (fr2.2 70 (by omega)).trans h70
      obtain ⟨P2, h12⟩ := CI_1 C2
      refine rOf (fun R9 hR9 => xCall (N := 3) (M2 := m_L_law) (pc2 := 834) (ls2 := [some (eR 0), some (eR 1), some (eR 70), some (eR 81), some (eI i)]) (st2 := []) (y := m_L_slotAt) (as := [some (eR 1), some (eI (f (j + 1))), some (eI (f (j + 2))), some (eI 0), some (eR 81)]) (w2 := (V, d)) rfl q2 hR9) ?_
      refine rOf (fun R9 hR9 => xLdV (N := 7) (M2 := m_L_law) (pc2 := 845) (r := 0) (ls2 := [some (eR 0), some (eR 1), some (eR 70), some (eR 81), some (eI i), some (eI t)]) (st2 := [eR 70]) (V := V2) (d := d2) (i := i + 1) (k := j + 1) (ok := eOkI) (mk := fun x => .inl x) rfl h02 rfl (wr_nat (by omega) (by omega)) (by omega) hR9) ?_
      refine rOf (fun R9 hR9 => xLdV (N := 5) (M2 := m_L_law) (pc2 := 851) (r := 0) (ls2 := [some (eR 0), some (eR 1), some (eR 70), some (eR 81), some (eI i), some (eI t)]) (st2 := [eI (f (j + 1)), eR 70]) (V := V2) (d := d2) (i := i + 2) (k := j + 2) (ok := eOkI) (mk := fun x => .inl x) rfl h02 rfl (wr_nat (by omega) (by omega)) (by omega) hR9) ?_
      refine rOf (fun R9 hR9 => xLdV (N := 5) (M2 := m_L_law) (pc2 := 857) (r := 0) (ls2 := [some (eR 0), some (eR 1), some (eR 70), some (eR 81), some (eI i), some (eI t)]) (st2 := [eI (f (j + 2)), eI (f (j + 1)), eR 70]) (V := V2) (d := d2) (i := i + 3) (k := j + 3) (ok := eOkI) (mk := fun x => .inl x) rfl h02 rfl (wr_nat (by omega) (by omega)) (by omega) hR9) ?_
      refine rOf (fun R9 hR9 => xEqT (N := 1) (x := f (j + 3)) (y := 0) (A := ev m_L_law 865 [some (eR 0), some (eR 1), some (eR 70), some (eR 81), some (eI i), some (eI t)] [eI (f (j + 2)), eI (f (j + 1)), eR 70] (V2, d2)) (B := ev m_L_law 861 [some (eR 0), some (eR 1), some (eR 70), some (eR 81), some (eI i), some (eI t)] [eI (f (j + 2)), eI (f (j + 1)), eR 70] (V2, d2)) rfl (wr_id (hr (j + 3)).1 (by have := hr (j + 3); omega)) (show wr 0 = 0 by decide) (by have := hr (j + 3); omega) hR9) ?_
      obtain ⟨V3, b3, q3, M3, hb3, fm3⟩ := nqV (d := d2) hn (MI_fr (fun k hk => fr2.2 k (by omega)) M) rfl
      have h03 := (fm3.2 0 (by omega)).trans h02
      have h13 := (fm3.2 1 (by omega)).trans h12
      have h813 := (fm3.2 81 (by omega)).trans o2
      obtain ⟨P3, h703⟩ := MI_70 M3
      have C3 := CI_fr (Nat.le_of_eq fm3.1.symm) (fun k hk => fm3.2 k (by omega)) C2
      refine rOf (fun R9 hR9 => xCallA1 (N := 2) (M2 := m_L_law) (pc2 := 866) (y := m_M_slotAt) (n := 4) (ls2 := [some (eR 0), some (eR 1), some (eR 70), some (eR 81), some (eI i), some (eI t)]) (st2 := []) (st9 := [eI 0, eI (f (j + 2)), eI (f (j + 1)), eR 70]) (V := V2) (d := d2) (r := 70) (bs := [eI (f (j + 1)), eI (f (j + 2)), eI 0]) rfl rfl h702 rfl q3 hR9) ?_
      refine rOf (fun R9 hR9 => xCallA1 (N := 3) (M2 := m_L_law) (pc2 := 872) (y := m_M_thrown) (n := 1) (ls2 := [some (eR 0), some (eR 1), some (eR 70), some (eR 81), some (eI i), some (eI t), some (eI b3)]) (st2 := []) (st9 := [eR 70]) (V := V3) (d := d2) (r := 70) (bs := []) rfl rfl h703 rfl (thrV M3) hR9) ?_
      refine rOf (fun R9 hR9 => xEqT (N := 2) (x := t) (y := t) (A := ev m_L_law 882 [some (eR 0), some (eR 1), some (eR 70), some (eR 81), some (eI i), some (eI t), some (eI b3)] [] (V3, d2)) (B := ev m_L_law 880 [some (eR 0), some (eR 1), some (eR 70), some (eR 81), some (eI i), some (eI t), some (eI b3)] [] (V3, d2)) rfl rfl rfl rfl hR9) ?_
      refine rOf (fun R9 hR9 => xEqT (N := 2) (x := t) (y := 0) (A := ev m_L_law 887 [some (eR 0), some (eR 1), some (eR 70), some (eR 81), some (eI i), some (eI t), some (eI b3)] [] (V3, d2)) (B := ev m_L_law 899 [some (eR 0), some (eR 1), some (eR 70), some (eR 81), some (eI i), some (eI t), some (eI b3)] [] (V3, d2)) rfl (wr_id (by omega) (by omega)) (show wr 0 = 0 by decide) (by omega) hR9) ?_
      refine rOf (fun R9 hR9 => xLdV (N := 3) (M2 := m_L_law) (pc2 := 889) (r := 81) (ls2 := [some (eR 0), some (eR 1), some (eR 70), some (eR 81), some (eI i), some (eI t), some (eI b3)]) (st2 := []) (V := V3) (d := d2) (i := 0) (k := 0) (ok := eOkJ) (mk := fun x => .inr (.inr (.inl x))) rfl h813 rfl (show wr 0 = ((0 : Nat) : Int) by decide) (by omega) hR9) ?_
      refine rOf (fun R9 hR9 => xEqT (N := 4) (x := bLcmp (ot2 0) (wr b3)) (y := 0) (A := ev m_L_law 899 [some (eR 0), some (eR 1), some (eR 70), some (eR 81), some (eI i), some (eI t), some (eI b3)] [] (V3, d2)) (B := ev m_L_law 897 [some (eR 0), some (eR 1), some (eR 70), some (eR 81), some (eI i), some (eI t), some (eI b3)] [] (V3, d2)) rfl (by rw [t2 ht0, hb3 ht0]; exact wrcmp) (show wr 0 = 0 by decide) rfl hR9) ?_
      refine rOf (fun R9 hR9 => xSeg (N := 1) (r := ev m_L_law 3064 [some (eR 0), some (eR 1), some (eR 70), some (eR 81), some (eI i), some (eI t), some (eI b3)] [] (V3, d2)) rfl hR9) ?_
      refine rOf (fun R9 hR9 => xTk 5 (by rfl) rfl hR9) ?_
      exact hK V3 d2 ⟨a, x, t, ot2, C3, M3, h03, h813⟩ dl2
    · refine rOf (fun R9 hR9 => xLdV (N := 6) (M2 := m_L_law) (pc2 := 812) (r := 0) (ls2 := [some (eR 0), some (eR 1), some (eR 70), some (eR 81), some (eI i)]) (st2 := [eR 1]) (V := V) (d := d) (i := i + 1) (k := j + 1) (ok := eOkI) (mk := fun x => .inl x) rfl h0 rfl (wr_nat (by omega) (by omega)) (by omega) hR9) ?_
      refine rOf (fun R9 hR9 => xLdV (N := 5) (M2 := m_L_law) (pc2 := 818) (r := 0) (ls2 := [some (eR 0), some (eR 1), some (eR 70), some (eR 81), some (eI i)]) (st2 := [eI (f (j + 1)), eR 1]) (V := V) (d := d) (i := i + 2) (k := j + 2) (ok := eOkI) (mk := fun x => .inl x) rfl h0 rfl (wr_nat (by omega) (by omega)) (by omega) hR9) ?_
      refine rOf (fun R9 hR9 => xLdV (N := 5) (M2 := m_L_law) (pc2 := 824) (r := 0) (ls2 := [some (eR 0), some (eR 1), some (eR 70), some (eR 81), some (eI i)]) (st2 := [eI (f (j + 2)), eI (f (j + 1)), eR 1]) (V := V) (d := d) (i := i + 3) (k := j + 3) (ok := eOkI) (mk := fun x => .inl x) rfl h0 rfl (wr_nat (by omega) (by omega)) (by omega) hR9) ?_
      refine rOf (fun R9 hR9 => xEqT (N := 1) (x := f (j + 3)) (y := 0) (A := ev m_L_law 832 [some (eR 0), some (eR 1), some (eR 70), some (eR 81), some (eI i)] [eI (f (j + 2)), eI (f (j + 1)), eR 1] (V, d)) (B := ev m_L_law 828 [some (eR 0), some (eR 1), some (eR 70), some (eR 81), some (eI i)] [eI (f (j + 2)), eI (f (j + 1)), eR 1] (V, d)) rfl (wr_id (hr (j + 3)).1 (by have := hr (j + 3); omega)) (show wr 0 = 0 by decide) (by have := hr (j + 3); omega) hR9) ?_
      obtain ⟨V2, ot2, d2, q2, C2, o2, t2, fr2, dl2⟩ := lqV (d := d) hq C h81 rfl
      have h02 := (fr2.2 0 (by omega)).trans h0
      have h702 := (fr2.2 70 (by omega)).trans h70
      obtain ⟨P2, h12⟩ := CI_1 C2
      refine rOf (fun R9 hR9 => xCall (N := 3) (M2 := m_L_law) (pc2 := 834) (ls2 := [some (eR 0), some (eR 1), some (eR 70), some (eR 81), some (eI i)]) (st2 := []) (y := m_L_slotAt) (as := [some (eR 1), some (eI (f (j + 1))), some (eI (f (j + 2))), some (eI 0), some (eR 81)]) (w2 := (V, d)) rfl q2 hR9) ?_
      refine rOf (fun R9 hR9 => xLdV (N := 7) (M2 := m_L_law) (pc2 := 845) (r := 0) (ls2 := [some (eR 0), some (eR 1), some (eR 70), some (eR 81), some (eI i), some (eI t)]) (st2 := [eR 70]) (V := V2) (d := d2) (i := i + 1) (k := j + 1) (ok := eOkI) (mk := fun x => .inl x) rfl h02 rfl (wr_nat (by omega) (by omega)) (by omega) hR9) ?_
      refine rOf (fun R9 hR9 => xLdV (N := 5) (M2 := m_L_law) (pc2 := 851) (r := 0) (ls2 := [some (eR 0), some (eR 1), some (eR 70), some (eR 81), some (eI i), some (eI t)]) (st2 := [eI (f (j + 1)), eR 70]) (V := V2) (d := d2) (i := i + 2) (k := j + 2) (ok := eOkI) (mk := fun x => .inl x) rfl h02 rfl (wr_nat (by omega) (by omega)) (by omega) hR9) ?_
      refine rOf (fun R9 hR9 => xLdV (N := 5) (M2 := m_L_law) (pc2 := 857) (r := 0) (ls2 := [some (eR 0), some (eR 1), some (eR 70), some (eR 81), some (eI i), some (eI t)]) (st2 := [eI (f (j + 2)), eI (f (j + 1)), eR 70]) (V := V2) (d := d2) (i := i + 3) (k := j + 3) (ok := eOkI) (mk := fun x => .inl x) rfl h02 rfl (wr_nat (by omega) (by omega)) (by omega) hR9) ?_
      refine rOf (fun R9 hR9 => xEqT (N := 1) (x := f (j + 3)) (y := 0) (A := ev m_L_law 865 [some (eR 0), some (eR 1), some (eR 70), some (eR 81), some (eI i), some (eI t)] [eI (f (j + 2)), eI (f (j + 1)), eR 70] (V2, d2)) (B := ev m_L_law 861 [some (eR 0), some (eR 1), some (eR 70), some (eR 81), some (eI i), some (eI t)] [eI (f (j + 2)), eI (f (j + 1)), eR 70] (V2, d2)) rfl (wr_id (hr (j + 3)).1 (by have := hr (j + 3); omega)) (show wr 0 = 0 by decide) (by have := hr (j + 3); omega) hR9) ?_
      obtain ⟨V3, b3, q3, M3, hb3, fm3⟩ := nqV (d := d2) hn (MI_fr (fun k hk => fr2.2 k (by omega)) M) rfl
      have h03 := (fm3.2 0 (by omega)).trans h02
      have h13 := (fm3.2 1 (by omega)).trans h12
      have h813 := (fm3.2 81 (by omega)).trans o2
      obtain ⟨P3, h703⟩ := MI_70 M3
      have C3 := CI_fr (Nat.le_of_eq fm3.1.symm) (fun k hk => fm3.2 k (by omega)) C2
      refine rOf (fun R9 hR9 => xCallA1 (N := 2) (M2 := m_L_law) (pc2 := 866) (y := m_M_slotAt) (n := 4) (ls2 := [some (eR 0), some (eR 1), some (eR 70), some (eR 81), some (eI i), some (eI t)]) (st2 := []) (st9 := [eI 0, eI (f (j + 2)), eI (f (j + 1)), eR 70]) (V := V2) (d := d2) (r := 70) (bs := [eI (f (j + 1)), eI (f (j + 2)), eI 0]) rfl rfl h702 rfl q3 hR9) ?_
      refine rOf (fun R9 hR9 => xCallA1 (N := 3) (M2 := m_L_law) (pc2 := 872) (y := m_M_thrown) (n := 1) (ls2 := [some (eR 0), some (eR 1), some (eR 70), some (eR 81), some (eI i), some (eI t), some (eI b3)]) (st2 := []) (st9 := [eR 70]) (V := V3) (d := d2) (r := 70) (bs := []) rfl rfl h703 rfl (thrV M3) hR9) ?_
      refine rOf (fun R9 hR9 => xEqT (N := 2) (x := t) (y := t) (A := ev m_L_law 882 [some (eR 0), some (eR 1), some (eR 70), some (eR 81), some (eI i), some (eI t), some (eI b3)] [] (V3, d2)) (B := ev m_L_law 880 [some (eR 0), some (eR 1), some (eR 70), some (eR 81), some (eI i), some (eI t), some (eI b3)] [] (V3, d2)) rfl rfl rfl rfl hR9) ?_
      refine rOf (fun R9 hR9 => xEqF (N := 2) (x := t) (y := 0) (A := ev m_L_law 887 [some (eR 0), some (eR 1), some (eR 70), some (eR 81), some (eI i), some (eI t), some (eI b3)] [] (V3, d2)) (B := ev m_L_law 899 [some (eR 0), some (eR 1), some (eR 70), some (eR 81), some (eI i), some (eI t), some (eI b3)] [] (V3, d2)) rfl (wr_id (by omega) (by omega)) (show wr 0 = 0 by decide) (by omega) hR9) ?_
      refine rOf (fun R9 hR9 => xSeg (N := 1) (r := ev m_L_law 3064 [some (eR 0), some (eR 1), some (eR 70), some (eR 81), some (eI i), some (eI t), some (eI b3)] [] (V3, d2)) rfl hR9) ?_
      refine rOf (fun R9 hR9 => xTk 5 (by rfl) rfl hR9) ?_
      exact hK V3 d2 ⟨a, x, t, ot2, C3, M3, h03, h813⟩ dl2
  · obtain ⟨t, v, ht, hq, hn⟩ := q_slotAt1 hI (hr (j + 1)) (hr (j + 2)) (z := 1) rfl
    by_cases ht0 : t = 0
    · refine rOf (fun R9 hR9 => xLdV (N := 6) (M2 := m_L_law) (pc2 := 812) (r := 0) (ls2 := [some (eR 0), some (eR 1), some (eR 70), some (eR 81), some (eI i)]) (st2 := [eR 1]) (V := V) (d := d) (i := i + 1) (k := j + 1) (ok := eOkI) (mk := fun x => .inl x) rfl h0 rfl (wr_nat (by omega) (by omega)) (by omega) hR9) ?_
      refine rOf (fun R9 hR9 => xLdV (N := 5) (M2 := m_L_law) (pc2 := 818) (r := 0) (ls2 := [some (eR 0), some (eR 1), some (eR 70), some (eR 81), some (eI i)]) (st2 := [eI (f (j + 1)), eR 1]) (V := V) (d := d) (i := i + 2) (k := j + 2) (ok := eOkI) (mk := fun x => .inl x) rfl h0 rfl (wr_nat (by omega) (by omega)) (by omega) hR9) ?_
      refine rOf (fun R9 hR9 => xLdV (N := 5) (M2 := m_L_law) (pc2 := 824) (r := 0) (ls2 := [some (eR 0), some (eR 1), some (eR 70), some (eR 81), some (eI i)]) (st2 := [eI (f (j + 2)), eI (f (j + 1)), eR 1]) (V := V) (d := d) (i := i + 3) (k := j + 3) (ok := eOkI) (mk := fun x => .inl x) rfl h0 rfl (wr_nat (by omega) (by omega)) (by omega) hR9) ?_
      refine rOf (fun R9 hR9 => xEqF (N := 1) (x := f (j + 3)) (y := 0) (A := ev m_L_law 832 [some (eR 0), some (eR 1), some (eR 70), some (eR 81), some (eI i)] [eI (f (j + 2)), eI (f (j + 1)), eR 1] (V, d)) (B := ev m_L_law 828 [some (eR 0), some (eR 1), some (eR 70), some (eR 81), some (eI i)] [eI (f (j + 2)), eI (f (j + 1)), eR 1] (V, d)) rfl (wr_id (hr (j + 3)).1 (by have := hr (j + 3); omega)) (show wr 0 = 0 by decide) (by have := hr (j + 3); omega) hR9) ?_
      obtain ⟨V2, ot2, d2, q2, C2, o2, t2, fr2, dl2⟩ := lqV (d := d) hq C h81 rfl
      have h02 := (fr2.2 0 (by omega)).trans h0
      have h702 := (fr2.2 70 (by omega)).trans h70
      obtain ⟨P2, h12⟩ := CI_1 C2
      refine rOf (fun R9 hR9 => xCall (N := 4) (M2 := m_L_law) (pc2 := 834) (ls2 := [some (eR 0), some (eR 1), some (eR 70), some (eR 81), some (eI i)]) (st2 := []) (y := m_L_slotAt) (as := [some (eR 1), some (eI (f (j + 1))), some (eI (f (j + 2))), some (eI 1), some (eR 81)]) (w2 := (V, d)) rfl q2 hR9) ?_
      refine rOf (fun R9 hR9 => xLdV (N := 7) (M2 := m_L_law) (pc2 := 845) (r := 0) (ls2 := [some (eR 0), some (eR 1), some (eR 70), some (eR 81), some (eI i), some (eI t)]) (st2 := [eR 70]) (V := V2) (d := d2) (i := i + 1) (k := j + 1) (ok := eOkI) (mk := fun x => .inl x) rfl h02 rfl (wr_nat (by omega) (by omega)) (by omega) hR9) ?_
      refine rOf (fun R9 hR9 => xLdV (N := 5) (M2 := m_L_law) (pc2 := 851) (r := 0) (ls2 := [some (eR 0), some (eR 1), some (eR 70), some (eR 81), some (eI i), some (eI t)]) (st2 := [eI (f (j + 1)), eR 70]) (V := V2) (d := d2) (i := i + 2) (k := j + 2) (ok := eOkI) (mk := fun x => .inl x) rfl h02 rfl (wr_nat (by omega) (by omega)) (by omega) hR9) ?_
      refine rOf (fun R9 hR9 => xLdV (N := 5) (M2 := m_L_law) (pc2 := 857) (r := 0) (ls2 := [some (eR 0), some (eR 1), some (eR 70), some (eR 81), some (eI i), some (eI t)]) (st2 := [eI (f (j + 2)), eI (f (j + 1)), eR 70]) (V := V2) (d := d2) (i := i + 3) (k := j + 3) (ok := eOkI) (mk := fun x => .inl x) rfl h02 rfl (wr_nat (by omega) (by omega)) (by omega) hR9) ?_
      refine rOf (fun R9 hR9 => xEqF (N := 1) (x := f (j + 3)) (y := 0) (A := ev m_L_law 865 [some (eR 0), some (eR 1), some (eR 70), some (eR 81), some (eI i), some (eI t)] [eI (f (j + 2)), eI (f (j + 1)), eR 70] (V2, d2)) (B := ev m_L_law 861 [some (eR 0), some (eR 1), some (eR 70), some (eR 81), some (eI i), some (eI t)] [eI (f (j + 2)), eI (f (j + 1)), eR 70] (V2, d2)) rfl (wr_id (hr (j + 3)).1 (by have := hr (j + 3); omega)) (show wr 0 = 0 by decide) (by have := hr (j + 3); omega) hR9) ?_
      obtain ⟨V3, b3, q3, M3, hb3, fm3⟩ := nqV (d := d2) hn (MI_fr (fun k hk => fr2.2 k (by omega)) M) rfl
      have h03 := (fm3.2 0 (by omega)).trans h02
      have h13 := (fm3.2 1 (by omega)).trans h12
      have h813 := (fm3.2 81 (by omega)).trans o2
      obtain ⟨P3, h703⟩ := MI_70 M3
      have C3 := CI_fr (Nat.le_of_eq fm3.1.symm) (fun k hk => fm3.2 k (by omega)) C2
      refine rOf (fun R9 hR9 => xCallA1 (N := 3) (M2 := m_L_law) (pc2 := 866) (y := m_M_slotAt) (n := 4) (ls2 := [some (eR 0), some (eR 1), some (eR 70), some (eR 81), some (eI i), some (eI t)]) (st2 := []) (st9 := [eI 1, eI (f (j + 2)), eI (f (j + 1)), eR 70]) (V := V2) (d := d2) (r := 70) (bs := [eI (f (j + 1)), eI (f (j + 2)), eI 1]) rfl rfl h702 rfl q3 hR9) ?_
      refine rOf (fun R9 hR9 => xCallA1 (N := 3) (M2 := m_L_law) (pc2 := 872) (y := m_M_thrown) (n := 1) (ls2 := [some (eR 0), some (eR 1), some (eR 70), some (eR 81), some (eI i), some (eI t), some (eI b3)]) (st2 := []) (st9 := [eR 70]) (V := V3) (d := d2) (r := 70) (bs := []) rfl rfl h703 rfl (thrV M3) hR9) ?_
      refine rOf (fun R9 hR9 => xEqT (N := 2) (x := t) (y := t) (A := ev m_L_law 882 [some (eR 0), some (eR 1), some (eR 70), some (eR 81), some (eI i), some (eI t), some (eI b3)] [] (V3, d2)) (B := ev m_L_law 880 [some (eR 0), some (eR 1), some (eR 70), some (eR 81), some (eI i), some (eI t), some (eI b3)] [] (V3, d2)) rfl rfl rfl rfl hR9) ?_
      refine rOf (fun R9 hR9 => xEqT (N := 2) (x := t) (y := 0) (A := ev m_L_law 887 [some (eR 0), some (eR 1), some (eR 70), some (eR 81), some (eI i), some (eI t), some (eI b3)] [] (V3, d2)) (B := ev m_L_law 899 [some (eR 0), some (eR 1), some (eR 70), some (eR 81), some (eI i), some (eI t), some (eI b3)] [] (V3, d2)) rfl (wr_id (by omega) (by omega)) (show wr 0 = 0 by decide) (by omega) hR9) ?_
      refine rOf (fun R9 hR9 => xLdV (N := 3) (M2 := m_L_law) (pc2 := 889) (r := 81) (ls2 := [some (eR 0), some (eR 1), some (eR 70), some (eR 81), some (eI i), some (eI t), some (eI b3)]) (st2 := []) (V := V3) (d := d2) (i := 0) (k := 0) (ok := eOkJ) (mk := fun x => .inr (.inr (.inl x))) rfl h813 rfl (show wr 0 = ((0 : Nat) : Int) by decide) (by omega) hR9) ?_
      refine rOf (fun R9 hR9 => xEqT (N := 4) (x := bLcmp (ot2 0) (wr b3)) (y := 0) (A := ev m_L_law 899 [some (eR 0), some (eR 1), some (eR 70), some (eR 81), some (eI i), some (eI t), some (eI b3)] [] (V3, d2)) (B := ev m_L_law 897 [some (eR 0), some (eR 1), some (eR 70), some (eR 81), some (eI i), some (eI t), some (eI b3)] [] (V3, d2)) rfl (by rw [t2 ht0, hb3 ht0]; exact wrcmp) (show wr 0 = 0 by decide) rfl hR9) ?_
      refine rOf (fun R9 hR9 => xSeg (N := 1) (r := ev m_L_law 3064 [some (eR 0), some (eR 1), some (eR 70), some (eR 81), some (eI i), some (eI t), some (eI b3)] [] (V3, d2)) rfl hR9) ?_
      refine rOf (fun R9 hR9 => xTk 5 (by rfl) rfl hR9) ?_
      exact hK V3 d2 ⟨a, x, t, ot2, C3, M3, h03, h813⟩ dl2
    · refine rOf (fun R9 hR9 => xLdV (N := 6) (M2 := m_L_law) (pc2 := 812) (r := 0) (ls2 := [some (eR 0), some (eR 1), some (eR 70), some (eR 81), some (eI i)]) (st2 := [eR 1]) (V := V) (d := d) (i := i + 1) (k := j + 1) (ok := eOkI) (mk := fun x => .inl x) rfl h0 rfl (wr_nat (by omega) (by omega)) (by omega) hR9) ?_
      refine rOf (fun R9 hR9 => xLdV (N := 5) (M2 := m_L_law) (pc2 := 818) (r := 0) (ls2 := [some (eR 0), some (eR 1), some (eR 70), some (eR 81), some (eI i)]) (st2 := [eI (f (j + 1)), eR 1]) (V := V) (d := d) (i := i + 2) (k := j + 2) (ok := eOkI) (mk := fun x => .inl x) rfl h0 rfl (wr_nat (by omega) (by omega)) (by omega) hR9) ?_
      refine rOf (fun R9 hR9 => xLdV (N := 5) (M2 := m_L_law) (pc2 := 824) (r := 0) (ls2 := [some (eR 0), some (eR 1), some (eR 70), some (eR 81), some (eI i)]) (st2 := [eI (f (j + 2)), eI (f (j + 1)), eR 1]) (V := V) (d := d) (i := i + 3) (k := j + 3) (ok := eOkI) (mk := fun x => .inl x) rfl h0 rfl (wr_nat (by omega) (by omega)) (by omega) hR9) ?_
      refine rOf (fun R9 hR9 => xEqF (N := 1) (x := f (j + 3)) (y := 0) (A := ev m_L_law 832 [some (eR 0), some (eR 1), some (eR 70), some (eR 81), some (eI i)] [eI (f (j + 2)), eI (f (j + 1)), eR 1] (V, d)) (B := ev m_L_law 828 [some (eR 0), some (eR 1), some (eR 70), some (eR 81), some (eI i)] [eI (f (j + 2)), eI (f (j + 1)), eR 1] (V, d)) rfl (wr_id (hr (j + 3)).1 (by have := hr (j + 3); omega)) (show wr 0 = 0 by decide) (by have := hr (j + 3); omega) hR9) ?_
      obtain ⟨V2, ot2, d2, q2, C2, o2, t2, fr2, dl2⟩ := lqV (d := d) hq C h81 rfl
      have h02 := (fr2.2 0 (by omega)).trans h0
      have h702 := (fr2.2 70 (by omega)).trans h70
      obtain ⟨P2, h12⟩ := CI_1 C2
      refine rOf (fun R9 hR9 => xCall (N := 4) (M2 := m_L_law) (pc2 := 834) (ls2 := [some (eR 0), some (eR 1), some (eR 70), some (eR 81), some (eI i)]) (st2 := []) (y := m_L_slotAt) (as := [some (eR 1), some (eI (f (j + 1))), some (eI (f (j + 2))), some (eI 1), some (eR 81)]) (w2 := (V, d)) rfl q2 hR9) ?_
      refine rOf (fun R9 hR9 => xLdV (N := 7) (M2 := m_L_law) (pc2 := 845) (r := 0) (ls2 := [some (eR 0), some (eR 1), some (eR 70), some (eR 81), some (eI i), some (eI t)]) (st2 := [eR 70]) (V := V2) (d := d2) (i := i + 1) (k := j + 1) (ok := eOkI) (mk := fun x => .inl x) rfl h02 rfl (wr_nat (by omega) (by omega)) (by omega) hR9) ?_
      refine rOf (fun R9 hR9 => xLdV (N := 5) (M2 := m_L_law) (pc2 := 851) (r := 0) (ls2 := [some (eR 0), some (eR 1), some (eR 70), some (eR 81), some (eI i), some (eI t)]) (st2 := [eI (f (j + 1)), eR 70]) (V := V2) (d := d2) (i := i + 2) (k := j + 2) (ok := eOkI) (mk := fun x => .inl x) rfl h02 rfl (wr_nat (by omega) (by omega)) (by omega) hR9) ?_
      refine rOf (fun R9 hR9 => xLdV (N := 5) (M2 := m_L_law) (pc2 := 857) (r := 0) (ls2 := [some (eR 0), some (eR 1), some (eR 70), some (eR 81), some (eI i), some (eI t)]) (st2 := [eI (f (j + 2)), eI (f (j + 1)), eR 70]) (V := V2) (d := d2) (i := i + 3) (k := j + 3) (ok := eOkI) (mk := fun x => .inl x) rfl h02 rfl (wr_nat (by omega) (by omega)) (by omega) hR9) ?_
      refine rOf (fun R9 hR9 => xEqF (N := 1) (x := f (j + 3)) (y := 0) (A := ev m_L_law 865 [some (eR 0), some (eR 1), some (eR 70), some (eR 81), some (eI i), some (eI t)] [eI (f (j + 2)), eI (f (j + 1)), eR 70] (V2, d2)) (B := ev m_L_law 861 [some (eR 0), some (eR 1), some (eR 70), some (eR 81), some (eI i), some (eI t)] [eI (f (j + 2)), eI (f (j + 1)), eR 70] (V2, d2)) rfl (wr_id (hr (j + 3)).1 (by have := hr (j + 3); omega)) (show wr 0 = 0 by decide) (by have := hr (j + 3); omega) hR9) ?_
      obtain ⟨V3, b3, q3, M3, hb3, fm3⟩ := nqV (d := d2) hn (MI_fr (fun k hk => fr2.2 k (by omega)) M) rfl
      have h03 := (fm3.2 0 (by omega)).trans h02
      have h13 := (fm3.2 1 (by omega)).trans h12
      have h813 := (fm3.2 81 (by omega)).trans o2
      obtain ⟨P3, h703⟩ := MI_70 M3
      have C3 := CI_fr (Nat.le_of_eq fm3.1.symm) (fun k hk => fm3.2 k (by omega)) C2
      refine rOf (fun R9 hR9 => xCallA1 (N := 3) (M2 := m_L_law) (pc2 := 866) (y := m_M_slotAt) (n := 4) (ls2 := [some (eR 0), some (eR 1), some (eR 70), some (eR 81), some (eI i), some (eI t)]) (st2 := []) (st9 := [eI 1, eI (f (j + 2)), eI (f (j + 1)), eR 70]) (V := V2) (d := d2) (r := 70) (bs := [eI (f (j + 1)), eI (f (j + 2)), eI 1]) rfl rfl h702 rfl q3 hR9) ?_
      refine rOf (fun R9 hR9 => xCallA1 (N := 3) (M2 := m_L_law) (pc2 := 872) (y := m_M_thrown) (n := 1) (ls2 := [some (eR 0), some (eR 1), some (eR 70), some (eR 81), some (eI i), some (eI t), some (eI b3)]) (st2 := []) (st9 := [eR 70]) (V := V3) (d := d2) (r := 70) (bs := []) rfl rfl h703 rfl (thrV M3) hR9) ?_
      refine rOf (fun R9 hR9 => xEqT (N := 2) (x := t) (y := t) (A := ev m_L_law 882 [some (eR 0), some (eR 1), some (eR 70), some (eR 81), some (eI i), some (eI t), some (eI b3)] [] (V3, d2)) (B := ev m_L_law 880 [some (eR 0), some (eR 1), some (eR 70), some (eR 81), some (eI i), some (eI t), some (eI b3)] [] (V3, d2)) rfl rfl rfl rfl hR9) ?_
      refine rOf (fun R9 hR9 => xEqF (N := 2) (x := t) (y := 0) (A := ev m_L_law 887 [some (eR 0), some (eR 1), some (eR 70), some (eR 81), some (eI i), some (eI t), some (eI b3)] [] (V3, d2)) (B := ev m_L_law 899 [some (eR 0), some (eR 1), some (eR 70), some (eR 81), some (eI i), some (eI t), some (eI b3)] [] (V3, d2)) rfl (wr_id (by omega) (by omega)) (show wr 0 = 0 by decide) (by omega) hR9) ?_
      refine rOf (fun R9 hR9 => xSeg (N := 1) (r := ev m_L_law 3064 [some (eR 0), some (eR 1), some (eR 70), some (eR 81), some (eI i), some (eI t), some (eI b3)] [] (V3, d2)) rfl hR9) ?_
      refine rOf (fun R9 hR9 => xTk 5 (by rfl) rfl hR9) ?_
      exact hK V3 d2 ⟨a, x, t, ot2, C3, M3, h03, h813⟩ dl2
theorem k_columns {V : List eC} {d : Nat × Nat} {L j : Nat} {f : Nat → Int} {i : Int} {Q : (Option eV ⊕ Nat) × eW → Prop} (hi : i = (j : Int)) (hj : j + 6 ≤ L) (hL : L ≤ 3072) (hr : ∀ k, -2147483648 ≤ f k ∧ f k < 2147483648) (h : LI V L f) (hK : ∀ V' d', LI V' L f → dl d d' → Rs (ev m_L_law 3064 [some (eR 0), some (eR 1), some (eR 70), some (eR 81), some (eI i)] [] (V', d')) Q) : Rs (ev m_L_law 530 [some (eR 0), some (eR 1), some (eR 70), some (eR 81), some (eI i)] [] (V, d)) Q := by
  obtain ⟨a, x, t0, ot, C, M, h0, h81⟩ := h
  obtain ⟨P1, h1⟩ := CI_1 C
  obtain ⟨P70, h70⟩ := MI_70 M
  have hI : iA a := CI_I C
  obtain ⟨v, hv⟩ : ∃ v : Int, v = ((a 0 : Nat) : Int) := ⟨_, rfl⟩
  have hq : LV m_S_columns a (eI v) := fun P S ot hA => by rw [hv]; exact ⟨S, hA, s_columns (c := (0, 0)) hA hI⟩
  have hn : NV m_M_columns a (eI v) := fun P g mk fr hg => by rw [hv]; exact ⟨mk, z_columns (c := (0, 0)) hg hI⟩
  obtain ⟨V2, q2, C2, o2, fr2⟩ := lvV (d := d) hq C h81 rfl
  have h02 := (fr2.2 0 (by omega)).trans h0
  have h702 := (fr2.2 70 (by omega)).trans h70
  obtain ⟨P2, h12⟩ := CI_1 C2
  refine rOf (fun R9 hR9 => xCallA1 (N := 2) (M2 := m_L_law) (pc2 := 531) (y := m_S_columns) (n := 1) (ls2 := [some (eR 0), some (eR 1), some (eR 70), some (eR 81), some (eI i)]) (st2 := []) (st9 := [eR 1]) (V := V) (d := d) (r := 1) (bs := []) rfl rfl h1 rfl q2 hR9) ?_
  obtain ⟨V3, q3, M3, fm3⟩ := nvV (d := d) hn (MI_fr (fun k hk => fr2.2 k (by omega)) M) rfl
  have h03 := (fm3.2 0 (by omega)).trans h02
  have h13 := (fm3.2 1 (by omega)).trans h12
  have h813 := (fm3.2 81 (by omega)).trans o2
  obtain ⟨P3, h703⟩ := MI_70 M3
  have C3 := CI_fr (Nat.le_of_eq fm3.1.symm) (fun k hk => fm3.2 k (by omega)) C2
  refine rOf (fun R9 hR9 => xCallA1 (N := 2) (M2 := m_L_law) (pc2 := 535) (y := m_M_columns) (n := 1) (ls2 := [some (eR 0), some (eR 1), some (eR 70), some (eR 81), some (eI i)]) (st2 := [eI v]) (st9 := [eR 70, eI v]) (V := V2) (d := d) (r := 70) (bs := []) rfl rfl h702 rfl q3 hR9) ?_
  refine rOf (fun R9 hR9 => xEqT (N := 1) (x := v) (y := v) (A := ev m_L_law 3064 [some (eR 0), some (eR 1), some (eR 70), some (eR 81), some (eI i)] [] (V3, d)) (B := ev m_L_law 541 [some (eR 0), some (eR 1), some (eR 70), some (eR 81), some (eI i)] [] (V3, d)) rfl rfl rfl rfl hR9) ?_
  exact hK V3 d ⟨a, x, 0, ot, C3, M3, h03, h813⟩ (dl_rf d)
theorem k_rows {V : List eC} {d : Nat × Nat} {L j : Nat} {f : Nat → Int} {i : Int} {Q : (Option eV ⊕ Nat) × eW → Prop} (hi : i = (j : Int)) (hj : j + 6 ≤ L) (hL : L ≤ 3072) (hr : ∀ k, -2147483648 ≤ f k ∧ f k < 2147483648) (h : LI V L f) (hK : ∀ V' d', LI V' L f → dl d d' → Rs (ev m_L_law 3064 [some (eR 0), some (eR 1), some (eR 70), some (eR 81), some (eI i)] [] (V', d')) Q) : Rs (ev m_L_law 543 [some (eR 0), some (eR 1), some (eR 70), some (eR 81), some (eI i)] [] (V, d)) Q := by
  obtain ⟨a, x, t0, ot, C, M, h0, h81⟩ := h
  obtain ⟨P1, h1⟩ := CI_1 C
  obtain ⟨P70, h70⟩ := MI_70 M
  have hI : iA a := CI_I C
  obtain ⟨v, hv⟩ : ∃ v : Int, v = ((a 1 : Nat) : Int) := ⟨_, rfl⟩
  have hq : LV m_S_rows a (eI v) := fun P S ot hA => by rw [hv]; exact ⟨S, hA, s_rows (c := (0, 0)) hA hI⟩
  have hn : NV m_M_rows a (eI v) := fun P g mk fr hg => by rw [hv]; exact ⟨mk, z_rows (c := (0, 0)) hg hI⟩
  obtain ⟨V2, q2, C2, o2, fr2⟩ := lvV (d := d) hq C h81 rfl
  have h02 := (fr2.2 0 (by omega)).trans h0
  have h702 := (fr2.2 70 (by omega)).trans h70
  obtain ⟨P2, h12⟩ := CI_1 C2
  refine rOf (fun R9 hR9 => xCallA1 (N := 2) (M2 := m_L_law) (pc2 := 544) (y := m_S_rows) (n := 1) (ls2 := [some (eR 0), some (eR 1), some (eR 70), some (eR 81), some (eI i)]) (st2 := []) (st9 := [eR 1]) (V := V) (d := d) (r := 1) (bs := []) rfl rfl h1 rfl q2 hR9) ?_
  obtain ⟨V3, q3, M3, fm3⟩ := nvV (d := d) hn (MI_fr (fun k hk => fr2.2 k (by omega)) M) rfl
  have h03 := (fm3.2 0 (by omega)).trans h02
  have h13 := (fm3.2 1 (by omega)).trans h12
  have h813 := (fm3.2 81 (by omega)).trans o2
  obtain ⟨P3, h703⟩ := MI_70 M3
  have C3 := CI_fr (Nat.le_of_eq fm3.1.symm) (fun k hk => fm3.2 k (by omega)) C2
  refine rOf (fun R9 hR9 => xCallA1 (N := 2) (M2 := m_L_law) (pc2 := 548) (y := m_M_rows) (n := 1) (ls2 := [some (eR 0), some (eR 1), some (eR 70), some (eR 81), some (eI i)]) (st2 := [eI v]) (st9 := [eR 70, eI v]) (V := V2) (d := d) (r := 70) (bs := []) rfl rfl h702 rfl q3 hR9) ?_
  refine rOf (fun R9 hR9 => xEqT (N := 1) (x := v) (y := v) (A := ev m_L_law 3064 [some (eR 0), some (eR 1), some (eR 70), some (eR 81), some (eI i)] [] (V3, d)) (B := ev m_L_law 554 [some (eR 0), some (eR 1), some (eR 70), some (eR 81), some (eI i)] [] (V3, d)) rfl rfl rfl rfl hR9) ?_
  exact hK V3 d ⟨a, x, 0, ot, C3, M3, h03, h813⟩ (dl_rf d)
theorem k_slotCount {V : List eC} {d : Nat × Nat} {L j : Nat} {f : Nat → Int} {i : Int} {Q : (Option eV ⊕ Nat) × eW → Prop} (hi : i = (j : Int)) (hj : j + 6 ≤ L) (hL : L ≤ 3072) (hr : ∀ k, -2147483648 ≤ f k ∧ f k < 2147483648) (h : LI V L f) (hK : ∀ V' d', LI V' L f → dl d d' → Rs (ev m_L_law 3064 [some (eR 0), some (eR 1), some (eR 70), some (eR 81), some (eI i)] [] (V', d')) Q) : Rs (ev m_L_law 556 [some (eR 0), some (eR 1), some (eR 70), some (eR 81), some (eI i)] [] (V, d)) Q := by
  obtain ⟨a, x, t0, ot, C, M, h0, h81⟩ := h
  obtain ⟨P1, h1⟩ := CI_1 C
  obtain ⟨P70, h70⟩ := MI_70 M
  have hI : iA a := CI_I C
  obtain ⟨v, hv⟩ : ∃ v : Int, v = ((a 3 : Nat) : Int) := ⟨_, rfl⟩
  have hq : LV m_S_slotCount a (eI v) := fun P S ot hA => by rw [hv]; exact ⟨S, hA, s_slotCount (c := (0, 0)) hA hI⟩
  have hn : NV m_M_slotCount a (eI v) := fun P g mk fr hg => by rw [hv]; exact ⟨mk, z_slotCount (c := (0, 0)) hg hI⟩
  obtain ⟨V2, q2, C2, o2, fr2⟩ := lvV (d := d) hq C h81 rfl
  have h02 := (fr2.2 0 (by omega)).trans h0
  have h702 := (fr2.2 70 (by omega)).trans h70
  obtain ⟨P2, h12⟩ := CI_1 C2
  refine rOf (fun R9 hR9 => xCallA1 (N := 2) (M2 := m_L_law) (pc2 := 557) (y := m_S_slotCount) (n := 1) (ls2 := [some (eR 0), some (eR 1), some (eR 70), some (eR 81), some (eI i)]) (st2 := []) (st9 := [eR 1]) (V := V) (d := d) (r := 1) (bs := []) rfl rfl h1 rfl q2 hR9) ?_
  obtain ⟨V3, q3, M3, fm3⟩ := nvV (d := d) hn (MI_fr (fun k hk => fr2.2 k (by omega)) M) rfl
  have h03 := (fm3.2 0 (by omega)).trans h02
  have h13 := (fm3.2 1 (by omega)).trans h12
  have h813 := (fm3.2 81 (by omega)).trans o2
  obtain ⟨P3, h703⟩ := MI_70 M3
  have C3 := CI_fr (Nat.le_of_eq fm3.1.symm) (fun k hk => fm3.2 k (by omega)) C2
  refine rOf (fun R9 hR9 => xCallA1 (N := 2) (M2 := m_L_law) (pc2 := 561) (y := m_M_slotCount) (n := 1) (ls2 := [some (eR 0), some (eR 1), some (eR 70), some (eR 81), some (eI i)]) (st2 := [eI v]) (st9 := [eR 70, eI v]) (V := V2) (d := d) (r := 70) (bs := []) rfl rfl h702 rfl q3 hR9) ?_
  refine rOf (fun R9 hR9 => xEqT (N := 1) (x := v) (y := v) (A := ev m_L_law 3064 [some (eR 0), some (eR 1), some (eR 70), some (eR 81), some (eI i)] [] (V3, d)) (B := ev m_L_law 567 [some (eR 0), some (eR 1), some (eR 70), some (eR 81), some (eI i)] [] (V3, d)) rfl rfl rfl rfl hR9) ?_
  exact hK V3 d ⟨a, x, 0, ot, C3, M3, h03, h813⟩ (dl_rf d)
theorem k_wordCount {V : List eC} {d : Nat × Nat} {L j : Nat} {f : Nat → Int} {i : Int} {Q : (Option eV ⊕ Nat) × eW → Prop} (hi : i = (j : Int)) (hj : j + 6 ≤ L) (hL : L ≤ 3072) (hr : ∀ k, -2147483648 ≤ f k ∧ f k < 2147483648) (h : LI V L f) (hK : ∀ V' d', LI V' L f → dl d d' → Rs (ev m_L_law 3064 [some (eR 0), some (eR 1), some (eR 70), some (eR 81), some (eI i)] [] (V', d')) Q) : Rs (ev m_L_law 569 [some (eR 0), some (eR 1), some (eR 70), some (eR 81), some (eI i)] [] (V, d)) Q := by
  obtain ⟨a, x, t0, ot, C, M, h0, h81⟩ := h
  obtain ⟨P1, h1⟩ := CI_1 C
  obtain ⟨P70, h70⟩ := MI_70 M
  have hI : iA a := CI_I C
  obtain ⟨v, hv⟩ : ∃ v : Int, v = ((a 2 : Nat) : Int) := ⟨_, rfl⟩
  have hq : LV m_S_wordCount a (eI v) := fun P S ot hA => by rw [hv]; exact ⟨S, hA, s_wordCount (c := (0, 0)) hA hI⟩
  have hn : NV m_M_wordCount a (eI v) := fun P g mk fr hg => by rw [hv]; exact ⟨mk, z_wordCount (c := (0, 0)) hg hI⟩
  obtain ⟨V2, q2, C2, o2, fr2⟩ := lvV (d := d) hq C h81 rfl
  have h02 := (fr2.2 0 (by omega)).trans h0
  have h702 := (fr2.2 70 (by omega)).trans h70
  obtain ⟨P2, h12⟩ := CI_1 C2
  refine rOf (fun R9 hR9 => xCallA1 (N := 2) (M2 := m_L_law) (pc2 := 570) (y := m_S_wordCount) (n := 1) (ls2 := [some (eR 0), some (eR 1), some (eR 70), some (eR 81), some (eI i)]) (st2 := []) (st9 := [eR 1]) (V := V) (d := d) (r := 1) (bs := []) rfl rfl h1 rfl q2 hR9) ?_
  obtain ⟨V3, q3, M3, fm3⟩ := nvV (d := d) hn (MI_fr (fun k hk => fr2.2 k (by omega)) M) rfl
  have h03 := (fm3.2 0 (by omega)).trans h02
  have h13 := (fm3.2 1 (by omega)).trans h12
  have h813 := (fm3.2 81 (by omega)).trans o2
  obtain ⟨P3, h703⟩ := MI_70 M3
  have C3 := CI_fr (Nat.le_of_eq fm3.1.symm) (fun k hk => fm3.2 k (by omega)) C2
  refine rOf (fun R9 hR9 => xCallA1 (N := 2) (M2 := m_L_law) (pc2 := 574) (y := m_M_wordCount) (n := 1) (ls2 := [some (eR 0), some (eR 1), some (eR 70), some (eR 81), some (eI i)]) (st2 := [eI v]) (st9 := [eR 70, eI v]) (V := V2) (d := d) (r := 70) (bs := []) rfl rfl h702 rfl q3 hR9) ?_
  refine rOf (fun R9 hR9 => xEqT (N := 1) (x := v) (y := v) (A := ev m_L_law 3064 [some (eR 0), some (eR 1), some (eR 70), some (eR 81), some (eI i)] [] (V3, d)) (B := ev m_L_law 580 [some (eR 0), some (eR 1), some (eR 70), some (eR 81), some (eI i)] [] (V3, d)) rfl rfl rfl rfl hR9) ?_
  exact hK V3 d ⟨a, x, 0, ot, C3, M3, h03, h813⟩ (dl_rf d)
theorem k_state {V : List eC} {d : Nat × Nat} {L j : Nat} {f : Nat → Int} {i : Int} {Q : (Option eV ⊕ Nat) × eW → Prop} (hi : i = (j : Int)) (hj : j + 6 ≤ L) (hL : L ≤ 3072) (hr : ∀ k, -2147483648 ≤ f k ∧ f k < 2147483648) (h : LI V L f) (hK : ∀ V' d', LI V' L f → dl d d' → Rs (ev m_L_law 3064 [some (eR 0), some (eR 1), some (eR 70), some (eR 81), some (eI i)] [] (V', d')) Q) : Rs (ev m_L_law 1816 [some (eR 0), some (eR 1), some (eR 70), some (eR 81), some (eI i)] [] (V, d)) Q := by
  obtain ⟨a, x, t0, ot, C, M, h0, h81⟩ := h
  obtain ⟨P1, h1⟩ := CI_1 C
  obtain ⟨P70, h70⟩ := MI_70 M
  have hI : iA a := CI_I C
  obtain ⟨v, hv⟩ : ∃ v : Int, v = ((a 4 : Nat) : Int) := ⟨_, rfl⟩
  have hq : LV m_S_state a (eI v) := fun P S ot hA => by rw [hv]; exact ⟨S, hA, s_state (c := (0, 0)) hA hI⟩
  have hn : NV m_M_state a (eI v) := fun P g mk fr hg => by rw [hv]; exact ⟨mk, z_state (c := (0, 0)) hg hI⟩
  obtain ⟨V2, q2, C2, o2, fr2⟩ := lvV (d := d) hq C h81 rfl
  have h02 := (fr2.2 0 (by omega)).trans h0
  have h702 := (fr2.2 70 (by omega)).trans h70
  obtain ⟨P2, h12⟩ := CI_1 C2
  refine rOf (fun R9 hR9 => xCallA1 (N := 2) (M2 := m_L_law) (pc2 := 1817) (y := m_S_state) (n := 1) (ls2 := [some (eR 0), some (eR 1), some (eR 70), some (eR 81), some (eI i)]) (st2 := []) (st9 := [eR 1]) (V := V) (d := d) (r := 1) (bs := []) rfl rfl h1 rfl q2 hR9) ?_
  obtain ⟨V3, q3, M3, fm3⟩ := nvV (d := d) hn (MI_fr (fun k hk => fr2.2 k (by omega)) M) rfl
  have h03 := (fm3.2 0 (by omega)).trans h02
  have h13 := (fm3.2 1 (by omega)).trans h12
  have h813 := (fm3.2 81 (by omega)).trans o2
  obtain ⟨P3, h703⟩ := MI_70 M3
  have C3 := CI_fr (Nat.le_of_eq fm3.1.symm) (fun k hk => fm3.2 k (by omega)) C2
  refine rOf (fun R9 hR9 => xCallA1 (N := 2) (M2 := m_L_law) (pc2 := 1821) (y := m_M_state) (n := 1) (ls2 := [some (eR 0), some (eR 1), some (eR 70), some (eR 81), some (eI i)]) (st2 := [eI v]) (st9 := [eR 70, eI v]) (V := V2) (d := d) (r := 70) (bs := []) rfl rfl h702 rfl q3 hR9) ?_
  refine rOf (fun R9 hR9 => xEqT (N := 1) (x := v) (y := v) (A := ev m_L_law 3064 [some (eR 0), some (eR 1), some (eR 70), some (eR 81), some (eI i)] [] (V3, d)) (B := ev m_L_law 1827 [some (eR 0), some (eR 1), some (eR 70), some (eR 81), some (eI i)] [] (V3, d)) rfl rfl rfl rfl hR9) ?_
  exact hK V3 d ⟨a, x, 0, ot, C3, M3, h03, h813⟩ (dl_rf d)
theorem k_level {V : List eC} {d : Nat × Nat} {L j : Nat} {f : Nat → Int} {i : Int} {Q : (Option eV ⊕ Nat) × eW → Prop} (hi : i = (j : Int)) (hj : j + 6 ≤ L) (hL : L ≤ 3072) (hr : ∀ k, -2147483648 ≤ f k ∧ f k < 2147483648) (h : LI V L f) (hK : ∀ V' d', LI V' L f → dl d d' → Rs (ev m_L_law 3064 [some (eR 0), some (eR 1), some (eR 70), some (eR 81), some (eI i)] [] (V', d')) Q) : Rs (ev m_L_law 1829 [some (eR 0), some (eR 1), some (eR 70), some (eR 81), some (eI i)] [] (V, d)) Q := by
  obtain ⟨a, x, t0, ot, C, M, h0, h81⟩ := h
  obtain ⟨P1, h1⟩ := CI_1 C
  obtain ⟨P70, h70⟩ := MI_70 M
  have hI : iA a := CI_I C
  obtain ⟨v, hv⟩ : ∃ v : Int, v = ((a 5 : Nat) : Int) := ⟨_, rfl⟩
  have hq : LV m_S_level a (eI v) := fun P S ot hA => by rw [hv]; exact ⟨S, hA, s_level (c := (0, 0)) hA hI⟩
  have hn : NV m_M_level a (eI v) := fun P g mk fr hg => by rw [hv]; exact ⟨mk, z_level (c := (0, 0)) hg hI⟩
  obtain ⟨V2, q2, C2, o2, fr2⟩ := lvV (d := d) hq C h81 rfl
  have h02 := (fr2.2 0 (by omega)).trans h0
  have h702 := (fr2.2 70 (by omega)).trans h70
  obtain ⟨P2, h12⟩ := CI_1 C2
  refine rOf (fun R9 hR9 => xCallA1 (N := 2) (M2 := m_L_law) (pc2 := 1830) (y := m_S_level) (n := 1) (ls2 := [some (eR 0), some (eR 1), some (eR 70), some (eR 81), some (eI i)]) (st2 := []) (st9 := [eR 1]) (V := V) (d := d) (r := 1) (bs := []) rfl rfl h1 rfl q2 hR9) ?_
  obtain ⟨V3, q3, M3, fm3⟩ := nvV (d := d) hn (MI_fr (fun k hk => fr2.2 k (by omega)) M) rfl
  have h03 := (fm3.2 0 (by omega)).trans h02
  have h13 := (fm3.2 1 (by omega)).trans h12
  have h813 := (fm3.2 81 (by omega)).trans o2
  obtain ⟨P3, h703⟩ := MI_70 M3
  have C3 := CI_fr (Nat.le_of_eq fm3.1.symm) (fun k hk => fm3.2 k (by omega)) C2
  refine rOf (fun R9 hR9 => xCallA1 (N := 2) (M2 := m_L_law) (pc2 := 1834) (y := m_M_level) (n := 1) (ls2 := [some (eR 0), some (eR 1), some (eR 70), some (eR 81), some (eI i)]) (st2 := [eI v]) (st9 := [eR 70, eI v]) (V := V2) (d := d) (r := 70) (bs := []) rfl rfl h702 rfl q3 hR9) ?_
  refine rOf (fun R9 hR9 => xEqT (N := 1) (x := v) (y := v) (A := ev m_L_law 3064 [some (eR 0), some (eR 1), some (eR 70), some (eR 81), some (eI i)] [] (V3, d)) (B := ev m_L_law 1840 [some (eR 0), some (eR 1), some (eR 70), some (eR 81), some (eI i)] [] (V3, d)) rfl rfl rfl rfl hR9) ?_
  exact hK V3 d ⟨a, x, 0, ot, C3, M3, h03, h813⟩ (dl_rf d)
theorem k_guesses {V : List eC} {d : Nat × Nat} {L j : Nat} {f : Nat → Int} {i : Int} {Q : (Option eV ⊕ Nat) × eW → Prop} (hi : i = (j : Int)) (hj : j + 6 ≤ L) (hL : L ≤ 3072) (hr : ∀ k, -2147483648 ≤ f k ∧ f k < 2147483648) (h : LI V L f) (hK : ∀ V' d', LI V' L f → dl d d' → Rs (ev m_L_law 3064 [some (eR 0), some (eR 1), some (eR 70), some (eR 81), some (eI i)] [] (V', d')) Q) : Rs (ev m_L_law 2299 [some (eR 0), some (eR 1), some (eR 70), some (eR 81), some (eI i)] [] (V, d)) Q := by
  obtain ⟨a, x, t0, ot, C, M, h0, h81⟩ := h
  obtain ⟨P1, h1⟩ := CI_1 C
  obtain ⟨P70, h70⟩ := MI_70 M
  have hI : iA a := CI_I C
  obtain ⟨v, hv⟩ : ∃ v : Int, v = ((a 6 : Nat) : Int) := ⟨_, rfl⟩
  have hq : LV m_S_guesses a (eI v) := fun P S ot hA => by rw [hv]; exact ⟨S, hA, s_guesses (c := (0, 0)) hA hI⟩
  have hn : NV m_M_guesses a (eI v) := fun P g mk fr hg => by rw [hv]; exact ⟨mk, z_guesses (c := (0, 0)) hg hI⟩
  obtain ⟨V2, q2, C2, o2, fr2⟩ := lvV (d := d) hq C h81 rfl
  have h02 := (fr2.2 0 (by omega)).trans h0
  have h702 := (fr2.2 70 (by omega)).trans h70
  obtain ⟨P2, h12⟩ := CI_1 C2
  refine rOf (fun R9 hR9 => xCallA1 (N := 2) (M2 := m_L_law) (pc2 := 2300) (y := m_S_guesses) (n := 1) (ls2 := [some (eR 0), some (eR 1), some (eR 70), some (eR 81), some (eI i)]) (st2 := []) (st9 := [eR 1]) (V := V) (d := d) (r := 1) (bs := []) rfl rfl h1 rfl q2 hR9) ?_
  obtain ⟨V3, q3, M3, fm3⟩ := nvV (d := d) hn (MI_fr (fun k hk => fr2.2 k (by omega)) M) rfl
  have h03 := (fm3.2 0 (by omega)).trans h02
  have h13 := (fm3.2 1 (by omega)).trans h12
  have h813 := (fm3.2 81 (by omega)).trans o2
  obtain ⟨P3, h703⟩ := MI_70 M3
  have C3 := CI_fr (Nat.le_of_eq fm3.1.symm) (fun k hk => fm3.2 k (by omega)) C2
  refine rOf (fun R9 hR9 => xCallA1 (N := 2) (M2 := m_L_law) (pc2 := 2304) (y := m_M_guesses) (n := 1) (ls2 := [some (eR 0), some (eR 1), some (eR 70), some (eR 81), some (eI i)]) (st2 := [eI v]) (st9 := [eR 70, eI v]) (V := V2) (d := d) (r := 70) (bs := []) rfl rfl h702 rfl q3 hR9) ?_
  refine rOf (fun R9 hR9 => xEqT (N := 1) (x := v) (y := v) (A := ev m_L_law 3064 [some (eR 0), some (eR 1), some (eR 70), some (eR 81), some (eI i)] [] (V3, d)) (B := ev m_L_law 2310 [some (eR 0), some (eR 1), some (eR 70), some (eR 81), some (eI i)] [] (V3, d)) rfl rfl rfl rfl hR9) ?_
  exact hK V3 d ⟨a, x, 0, ot, C3, M3, h03, h813⟩ (dl_rf d)
theorem k_takenBack {V : List eC} {d : Nat × Nat} {L j : Nat} {f : Nat → Int} {i : Int} {Q : (Option eV ⊕ Nat) × eW → Prop} (hi : i = (j : Int)) (hj : j + 6 ≤ L) (hL : L ≤ 3072) (hr : ∀ k, -2147483648 ≤ f k ∧ f k < 2147483648) (h : LI V L f) (hK : ∀ V' d', LI V' L f → dl d d' → Rs (ev m_L_law 3064 [some (eR 0), some (eR 1), some (eR 70), some (eR 81), some (eI i)] [] (V', d')) Q) : Rs (ev m_L_law 2312 [some (eR 0), some (eR 1), some (eR 70), some (eR 81), some (eI i)] [] (V, d)) Q := by
  obtain ⟨a, x, t0, ot, C, M, h0, h81⟩ := h
  obtain ⟨P1, h1⟩ := CI_1 C
  obtain ⟨P70, h70⟩ := MI_70 M
  have hI : iA a := CI_I C
  obtain ⟨v, hv⟩ : ∃ v : Int, v = ((a 7 : Nat) : Int) := ⟨_, rfl⟩
  have hq : LV m_S_takenBack a (eI v) := fun P S ot hA => by rw [hv]; exact ⟨S, hA, s_takenBack (c := (0, 0)) hA hI⟩
  have hn : NV m_M_takenBack a (eI v) := fun P g mk fr hg => by rw [hv]; exact ⟨mk, z_takenBack (c := (0, 0)) hg hI⟩
  obtain ⟨V2, q2, C2, o2, fr2⟩ := lvV (d := d) hq C h81 rfl
  have h02 := (fr2.2 0 (by omega)).trans h0
  have h702 := (fr2.2 70 (by omega)).trans h70
  obtain ⟨P2, h12⟩ := CI_1 C2
  refine rOf (fun R9 hR9 => xCallA1 (N := 2) (M2 := m_L_law) (pc2 := 2313) (y := m_S_takenBack) (n := 1) (ls2 := [some (eR 0), some (eR 1), some (eR 70), some (eR 81), some (eI i)]) (st2 := []) (st9 := [eR 1]) (V := V) (d := d) (r := 1) (bs := []) rfl rfl h1 rfl q2 hR9) ?_
  obtain ⟨V3, q3, M3, fm3⟩ := nvV (d := d) hn (MI_fr (fun k hk => fr2.2 k (by omega)) M) rfl
  have h03 := (fm3.2 0 (by omega)).trans h02
  have h13 := (fm3.2 1 (by omega)).trans h12
  have h813 := (fm3.2 81 (by omega)).trans o2
  obtain ⟨P3, h703⟩ := MI_70 M3
  have C3 := CI_fr (Nat.le_of_eq fm3.1.symm) (fun k hk => fm3.2 k (by omega)) C2
  refine rOf (fun R9 hR9 => xCallA1 (N := 2) (M2 := m_L_law) (pc2 := 2317) (y := m_M_takenBack) (n := 1) (ls2 := [some (eR 0), some (eR 1), some (eR 70), some (eR 81), some (eI i)]) (st2 := [eI v]) (st9 := [eR 70, eI v]) (V := V2) (d := d) (r := 70) (bs := []) rfl rfl h702 rfl q3 hR9) ?_
  refine rOf (fun R9 hR9 => xEqT (N := 1) (x := v) (y := v) (A := ev m_L_law 3064 [some (eR 0), some (eR 1), some (eR 70), some (eR 81), some (eI i)] [] (V3, d)) (B := ev m_L_law 2323 [some (eR 0), some (eR 1), some (eR 70), some (eR 81), some (eI i)] [] (V3, d)) rfl rfl rfl rfl hR9) ?_
  exact hK V3 d ⟨a, x, 0, ot, C3, M3, h03, h813⟩ (dl_rf d)
theorem k_levelDifference {V : List eC} {d : Nat × Nat} {L j : Nat} {f : Nat → Int} {i : Int} {Q : (Option eV ⊕ Nat) × eW → Prop} (hi : i = (j : Int)) (hj : j + 6 ≤ L) (hL : L ≤ 3072) (hr : ∀ k, -2147483648 ≤ f k ∧ f k < 2147483648) (h : LI V L f) (hK : ∀ V' d', LI V' L f → dl d d' → Rs (ev m_L_law 3064 [some (eR 0), some (eR 1), some (eR 70), some (eR 81), some (eI i)] [] (V', d')) Q) : Rs (ev m_L_law 2351 [some (eR 0), some (eR 1), some (eR 70), some (eR 81), some (eI i)] [] (V, d)) Q := by
  obtain ⟨a, x, t0, ot, C, M, h0, h81⟩ := h
  obtain ⟨P1, h1⟩ := CI_1 C
  obtain ⟨P70, h70⟩ := MI_70 M
  have hI : iA a := CI_I C
  obtain ⟨v, hv⟩ : ∃ v : Int, v = ((a 6 : Nat) : Int) - ((a 7 : Nat) : Int) - ((a 8 : Nat) : Int) - ((a 5 : Nat) : Int) := ⟨_, rfl⟩
  have hq : LV m_S_levelDifference a (eI v) := fun P S ot hA => by rw [hv]; exact ⟨S, hA, s_levelDifference (c := (0, 0)) hA hI⟩
  have hn : NV m_M_levelDifference a (eI v) := fun P g mk fr hg => by rw [hv]; exact ⟨mk, z_levelDifference (c := (0, 0)) hg hI⟩
  obtain ⟨V2, q2, C2, o2, fr2⟩ := lvV (d := d) hq C h81 rfl
  have h02 := (fr2.2 0 (by omega)).trans h0
  have h702 := (fr2.2 70 (by omega)).trans h70
  obtain ⟨P2, h12⟩ := CI_1 C2
  refine rOf (fun R9 hR9 => xCallA1 (N := 2) (M2 := m_L_law) (pc2 := 2352) (y := m_S_levelDifference) (n := 1) (ls2 := [some (eR 0), some (eR 1), some (eR 70), some (eR 81), some (eI i)]) (st2 := []) (st9 := [eR 1]) (V := V) (d := d) (r := 1) (bs := []) rfl rfl h1 rfl q2 hR9) ?_
  obtain ⟨V3, q3, M3, fm3⟩ := nvV (d := d) hn (MI_fr (fun k hk => fr2.2 k (by omega)) M) rfl
  have h03 := (fm3.2 0 (by omega)).trans h02
  have h13 := (fm3.2 1 (by omega)).trans h12
  have h813 := (fm3.2 81 (by omega)).trans o2
  obtain ⟨P3, h703⟩ := MI_70 M3
  have C3 := CI_fr (Nat.le_of_eq fm3.1.symm) (fun k hk => fm3.2 k (by omega)) C2
  refine rOf (fun R9 hR9 => xCallA1 (N := 2) (M2 := m_L_law) (pc2 := 2356) (y := m_M_levelDifference) (n := 1) (ls2 := [some (eR 0), some (eR 1), some (eR 70), some (eR 81), some (eI i)]) (st2 := [eI v]) (st9 := [eR 70, eI v]) (V := V2) (d := d) (r := 70) (bs := []) rfl rfl h702 rfl q3 hR9) ?_
  refine rOf (fun R9 hR9 => xEqT (N := 1) (x := v) (y := v) (A := ev m_L_law 3064 [some (eR 0), some (eR 1), some (eR 70), some (eR 81), some (eI i)] [] (V3, d)) (B := ev m_L_law 2362 [some (eR 0), some (eR 1), some (eR 70), some (eR 81), some (eI i)] [] (V3, d)) rfl rfl rfl rfl hR9) ?_
  exact hK V3 d ⟨a, x, 0, ot, C3, M3, h03, h813⟩ (dl_rf d)
theorem k_bestSlot {V : List eC} {d : Nat × Nat} {L j : Nat} {f : Nat → Int} {i : Int} {Q : (Option eV ⊕ Nat) × eW → Prop} (hi : i = (j : Int)) (hj : j + 6 ≤ L) (hL : L ≤ 3072) (hr : ∀ k, -2147483648 ≤ f k ∧ f k < 2147483648) (h : LI V L f) (hK : ∀ V' d', LI V' L f → dl d d' → Rs (ev m_L_law 3064 [some (eR 0), some (eR 1), some (eR 70), some (eR 81), some (eI i)] [] (V', d')) Q) : Rs (ev m_L_law 1954 [some (eR 0), some (eR 1), some (eR 70), some (eR 81), some (eI i)] [] (V, d)) Q := by
  obtain ⟨a, x, t0, ot, C, M, h0, h81⟩ := h
  obtain ⟨P1, h1⟩ := CI_1 C
  obtain ⟨P70, h70⟩ := MI_70 M
  have hI : iA a := CI_I C
  obtain ⟨v, hv⟩ : ∃ v : Int, v = (bsA (fun k => pc 30 (op a k)) (a 3)).1 := ⟨_, rfl⟩
  have hq : LV m_S_bestSlot a (eI v) := fun P S ot hA => by rw [hv]; exact ⟨S, hA, s_bestSlot (c := (0, 0)) hA hI⟩
  have hn : NV m_M_bestSlot a (eI v) := fun P g mk fr hg => by rw [hv]; exact ⟨mk, z_bestSlot (c := (0, 0)) hg hI⟩
  obtain ⟨V2, q2, C2, o2, fr2⟩ := lvV (d := d) hq C h81 rfl
  have h02 := (fr2.2 0 (by omega)).trans h0
  have h702 := (fr2.2 70 (by omega)).trans h70
  obtain ⟨P2, h12⟩ := CI_1 C2
  refine rOf (fun R9 hR9 => xCallA1 (N := 2) (M2 := m_L_law) (pc2 := 1955) (y := m_S_bestSlot) (n := 1) (ls2 := [some (eR 0), some (eR 1), some (eR 70), some (eR 81), some (eI i)]) (st2 := []) (st9 := [eR 1]) (V := V) (d := d) (r := 1) (bs := []) rfl rfl h1 rfl q2 hR9) ?_
  obtain ⟨V3, q3, M3, fm3⟩ := nvV (d := d) hn (MI_fr (fun k hk => fr2.2 k (by omega)) M) rfl
  have h03 := (fm3.2 0 (by omega)).trans h02
  have h13 := (fm3.2 1 (by omega)).trans h12
  have h813 := (fm3.2 81 (by omega)).trans o2
  obtain ⟨P3, h703⟩ := MI_70 M3
  have C3 := CI_fr (Nat.le_of_eq fm3.1.symm) (fun k hk => fm3.2 k (by omega)) C2
  refine rOf (fun R9 hR9 => xCallA1 (N := 2) (M2 := m_L_law) (pc2 := 1959) (y := m_M_bestSlot) (n := 1) (ls2 := [some (eR 0), some (eR 1), some (eR 70), some (eR 81), some (eI i)]) (st2 := [eI v]) (st9 := [eR 70, eI v]) (V := V2) (d := d) (r := 70) (bs := []) rfl rfl h702 rfl q3 hR9) ?_
  refine rOf (fun R9 hR9 => xEqT (N := 1) (x := v) (y := v) (A := ev m_L_law 3064 [some (eR 0), some (eR 1), some (eR 70), some (eR 81), some (eI i)] [] (V3, d)) (B := ev m_L_law 1965 [some (eR 0), some (eR 1), some (eR 70), some (eR 81), some (eI i)] [] (V3, d)) rfl rfl rfl rfl hR9) ?_
  exact hK V3 d ⟨a, x, 0, ot, C3, M3, h03, h813⟩ (dl_rf d)
theorem k_emptySlot {V : List eC} {d : Nat × Nat} {L j : Nat} {f : Nat → Int} {i : Int} {Q : (Option eV ⊕ Nat) × eW → Prop} (hi : i = (j : Int)) (hj : j + 6 ≤ L) (hL : L ≤ 3072) (hr : ∀ k, -2147483648 ≤ f k ∧ f k < 2147483648) (h : LI V L f) (hK : ∀ V' d', LI V' L f → dl d d' → Rs (ev m_L_law 3064 [some (eR 0), some (eR 1), some (eR 70), some (eR 81), some (eI i)] [] (V', d')) Q) : Rs (ev m_L_law 2234 [some (eR 0), some (eR 1), some (eR 70), some (eR 81), some (eI i)] [] (V, d)) Q := by
  obtain ⟨a, x, t0, ot, C, M, h0, h81⟩ := h
  obtain ⟨P1, h1⟩ := CI_1 C
  obtain ⟨P70, h70⟩ := MI_70 M
  have hI : iA a := CI_I C
  obtain ⟨v, hv⟩ : ∃ v : Int, v = fnd (fun k => decide (op a k = 0)) (a 3) 0 := ⟨_, rfl⟩
  have hq : LV m_S_emptySlot a (eI v) := fun P S ot hA => by rw [hv]; exact ⟨S, hA, s_emptySlot (c := (0, 0)) hA hI⟩
  have hn : NV m_M_emptySlot a (eI v) := fun P g mk fr hg => by rw [hv]; exact ⟨mk, z_emptySlot (c := (0, 0)) hg hI⟩
  obtain ⟨V2, q2, C2, o2, fr2⟩ := lvV (d := d) hq C h81 rfl
  have h02 := (fr2.2 0 (by omega)).trans h0
  have h702 := (fr2.2 70 (by omega)).trans h70
  obtain ⟨P2, h12⟩ := CI_1 C2
  refine rOf (fun R9 hR9 => xCallA1 (N := 2) (M2 := m_L_law) (pc2 := 2235) (y := m_S_emptySlot) (n := 1) (ls2 := [some (eR 0), some (eR 1), some (eR 70), some (eR 81), some (eI i)]) (st2 := []) (st9 := [eR 1]) (V := V) (d := d) (r := 1) (bs := []) rfl rfl h1 rfl q2 hR9) ?_
  obtain ⟨V3, q3, M3, fm3⟩ := nvV (d := d) hn (MI_fr (fun k hk => fr2.2 k (by omega)) M) rfl
  have h03 := (fm3.2 0 (by omega)).trans h02
  have h13 := (fm3.2 1 (by omega)).trans h12
  have h813 := (fm3.2 81 (by omega)).trans o2
  obtain ⟨P3, h703⟩ := MI_70 M3
  have C3 := CI_fr (Nat.le_of_eq fm3.1.symm) (fun k hk => fm3.2 k (by omega)) C2
  refine rOf (fun R9 hR9 => xCallA1 (N := 2) (M2 := m_L_law) (pc2 := 2239) (y := m_M_emptySlot) (n := 1) (ls2 := [some (eR 0), some (eR 1), some (eR 70), some (eR 81), some (eI i)]) (st2 := [eI v]) (st9 := [eR 70, eI v]) (V := V2) (d := d) (r := 70) (bs := []) rfl rfl h702 rfl q3 hR9) ?_
  refine rOf (fun R9 hR9 => xEqT (N := 1) (x := v) (y := v) (A := ev m_L_law 3064 [some (eR 0), some (eR 1), some (eR 70), some (eR 81), some (eI i)] [] (V3, d)) (B := ev m_L_law 2245 [some (eR 0), some (eR 1), some (eR 70), some (eR 81), some (eI i)] [] (V3, d)) rfl rfl rfl rfl hR9) ?_
  exact hK V3 d ⟨a, x, 0, ot, C3, M3, h03, h813⟩ (dl_rf d)
theorem k_candidatesLeft {V : List eC} {d : Nat × Nat} {L j : Nat} {f : Nat → Int} {i : Int} {Q : (Option eV ⊕ Nat) × eW → Prop} (hi : i = (j : Int)) (hj : j + 6 ≤ L) (hL : L ≤ 3072) (hr : ∀ k, -2147483648 ≤ f k ∧ f k < 2147483648) (h : LI V L f) (hK : ∀ V' d', LI V' L f → dl d d' → Rs (ev m_L_law 3064 [some (eR 0), some (eR 1), some (eR 70), some (eR 81), some (eI i)] [] (V', d')) Q) : Rs (ev m_L_law 2247 [some (eR 0), some (eR 1), some (eR 70), some (eR 81), some (eI i)] [] (V, d)) Q := by
  obtain ⟨a, x, t0, ot, C, M, h0, h81⟩ := h
  obtain ⟨P1, h1⟩ := CI_1 C
  obtain ⟨P70, h70⟩ := MI_70 M
  have hI : iA a := CI_I C
  obtain ⟨v, hv⟩ : ∃ v : Int, v = ((fb_sm (fun k => pc 30 (op a k)) (a 3) : Nat) : Int) := ⟨_, rfl⟩
  have hq : LV m_S_candidatesLeft a (eI v) := fun P S ot hA => by rw [hv]; exact ⟨S, hA, s_candidatesLeft (c := (0, 0)) hA hI⟩
  have hn : NV m_M_candidatesLeft a (eI v) := fun P g mk fr hg => by rw [hv]; exact ⟨mk, z_candidatesLeft (c := (0, 0)) hg hI⟩
  obtain ⟨V2, q2, C2, o2, fr2⟩ := lvV (d := d) hq C h81 rfl
  have h02 := (fr2.2 0 (by omega)).trans h0
  have h702 := (fr2.2 70 (by omega)).trans h70
  obtain ⟨P2, h12⟩ := CI_1 C2
  refine rOf (fun R9 hR9 => xCallA1 (N := 2) (M2 := m_L_law) (pc2 := 2248) (y := m_S_candidatesLeft) (n := 1) (ls2 := [some (eR 0), some (eR 1), some (eR 70), some (eR 81), some (eI i)]) (st2 := []) (st9 := [eR 1]) (V := V) (d := d) (r := 1) (bs := []) rfl rfl h1 rfl q2 hR9) ?_
  obtain ⟨V3, q3, M3, fm3⟩ := nvV (d := d) hn (MI_fr (fun k hk => fr2.2 k (by omega)) M) rfl
  have h03 := (fm3.2 0 (by omega)).trans h02
  have h13 := (fm3.2 1 (by omega)).trans h12
  have h813 := (fm3.2 81 (by omega)).trans o2
  obtain ⟨P3, h703⟩ := MI_70 M3
  have C3 := CI_fr (Nat.le_of_eq fm3.1.symm) (fun k hk => fm3.2 k (by omega)) C2
  refine rOf (fun R9 hR9 => xCallA1 (N := 2) (M2 := m_L_law) (pc2 := 2252) (y := m_M_candidatesLeft) (n := 1) (ls2 := [some (eR 0), some (eR 1), some (eR 70), some (eR 81), some (eI i)]) (st2 := [eI v]) (st9 := [eR 70, eI v]) (V := V2) (d := d) (r := 70) (bs := []) rfl rfl h702 rfl q3 hR9) ?_
  refine rOf (fun R9 hR9 => xEqT (N := 1) (x := v) (y := v) (A := ev m_L_law 3064 [some (eR 0), some (eR 1), some (eR 70), some (eR 81), some (eI i)] [] (V3, d)) (B := ev m_L_law 2258 [some (eR 0), some (eR 1), some (eR 70), some (eR 81), some (eI i)] [] (V3, d)) rfl rfl rfl rfl hR9) ?_
  exact hK V3 d ⟨a, x, 0, ot, C3, M3, h03, h813⟩ (dl_rf d)
theorem k_prizeNow {V : List eC} {d : Nat × Nat} {L j : Nat} {f : Nat → Int} {i : Int} {Q : (Option eV ⊕ Nat) × eW → Prop} (hi : i = (j : Int)) (hj : j + 6 ≤ L) (hL : L ≤ 3072) (hr : ∀ k, -2147483648 ≤ f k ∧ f k < 2147483648) (h : LI V L f) (hK : ∀ V' d', LI V' L f → dl d d' → Rs (ev m_L_law 3064 [some (eR 0), some (eR 1), some (eR 70), some (eR 81), some (eI i)] [] (V', d')) Q) : Rs (ev m_L_law 2260 [some (eR 0), some (eR 1), some (eR 70), some (eR 81), some (eI i)] [] (V, d)) Q := by
  obtain ⟨a, x, t0, ot, C, M, h0, h81⟩ := h
  obtain ⟨P1, h1⟩ := CI_1 C
  obtain ⟨P70, h70⟩ := MI_70 M
  have hI : iA a := CI_I C
  obtain ⟨v, hv⟩ : ∃ v : Int, v = ((PzN a : Nat) : Int) := ⟨_, rfl⟩
  have hq : LV m_S_prizeNow a (eI v) := fun P S ot hA => by rw [hv]; exact ⟨S, hA, s_prizeNow (c := (0, 0)) hA hI⟩
  have hn : NV m_M_prizeNow a (eI v) := fun P g mk fr hg => by rw [hv]; exact ⟨mk, z_prizeNow (c := (0, 0)) hg hI⟩
  obtain ⟨V2, q2, C2, o2, fr2⟩ := lvV (d := d) hq C h81 rfl
  have h02 := (fr2.2 0 (by omega)).trans h0
  have h702 := (fr2.2 70 (by omega)).trans h70
  obtain ⟨P2, h12⟩ := CI_1 C2
  refine rOf (fun R9 hR9 => xCallA1 (N := 2) (M2 := m_L_law) (pc2 := 2261) (y := m_S_prizeNow) (n := 1) (ls2 := [some (eR 0), some (eR 1), some (eR 70), some (eR 81), some (eI i)]) (st2 := []) (st9 := [eR 1]) (V := V) (d := d) (r := 1) (bs := []) rfl rfl h1 rfl q2 hR9) ?_
  obtain ⟨V3, q3, M3, fm3⟩ := nvV (d := d) hn (MI_fr (fun k hk => fr2.2 k (by omega)) M) rfl
  have h03 := (fm3.2 0 (by omega)).trans h02
  have h13 := (fm3.2 1 (by omega)).trans h12
  have h813 := (fm3.2 81 (by omega)).trans o2
  obtain ⟨P3, h703⟩ := MI_70 M3
  have C3 := CI_fr (Nat.le_of_eq fm3.1.symm) (fun k hk => fm3.2 k (by omega)) C2
  refine rOf (fun R9 hR9 => xCallA1 (N := 2) (M2 := m_L_law) (pc2 := 2265) (y := m_M_prizeNow) (n := 1) (ls2 := [some (eR 0), some (eR 1), some (eR 70), some (eR 81), some (eI i)]) (st2 := [eI v]) (st9 := [eR 70, eI v]) (V := V2) (d := d) (r := 70) (bs := []) rfl rfl h702 rfl q3 hR9) ?_
  refine rOf (fun R9 hR9 => xEqT (N := 1) (x := v) (y := v) (A := ev m_L_law 3064 [some (eR 0), some (eR 1), some (eR 70), some (eR 81), some (eI i)] [] (V3, d)) (B := ev m_L_law 2271 [some (eR 0), some (eR 1), some (eR 70), some (eR 81), some (eI i)] [] (V3, d)) rfl rfl rfl rfl hR9) ?_
  exact hK V3 d ⟨a, x, 0, ot, C3, M3, h03, h813⟩ (dl_rf d)
theorem k_doubleErrors {V : List eC} {d : Nat × Nat} {L j : Nat} {f : Nat → Int} {i : Int} {Q : (Option eV ⊕ Nat) × eW → Prop} (hi : i = (j : Int)) (hj : j + 6 ≤ L) (hL : L ≤ 3072) (hr : ∀ k, -2147483648 ≤ f k ∧ f k < 2147483648) (h : LI V L f) (hK : ∀ V' d', LI V' L f → dl d d' → Rs (ev m_L_law 3064 [some (eR 0), some (eR 1), some (eR 70), some (eR 81), some (eI i)] [] (V', d')) Q) : Rs (ev m_L_law 2338 [some (eR 0), some (eR 1), some (eR 70), some (eR 81), some (eI i)] [] (V, d)) Q := by
  obtain ⟨a, x, t0, ot, C, M, h0, h81⟩ := h
  obtain ⟨P1, h1⟩ := CI_1 C
  obtain ⟨P70, h70⟩ := MI_70 M
  have hI : iA a := CI_I C
  obtain ⟨v, hv⟩ : ∃ v : Int, v = ((DbN a : Nat) : Int) := ⟨_, rfl⟩
  have hq : LV m_S_doubleErrors a (eI v) := fun P S ot hA => by rw [hv]; exact ⟨S, hA, s_doubleErrors (c := (0, 0)) hA hI⟩
  have hn : NV m_M_doubleErrors a (eI v) := fun P g mk fr hg => by rw [hv]; exact ⟨mk, z_doubleErrors (c := (0, 0)) hg hI⟩
  obtain ⟨V2, q2, C2, o2, fr2⟩ := lvV (d := d) hq C h81 rfl
  have h02 := (fr2.2 0 (by omega)).trans h0
  have h702 := (fr2.2 70 (by omega)).trans h70
  obtain ⟨P2, h12⟩ := CI_1 C2
  refine rOf (fun R9 hR9 => xCallA1 (N := 2) (M2 := m_L_law) (pc2 := 2339) (y := m_S_doubleErrors) (n := 1) (ls2 := [some (eR 0), some (eR 1), some (eR 70), some (eR 81), some (eI i)]) (st2 := []) (st9 := [eR 1]) (V := V) (d := d) (r := 1) (bs := []) rfl rfl h1 rfl q2 hR9) ?_
  obtain ⟨V3, q3, M3, fm3⟩ := nvV (d := d) hn (MI_fr (fun k hk => fr2.2 k (by omega)) M) rfl
  have h03 := (fm3.2 0 (by omega)).trans h02
  have h13 := (fm3.2 1 (by omega)).trans h12
  have h813 := (fm3.2 81 (by omega)).trans o2
  obtain ⟨P3, h703⟩ := MI_70 M3
  have C3 := CI_fr (Nat.le_of_eq fm3.1.symm) (fun k hk => fm3.2 k (by omega)) C2
  refine rOf (fun R9 hR9 => xCallA1 (N := 2) (M2 := m_L_law) (pc2 := 2343) (y := m_M_doubleErrors) (n := 1) (ls2 := [some (eR 0), some (eR 1), some (eR 70), some (eR 81), some (eI i)]) (st2 := [eI v]) (st9 := [eR 70, eI v]) (V := V2) (d := d) (r := 70) (bs := []) rfl rfl h702 rfl q3 hR9) ?_
  refine rOf (fun R9 hR9 => xEqT (N := 1) (x := v) (y := v) (A := ev m_L_law 3064 [some (eR 0), some (eR 1), some (eR 70), some (eR 81), some (eI i)] [] (V3, d)) (B := ev m_L_law 2349 [some (eR 0), some (eR 1), some (eR 70), some (eR 81), some (eI i)] [] (V3, d)) rfl rfl rfl rfl hR9) ?_
  exact hK V3 d ⟨a, x, 0, ot, C3, M3, h03, h813⟩ (dl_rf d)
theorem k_supportErrors {V : List eC} {d : Nat × Nat} {L j : Nat} {f : Nat → Int} {i : Int} {Q : (Option eV ⊕ Nat) × eW → Prop} (hi : i = (j : Int)) (hj : j + 6 ≤ L) (hL : L ≤ 3072) (hr : ∀ k, -2147483648 ≤ f k ∧ f k < 2147483648) (h : LI V L f) (hK : ∀ V' d', LI V' L f → dl d d' → Rs (ev m_L_law 3064 [some (eR 0), some (eR 1), some (eR 70), some (eR 81), some (eI i)] [] (V', d')) Q) : Rs (ev m_L_law 2325 [some (eR 0), some (eR 1), some (eR 70), some (eR 81), some (eI i)] [] (V, d)) Q := by
  obtain ⟨a, x, t0, ot, C, M, h0, h81⟩ := h
  obtain ⟨P1, h1⟩ := CI_1 C
  obtain ⟨P70, h70⟩ := MI_70 M
  have hI : iA a := CI_I C
  obtain ⟨v, hv⟩ : ∃ v : Int, v = ((SeN a : Nat) : Int) := ⟨_, rfl⟩
  have hq : LV m_S_supportErrors a (eI v) := fun P S ot hA => by rw [hv]; exact s_supportErrors (c := (0, 0)) hA hI
  have hn : NV m_M_supportErrors a (eI v) := fun P g mk fr hg => by rw [hv]; exact z_supportErrors (c := (0, 0)) hg hI
  obtain ⟨V2, q2, C2, o2, fr2⟩ := lvV (d := d) hq C h81 rfl
  have h02 := (fr2.2 0 (by omega)).trans h0
  have h702 := (fr2.2 70 (by omega)).trans h70
  obtain ⟨P2, h12⟩ := CI_1 C2
  refine rOf (fun R9 hR9 => xCallA1 (N := 2) (M2 := m_L_law) (pc2 := 2326) (y := m_S_supportErrors) (n := 1) (ls2 := [some (eR 0), some (eR 1), some (eR 70), some (eR 81), some (eI i)]) (st2 := []) (st9 := [eR 1]) (V := V) (d := d) (r := 1) (bs := []) rfl rfl h1 rfl q2 hR9) ?_
  obtain ⟨V3, q3, M3, fm3⟩ := nvV (d := d) hn (MI_fr (fun k hk => fr2.2 k (by omega)) M) rfl
  have h03 := (fm3.2 0 (by omega)).trans h02
  have h13 := (fm3.2 1 (by omega)).trans h12
  have h813 := (fm3.2 81 (by omega)).trans o2
  obtain ⟨P3, h703⟩ := MI_70 M3
  have C3 := CI_fr (Nat.le_of_eq fm3.1.symm) (fun k hk => fm3.2 k (by omega)) C2
  refine rOf (fun R9 hR9 => xCallA1 (N := 2) (M2 := m_L_law) (pc2 := 2330) (y := m_M_supportErrors) (n := 1) (ls2 := [some (eR 0), some (eR 1), some (eR 70), some (eR 81), some (eI i)]) (st2 := [eI v]) (st9 := [eR 70, eI v]) (V := V2) (d := d) (r := 70) (bs := []) rfl rfl h702 rfl q3 hR9) ?_
  refine rOf (fun R9 hR9 => xEqT (N := 1) (x := v) (y := v) (A := ev m_L_law 3064 [some (eR 0), some (eR 1), some (eR 70), some (eR 81), some (eI i)] [] (V3, d)) (B := ev m_L_law 2336 [some (eR 0), some (eR 1), some (eR 70), some (eR 81), some (eI i)] [] (V3, d)) rfl rfl rfl rfl hR9) ?_
  exact hK V3 d ⟨a, x, 0, ot, C3, M3, h03, h813⟩ (dl_rf d)
