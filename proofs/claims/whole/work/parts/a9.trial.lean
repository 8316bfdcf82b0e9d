/-! The class: what a guess, what the steps would lead to. -/
theorem inj_bTr : inj20 bTr := fun i j _ _ e => by
  have e : 46 + i = 46 + j := e
  omega
theorem nin_bTr {k : Nat} (h : k < 46 ∨ 66 ≤ k) : ninL k (wLf bTr) = true := wLf_nin (fun i hi => by show k ≠ 46 + i; omega)
theorem CI_tr {V V' : List eC} {a : eRow} {X : xT} {S' : wS} (C : CI V a X) (hw : winAt V' bTr S') (hs : sb V V' (wLf bTr)) : CI V' a X := by
  obtain ⟨c1, c2, c3, c4, c5⟩ := C
  have hf : ∀ k, (k < 46 ∨ 66 ≤ k) → eNth V' k = eNth V k := fun k h => hs.2 k (nin_bTr h)
  exact ⟨CW_fr (fun k hk => hf k (by omega)) c1, ⟨S', hw⟩, CH_fr (Nat.le_of_eq hs.1.symm) (fun k hk => hf k (by omega)) c3, CN_fr (fun k hk => hf k (by omega)) c4, CO_fr (fun k hk => hf k (by omega)) c5⟩
/-- the current window is copied into the trial -/
theorem t_cp {V : List eC} {d : Nat × Nat} {a : eRow} {S : wS} (w1 : winAt V bC S) (hA : wA S a) (hI : iA a) (c2 : CT V) : ∃ (V1 : List eC) (S1 : wS), ev m_W_copyFrom 0 [some (eR 46), some (eR 26)] [] (V, d) = some (.inl none, (V1, d)) ∧ winAt V1 bTr S1 ∧ wA S1 a ∧ sb V V1 (wLf bTr) := by
  obtain ⟨S0, w0⟩ := c2
  have hap : apart bTr bC := fun i j hi hj e => by
    have e : 46 + i = 26 + j := e
    omega
  obtain ⟨V1, e1, e2, e3⟩ := cpI (d := d) w0 w1 inj_bTr inj_bC hap
  exact ⟨V1, _, e1, e2, wA_cp hI hA, e3⟩
set_option maxRecDepth 100000
theorem sc_leftAfter {a : eRow} {X : xT} {x y : Int} {v : Int} {k w : Nat} (hx : x = (k : Int)) (h1 : k < a 3) (hy : y = (w : Int)) (h2 : w < a 2) (h0 : rfs (a 4) ((op a k).testBit w) (decide (pc 30 (op a k) = 1)) = 0) (hv : v = ((fb_sm (fun k2 => pc 30 (op (gsA a k w) k2)) (gsA a k w 3) : Nat) : Int)) : SC m_S_leftAfter [some (eI x), some (eI y)] a X (a) (X) v := by
  intro V d ot C h81
  have C8 := C
  obtain ⟨⟨S, w1, w2, w3, w4⟩, c2, c3, c4, c5⟩ := C
  have cc3 := c3
  obtain ⟨wd9, f9, q9, hN9, hC9, nx9, ⟨h66, h67, h68⟩, hb9⟩ := cc3
  have cc5 := c5
  obtain ⟨P, oY, o1, o69, o7⟩ := cc5
  have hI := w3
  have hI8 := hI
  obtain ⟨hG, ⟨v1, v2⟩, hO, hT, hM⟩ := hI8
  obtain ⟨⟨g1, g2, g3, g4, g5⟩, g6⟩ := hG
  have b5 := iT_24 g5 hT
  have gs : ev m_S_requireSlot 0 [some (eR 1), some (eI x)] [] (V, d) = some (.inl none, (V, d)) := yLift (V := V) (d := d) (y_slot (P := P) (ot := ot) (c := (0, 0)) w2 hI hx h1) o1 h81 w1 rfl rfl
  have gw : ev m_S_requireWord 0 [some (eR 1), some (eI y)] [] (V, d) = some (.inl none, (V, d)) := yLift (V := V) (d := d) (y_word (P := P) (ot := ot) (c := (0, 0)) w2 hI hy h2) o1 h81 w1 rfl rfl
  have hr := winV (d := d) (c_refusal (c := (0, 0)) (o := op a) hx hy (by omega) w2.2.2.2 hM.1 (w2.2.2.1.2.1 k h1) (hO k h1).1 (by omega)) w1 inj_bC rfl rfl rfl
  rw [h0] at hr
  have hr : _ = some (Sum.inl (some (eI 0)), _) := hr
  obtain ⟨u1, u2, u3⟩ := rfs_0 h0
  have hgt := pc_gt (hO k h1).1 u2 u3
  obtain ⟨S0, w0⟩ := c2
  obtain ⟨V1, S1, tc1, tc2, tc3, tc4⟩ := t_cp (d := d) w1 w2 hI ⟨S0, w0⟩
  have o11 := (tc4.2 1 (nin_bTr (by omega))).trans o1
  obtain ⟨S2, hA2, q2⟩ := c_putGuess (c := (0, 0)) tc3 hI hx hy h1 hgt u2
  obtain ⟨V2, p1, p2, p3⟩ := winR (d := d) q2 tc2 inj_bTr rfl rfl rfl
  have s2 := sb_tr tc4 p3
  have C2 := CI_tr C8 p2 s2
  have o12 := (s2.2 1 (nin_bTr (by omega))).trans o1
  have m02 : S2 0 3 = _ := hA2.2.2.2
  have tg : ev m_S_tryGuess 0 [some (eR 1), some (eI x), some (eI y)] [] (V, d) = some (.inl none, (V2, d)) := by
      refine rEq1 ?_
      refine rOf (fun R9 hR9 => xGetV (N := 2) (M2 := m_S_tryGuess) (pc2 := 1) (r := 1) (ls2 := [some (eR 1), some (eI x), some (eI y)]) (st2 := []) (V := V) (d := d) (v := eR 46) rfl o1 rfl hR9) ?_
      refine rOf (fun R9 hR9 => xGetV (N := 2) (M2 := m_S_tryGuess) (pc2 := 5) (r := 1) (ls2 := [some (eR 1), some (eI x), some (eI y)]) (st2 := [eR 46]) (V := V) (d := d) (v := eR 26) rfl o1 rfl hR9) ?_
      refine rOf (fun R9 hR9 => xCallA0 (N := 1) (M2 := m_S_tryGuess) (pc2 := 8) (y := m_W_copyFrom) (n := 2) (ls2 := [some (eR 1), some (eI x), some (eI y)]) (st2 := []) (st9 := [eR 26, eR 46]) (V := V) (d := d) (r := 46) (bs := [eR 26]) rfl rfl (winAt_obj w0) rfl tc1 hR9) ?_
      refine rOf (fun R9 hR9 => xGetV (N := 2) (M2 := m_S_tryGuess) (pc2 := 12) (r := 1) (ls2 := [some (eR 1), some (eI x), some (eI y)]) (st2 := []) (V := V1) (d := d) (v := eR 46) rfl o11 rfl hR9) ?_
      refine rOf (fun R9 hR9 => xCallA0 (N := 3) (M2 := m_S_tryGuess) (pc2 := 17) (y := m_W_putGuess) (n := 3) (ls2 := [some (eR 1), some (eI x), some (eI y)]) (st2 := []) (st9 := [eI y, eI x, eR 46]) (V := V1) (d := d) (r := 46) (bs := [eI x, eI y]) rfl rfl (winAt_obj tc2) rfl p1 hR9) ?_
      refine rOf (fun R9 hR9 => xSeg (N := 1) (r := some (.inl none, (V2, d))) rfl hR9) ?_
      exact rEnd rfl
  have hI9 := iA_gs hI h1 hgt u2
  obtain ⟨hG9, hV9, hO9, hT9, hM9⟩ := hI9
  have cc := winV (d := d) (c_countCandidates (c := (0, 0)) (o := op (gsA a k w)) hA2.1.1.1.2.2 hG9.1.2.2.2.2 (fun k2 hk2 => ⟨hA2.2.2.1.2.1 k2 hk2, (hO9 k2 hk2).1⟩)) p2 inj_bTr rfl rfl rfl
  obtain ⟨b9, hb9⟩ : ∃ b9 : Int, b9 = ((fb_sm (fun k2 => pc 30 (op (gsA a k w) k2)) (gsA a k w 3) : Nat) : Int) := ⟨_, rfl⟩
  rw [← hb9] at cc
  refine rSC ?_
  refine rOf (fun R9 hR9 => xCallA0 (N := 3) (M2 := m_S_leftAfter) (pc2 := 2) (y := m_S_requireSlot) (n := 2) (ls2 := [some (eR 1), some (eI x), some (eI y)]) (st2 := []) (st9 := [eI x, eR 1]) (V := V) (d := d) (r := 1) (bs := [eI x]) rfl rfl o1 rfl gs hR9) ?_
  refine rOf (fun R9 hR9 => xCallA0 (N := 3) (M2 := m_S_leftAfter) (pc2 := 7) (y := m_S_requireWord) (n := 2) (ls2 := [some (eR 1), some (eI x), some (eI y)]) (st2 := []) (st9 := [eI y, eR 1]) (V := V) (d := d) (r := 1) (bs := [eI y]) rfl rfl o1 rfl gw hR9) ?_
  refine rOf (fun R9 hR9 => xGetV (N := 2) (M2 := m_S_leftAfter) (pc2 := 11) (r := 1) (ls2 := [some (eR 1), some (eI x), some (eI y)]) (st2 := []) (V := V) (d := d) (v := eR 26) rfl o1 rfl hR9) ?_
  refine rOf (fun R9 hR9 => xCallA1 (N := 3) (M2 := m_S_leftAfter) (pc2 := 16) (y := m_W_refusal) (n := 3) (ls2 := [some (eR 1), some (eI x), some (eI y)]) (st2 := []) (st9 := [eI y, eI x, eR 26]) (V := V) (d := d) (r := 26) (bs := [eI x, eI y]) rfl rfl (winAt_obj w1) rfl hr hR9) ?_
  refine rOf (fun R9 hR9 => xEqT (N := 1) (x := 0) (y := 0) (A := ev m_S_leftAfter 24 [some (eR 1), some (eI x), some (eI y)] [] (V, d)) (B := ev m_S_leftAfter 22 [some (eR 1), some (eI x), some (eI y)] [] (V, d)) rfl (show wr 0 = 0 by decide) (show wr 0 = 0 by decide) (by decide) hR9) ?_
  refine rOf (fun R9 hR9 => xCallA0 (N := 4) (M2 := m_S_leftAfter) (pc2 := 27) (y := m_S_tryGuess) (n := 3) (ls2 := [some (eR 1), some (eI x), some (eI y)]) (st2 := []) (st9 := [eI y, eI x, eR 1]) (V := V) (d := d) (r := 1) (bs := [eI x, eI y]) rfl rfl o1 rfl tg hR9) ?_
  refine rOf (fun R9 hR9 => xGetV (N := 2) (M2 := m_S_leftAfter) (pc2 := 31) (r := 1) (ls2 := [some (eR 1), some (eI x), some (eI y)]) (st2 := []) (V := V2) (d := d) (v := eR 46) rfl o12 rfl hR9) ?_
  refine rOf (fun R9 hR9 => xCallA1 (N := 1) (M2 := m_S_leftAfter) (pc2 := 34) (y := m_W_countCandidates) (n := 1) (ls2 := [some (eR 1), some (eI x), some (eI y)]) (st2 := []) (st9 := [eR 46]) (V := V2) (d := d) (r := 46) (bs := []) rfl rfl (winAt_obj p2) rfl cc hR9) ?_
  refine rOf (fun R9 hR9 => xSeg (N := 1) (r := some (.inl (some (eI b9)), (V2, d))) rfl hR9) ?_
  exact rEnd ⟨V2, d, by rw [hv, ← hb9], C2, (s2.2 81 (nin_bTr (by omega))).trans h81, ⟨Nat.le_of_eq s2.1.symm, fun k hk => s2.2 k (nin_bTr (by omega))⟩, by omega, by omega⟩
theorem sc_leftAfterN {a : eRow} {X : xT} {x y : Int} {v : Int} {k w : Nat} (hx : x = (k : Int)) (h1 : k < a 3) (hy : y = (w : Int)) (h2 : w < a 2) (h0 : rfs (a 4) ((op a k).testBit w) (decide (pc 30 (op a k) = 1)) ≠ 0) (hv : v = -1) : SC m_S_leftAfter [some (eI x), some (eI y)] a X (a) (X) v := by
  intro V d ot C h81
  have C8 := C
  obtain ⟨⟨S, w1, w2, w3, w4⟩, c2, c3, c4, c5⟩ := C
  have cc3 := c3
  obtain ⟨wd9, f9, q9, hN9, hC9, nx9, ⟨h66, h67, h68⟩, hb9⟩ := cc3
  have cc5 := c5
  obtain ⟨P, oY, o1, o69, o7⟩ := cc5
  have hI := w3
  have hI8 := hI
  obtain ⟨hG, ⟨v1, v2⟩, hO, hT, hM⟩ := hI8
  obtain ⟨⟨g1, g2, g3, g4, g5⟩, g6⟩ := hG
  have b5 := iT_24 g5 hT
  have gs : ev m_S_requireSlot 0 [some (eR 1), some (eI x)] [] (V, d) = some (.inl none, (V, d)) := yLift (V := V) (d := d) (y_slot (P := P) (ot := ot) (c := (0, 0)) w2 hI hx h1) o1 h81 w1 rfl rfl
  have gw : ev m_S_requireWord 0 [some (eR 1), some (eI y)] [] (V, d) = some (.inl none, (V, d)) := yLift (V := V) (d := d) (y_word (P := P) (ot := ot) (c := (0, 0)) w2 hI hy h2) o1 h81 w1 rfl rfl
  have hr := winV (d := d) (c_refusal (c := (0, 0)) (o := op a) hx hy (by omega) w2.2.2.2 hM.1 (w2.2.2.1.2.1 k h1) (hO k h1).1 (by omega)) w1 inj_bC rfl rfl rfl
  obtain ⟨z9, hz9⟩ : ∃ z9 : Int, z9 = ((rfs (a 4) ((op a k).testBit w) (decide (pc 30 (op a k) = 1)) : Nat) : Int) := ⟨_, rfl⟩
  rw [← hz9] at hr
  have hz3 := rfs_3 (md := a 4) (b := (op a k).testBit w) (s := decide (pc 30 (op a k) = 1))
  refine rSC ?_
  refine rOf (fun R9 hR9 => xCallA0 (N := 3) (M2 := m_S_leftAfter) (pc2 := 2) (y := m_S_requireSlot) (n := 2) (ls2 := [some (eR 1), some (eI x), some (eI y)]) (st2 := []) (st9 := [eI x, eR 1]) (V := V) (d := d) (r := 1) (bs := [eI x]) rfl rfl o1 rfl gs hR9) ?_
  refine rOf (fun R9 hR9 => xCallA0 (N := 3) (M2 := m_S_leftAfter) (pc2 := 7) (y := m_S_requireWord) (n := 2) (ls2 := [some (eR 1), some (eI x), some (eI y)]) (st2 := []) (st9 := [eI y, eR 1]) (V := V) (d := d) (r := 1) (bs := [eI y]) rfl rfl o1 rfl gw hR9) ?_
  refine rOf (fun R9 hR9 => xGetV (N := 2) (M2 := m_S_leftAfter) (pc2 := 11) (r := 1) (ls2 := [some (eR 1), some (eI x), some (eI y)]) (st2 := []) (V := V) (d := d) (v := eR 26) rfl o1 rfl hR9) ?_
  refine rOf (fun R9 hR9 => xCallA1 (N := 3) (M2 := m_S_leftAfter) (pc2 := 16) (y := m_W_refusal) (n := 3) (ls2 := [some (eR 1), some (eI x), some (eI y)]) (st2 := []) (st9 := [eI y, eI x, eR 26]) (V := V) (d := d) (r := 26) (bs := [eI x, eI y]) rfl rfl (winAt_obj w1) rfl hr hR9) ?_
  refine rOf (fun R9 hR9 => xEqF (N := 1) (x := z9) (y := 0) (A := ev m_S_leftAfter 24 [some (eR 1), some (eI x), some (eI y)] [] (V, d)) (B := ev m_S_leftAfter 22 [some (eR 1), some (eI x), some (eI y)] [] (V, d)) rfl (wr_id (by omega) (by omega)) (show wr 0 = 0 by decide) (by omega) hR9) ?_
  refine rOf (fun R9 hR9 => xSeg (N := 2) (r := some (.inl (some (eI (-1))), (V, d))) rfl hR9) ?_
  exact rEnd ⟨V, d, by rw [hv], C8, h81, ⟨Nat.le_refl _, fun _ _ => rfl⟩, by omega, by omega⟩
theorem sc_leftAfterX {a : eRow} {X : xT} {x y : Int} (bx : -2147483648 ≤ x ∧ x < 2147483648) (hh : ¬ (0 ≤ x ∧ x < (a 3 : Int))) : SX m_S_leftAfter [some (eI x), some (eI y)] a X (X) 2 := by
  intro V d ot C h81
  have C8 := C
  obtain ⟨⟨S, w1, w2, w3, w4⟩, c2, c3, c4, c5⟩ := C
  have cc3 := c3
  obtain ⟨wd9, f9, q9, hN9, hC9, nx9, ⟨h66, h67, h68⟩, hb9⟩ := cc3
  have cc5 := c5
  obtain ⟨P, oY, o1, o69, o7⟩ := cc5
  have hI := w3
  have hI8 := hI
  obtain ⟨hG, ⟨v1, v2⟩, hO, hT, hM⟩ := hI8
  obtain ⟨⟨g1, g2, g3, g4, g5⟩, g6⟩ := hG
  have b5 := iT_24 g5 hT
  have gs : ev m_S_requireSlot 0 [some (eR 1), some (eI x)] [] (V, d) = some (.inr 2, (V, (d.1 + 1, d.2 + 6))) := (yLift (V := V) (d := d) (y_slotX (P := P) (ot := ot) (c := (0, 0)) w2 hI bx hh) o1 h81 w1 rfl rfl).trans (by rw [Nat.zero_add, Nat.zero_add])
  refine rSX ?_
  refine rOf (fun R9 hR9 => xCallAE (N := 3) (M2 := m_S_leftAfter) (pc2 := 2) (y := m_S_requireSlot) (n := 2) (ls2 := [some (eR 1), some (eI x), some (eI y)]) (st2 := []) (st9 := [eI x, eR 1]) (V := V) (d := d) (r := 1) (bs := [eI x]) (E := 2) rfl rfl o1 rfl gs rfl hR9) ?_
  exact rEnd ⟨V, (d.1 + 1, d.2 + 6), rfl, C8, h81, ⟨Nat.le_refl _, fun _ _ => rfl⟩, by dsimp only; omega, by dsimp only; omega⟩
theorem sc_leftAfterY {a : eRow} {X : xT} {x y : Int} {k : Nat} (hx : x = (k : Int)) (h1 : k < a 3) (by_ : -2147483648 ≤ y ∧ y < 2147483648) (hh : ¬ (0 ≤ y ∧ y < (a 2 : Int))) : SX m_S_leftAfter [some (eI x), some (eI y)] a X (X) 2 := by
  intro V d ot C h81
  have C8 := C
  obtain ⟨⟨S, w1, w2, w3, w4⟩, c2, c3, c4, c5⟩ := C
  have cc3 := c3
  obtain ⟨wd9, f9, q9, hN9, hC9, nx9, ⟨h66, h67, h68⟩, hb9⟩ := cc3
  have cc5 := c5
  obtain ⟨P, oY, o1, o69, o7⟩ := cc5
  have hI := w3
  have hI8 := hI
  obtain ⟨hG, ⟨v1, v2⟩, hO, hT, hM⟩ := hI8
  obtain ⟨⟨g1, g2, g3, g4, g5⟩, g6⟩ := hG
  have b5 := iT_24 g5 hT
  have gs : ev m_S_requireSlot 0 [some (eR 1), some (eI x)] [] (V, d) = some (.inl none, (V, d)) := yLift (V := V) (d := d) (y_slot (P := P) (ot := ot) (c := (0, 0)) w2 hI hx h1) o1 h81 w1 rfl rfl
  have gw : ev m_S_requireWord 0 [some (eR 1), some (eI y)] [] (V, d) = some (.inr 2, (V, (d.1 + 1, d.2 + 6))) := (yLift (V := V) (d := d) (y_wordX (P := P) (ot := ot) (c := (0, 0)) w2 hI by_ hh) o1 h81 w1 rfl rfl).trans (by rw [Nat.zero_add, Nat.zero_add])
  refine rSX ?_
  refine rOf (fun R9 hR9 => xCallA0 (N := 3) (M2 := m_S_leftAfter) (pc2 := 2) (y := m_S_requireSlot) (n := 2) (ls2 := [some (eR 1), some (eI x), some (eI y)]) (st2 := []) (st9 := [eI x, eR 1]) (V := V) (d := d) (r := 1) (bs := [eI x]) rfl rfl o1 rfl gs hR9) ?_
  refine rOf (fun R9 hR9 => xCallAE (N := 3) (M2 := m_S_leftAfter) (pc2 := 7) (y := m_S_requireWord) (n := 2) (ls2 := [some (eR 1), some (eI x), some (eI y)]) (st2 := []) (st9 := [eI y, eR 1]) (V := V) (d := d) (r := 1) (bs := [eI y]) (E := 2) rfl rfl o1 rfl gw rfl hR9) ?_
  exact rEnd ⟨V, (d.1 + 1, d.2 + 6), rfl, C8, h81, ⟨Nat.le_refl _, fun _ _ => rfl⟩, by dsimp only; omega, by dsimp only; omega⟩
theorem kl_leftAfter {a a' : eRow} {X X' : xT} {x y v : Int} (h : SC m_S_leftAfter [some (eI x), some (eI y)] a X a' X' v) : KL m_L_leftAfter [some (eI x), some (eI y)] a X a' X' 0 v := by
  intro V d ot C h81
  obtain ⟨P1, h1⟩ := CI_1 C
  refine rKL ?_
  obtain ⟨V2, d2, q2, C2, o2, fr2, dd1, dd2⟩ := h V d ot C h81
  obtain ⟨P2, h12⟩ := CI_1 C2
  refine rOf (fun R9 hR9 => xCallA1 (N := 6) (M2 := m_L_leftAfter) (pc2 := 5) (y := m_S_leftAfter) (n := 3) (ls2 := [some (eR 1), some (eI x), some (eI y), some (eR 81)]) (st2 := [eI 0, eR 81]) (st9 := [eI y, eI x, eR 1, eI 0, eR 81]) (V := V) (d := d) (r := 1) (bs := [eI x, eI y]) rfl rfl h1 rfl q2 hR9) ?_
  refine rStV (N := 2) (M2 := m_L_leftAfter) (pc2 := 9) (r := 81) (ls2 := [some (eR 1), some (eI x), some (eI y), some (eR 81)]) (st2 := []) (V := V2) (d := d2) (i := 0) (v := wr v) (k := 0) (ok := eOkJ) rfl o2 rfl (show wr 0 = ((0 : Nat) : Int) by decide) (by omega) (fun V101 sV101 eV101 => ?_)
  refine rOf (fun R9 hR9 => xSeg (N := 3) (r := some (.inl (some (eI 0)), (V101, d2))) rfl hR9) ?_
  exact rEnd ⟨V101, _, d2, rfl, CI_81 C2 sV101, eV101, fun _ => by rw [eUp_at], frC_81 fr2 sV101, by unfold dl; omega⟩
theorem kl_leftAfterX {a : eRow} {X X' : xT} {x y v : Int} (h : SX m_S_leftAfter [some (eI x), some (eI y)] a X X' 2) : KL m_L_leftAfter [some (eI x), some (eI y)] a X a X' 1 v := by
  intro V d ot C h81
  obtain ⟨P1, h1⟩ := CI_1 C
  refine rKL ?_
  obtain ⟨V2, d2, q2, C2, o2, fr2, dd1, dd2⟩ := h V d ot C h81
  obtain ⟨P2, h12⟩ := CI_1 C2
  refine rOf (fun R9 hR9 => xCallAC (N := 6) (M2 := m_L_leftAfter) (pc2 := 5) (y := m_S_leftAfter) (n := 3) (ls2 := [some (eR 1), some (eI x), some (eI y), some (eR 81)]) (st2 := [eI 0, eR 81]) (st9 := [eI y, eI x, eR 1, eI 0, eR 81]) (V := V) (d := d) (r := 1) (bs := [eI x, eI y]) (E := 2) (p := 15) rfl rfl h1 rfl q2 (by rfl) hR9) ?_
  refine rOf (fun R9 hR9 => xSeg (N := 2) (r := some (.inl (some (eI 1)), (V2, d2))) rfl hR9) ?_
  exact rEnd ⟨V2, ot, d2, rfl, C2, o2, fun h => absurd h (by decide), fr2, by unfold dl; omega⟩
theorem sc_wouldStick1 {a : eRow} {X : xT} {x y : Int} {v : Int} {k w : Nat} (hx : x = (k : Int)) (h1 : k < a 3) (hy : y = (w : Int)) (h2 : w < a 2) (h0 : rfs (a 4) ((op a k).testBit w) (decide (pc 30 (op a k) = 1)) = 0) (h4 : gsA a k w 4 = 2) (hv : v = 1) : SC m_S_wouldStick [some (eI x), some (eI y)] a X (a) (X) v := by
  intro V d ot C h81
  have C8 := C
  obtain ⟨⟨S, w1, w2, w3, w4⟩, c2, c3, c4, c5⟩ := C
  have cc3 := c3
  obtain ⟨wd9, f9, q9, hN9, hC9, nx9, ⟨h66, h67, h68⟩, hb9⟩ := cc3
  have cc5 := c5
  obtain ⟨P, oY, o1, o69, o7⟩ := cc5
  have hI := w3
  have hI8 := hI
  obtain ⟨hG, ⟨v1, v2⟩, hO, hT, hM⟩ := hI8
  obtain ⟨⟨g1, g2, g3, g4, g5⟩, g6⟩ := hG
  have b5 := iT_24 g5 hT
  have gs : ev m_S_requireSlot 0 [some (eR 1), some (eI x)] [] (V, d) = some (.inl none, (V, d)) := yLift (V := V) (d := d) (y_slot (P := P) (ot := ot) (c := (0, 0)) w2 hI hx h1) o1 h81 w1 rfl rfl
  have gw : ev m_S_requireWord 0 [some (eR 1), some (eI y)] [] (V, d) = some (.inl none, (V, d)) := yLift (V := V) (d := d) (y_word (P := P) (ot := ot) (c := (0, 0)) w2 hI hy h2) o1 h81 w1 rfl rfl
  have hr := winV (d := d) (c_refusal (c := (0, 0)) (o := op a) hx hy (by omega) w2.2.2.2 hM.1 (w2.2.2.1.2.1 k h1) (hO k h1).1 (by omega)) w1 inj_bC rfl rfl rfl
  rw [h0] at hr
  have hr : _ = some (Sum.inl (some (eI 0)), _) := hr
  obtain ⟨u1, u2, u3⟩ := rfs_0 h0
  have hgt := pc_gt (hO k h1).1 u2 u3
  obtain ⟨S0, w0⟩ := c2
  obtain ⟨V1, S1, tc1, tc2, tc3, tc4⟩ := t_cp (d := d) w1 w2 hI ⟨S0, w0⟩
  have o11 := (tc4.2 1 (nin_bTr (by omega))).trans o1
  obtain ⟨S2, hA2, q2⟩ := c_putGuess (c := (0, 0)) tc3 hI hx hy h1 hgt u2
  obtain ⟨V2, p1, p2, p3⟩ := winR (d := d) q2 tc2 inj_bTr rfl rfl rfl
  have s2 := sb_tr tc4 p3
  have C2 := CI_tr C8 p2 s2
  have o12 := (s2.2 1 (nin_bTr (by omega))).trans o1
  have m02 : S2 0 3 = _ := hA2.2.2.2
  have tg : ev m_S_tryGuess 0 [some (eR 1), some (eI x), some (eI y)] [] (V, d) = some (.inl none, (V2, d)) := by
      refine rEq1 ?_
      refine rOf (fun R9 hR9 => xGetV (N := 2) (M2 := m_S_tryGuess) (pc2 := 1) (r := 1) (ls2 := [some (eR 1), some (eI x), some (eI y)]) (st2 := []) (V := V) (d := d) (v := eR 46) rfl o1 rfl hR9) ?_
      refine rOf (fun R9 hR9 => xGetV (N := 2) (M2 := m_S_tryGuess) (pc2 := 5) (r := 1) (ls2 := [some (eR 1), some (eI x), some (eI y)]) (st2 := [eR 46]) (V := V) (d := d) (v := eR 26) rfl o1 rfl hR9) ?_
      refine rOf (fun R9 hR9 => xCallA0 (N := 1) (M2 := m_S_tryGuess) (pc2 := 8) (y := m_W_copyFrom) (n := 2) (ls2 := [some (eR 1), some (eI x), some (eI y)]) (st2 := []) (st9 := [eR 26, eR 46]) (V := V) (d := d) (r := 46) (bs := [eR 26]) rfl rfl (winAt_obj w0) rfl tc1 hR9) ?_
      refine rOf (fun R9 hR9 => xGetV (N := 2) (M2 := m_S_tryGuess) (pc2 := 12) (r := 1) (ls2 := [some (eR 1), some (eI x), some (eI y)]) (st2 := []) (V := V1) (d := d) (v := eR 46) rfl o11 rfl hR9) ?_
      refine rOf (fun R9 hR9 => xCallA0 (N := 3) (M2 := m_S_tryGuess) (pc2 := 17) (y := m_W_putGuess) (n := 3) (ls2 := [some (eR 1), some (eI x), some (eI y)]) (st2 := []) (st9 := [eI y, eI x, eR 46]) (V := V1) (d := d) (r := 46) (bs := [eI x, eI y]) rfl rfl (winAt_obj tc2) rfl p1 hR9) ?_
      refine rOf (fun R9 hR9 => xSeg (N := 1) (r := some (.inl none, (V2, d))) rfl hR9) ?_
      exact rEnd rfl
  have hI9 := iA_gs hI h1 hgt u2
  obtain ⟨hG9, hV9, hO9, hT9, hM9⟩ := hI9
  have m49 := hM9.1
  refine rSC ?_
  refine rOf (fun R9 hR9 => xCallA0 (N := 3) (M2 := m_S_wouldStick) (pc2 := 2) (y := m_S_requireSlot) (n := 2) (ls2 := [some (eR 1), some (eI x), some (eI y)]) (st2 := []) (st9 := [eI x, eR 1]) (V := V) (d := d) (r := 1) (bs := [eI x]) rfl rfl o1 rfl gs hR9) ?_
  refine rOf (fun R9 hR9 => xCallA0 (N := 3) (M2 := m_S_wouldStick) (pc2 := 7) (y := m_S_requireWord) (n := 2) (ls2 := [some (eR 1), some (eI x), some (eI y)]) (st2 := []) (st9 := [eI y, eR 1]) (V := V) (d := d) (r := 1) (bs := [eI y]) rfl rfl o1 rfl gw hR9) ?_
  refine rOf (fun R9 hR9 => xGetV (N := 2) (M2 := m_S_wouldStick) (pc2 := 11) (r := 1) (ls2 := [some (eR 1), some (eI x), some (eI y)]) (st2 := []) (V := V) (d := d) (v := eR 26) rfl o1 rfl hR9) ?_
  refine rOf (fun R9 hR9 => xCallA1 (N := 3) (M2 := m_S_wouldStick) (pc2 := 16) (y := m_W_refusal) (n := 3) (ls2 := [some (eR 1), some (eI x), some (eI y)]) (st2 := []) (st9 := [eI y, eI x, eR 26]) (V := V) (d := d) (r := 26) (bs := [eI x, eI y]) rfl rfl (winAt_obj w1) rfl hr hR9) ?_
  refine rOf (fun R9 hR9 => xEqT (N := 1) (x := 0) (y := 0) (A := ev m_S_wouldStick 24 [some (eR 1), some (eI x), some (eI y)] [] (V, d)) (B := ev m_S_wouldStick 22 [some (eR 1), some (eI x), some (eI y)] [] (V, d)) rfl (show wr 0 = 0 by decide) (show wr 0 = 0 by decide) (by decide) hR9) ?_
  refine rOf (fun R9 hR9 => xCallA0 (N := 4) (M2 := m_S_wouldStick) (pc2 := 27) (y := m_S_tryGuess) (n := 3) (ls2 := [some (eR 1), some (eI x), some (eI y)]) (st2 := []) (st9 := [eI y, eI x, eR 1]) (V := V) (d := d) (r := 1) (bs := [eI x, eI y]) rfl rfl o1 rfl tg hR9) ?_
  refine rOf (fun R9 hR9 => xGetV (N := 2) (M2 := m_S_wouldStick) (pc2 := 31) (r := 1) (ls2 := [some (eR 1), some (eI x), some (eI y)]) (st2 := []) (V := V2) (d := d) (v := eR 46) rfl o12 rfl hR9) ?_
  refine rOf (fun R9 hR9 => xGetV (N := 1) (M2 := m_S_wouldStick) (pc2 := 34) (r := 46) (ls2 := [some (eR 1), some (eI x), some (eI y)]) (st2 := []) (V := V2) (d := d) (v := eI (S2 0 3)) rfl (winAt_obj p2) rfl hR9) ?_
  refine rOf (fun R9 hR9 => xEqT (N := 2) (x := (S2 0 3)) (y := 2) (A := ev m_S_wouldStick 41 [some (eR 1), some (eI x), some (eI y)] [] (V2, d)) (B := ev m_S_wouldStick 45 [some (eR 1), some (eI x), some (eI y)] [] (V2, d)) rfl (wr_id (by omega) (by omega)) (show wr 2 = 2 by decide) (by omega) hR9) ?_
  refine rOf (fun R9 hR9 => xRb (N := 3) (v := 1) (w2 := (V2, d)) rfl (by decide) hR9) ?_
  exact rEnd ⟨V2, d, by rw [hv], C2, (s2.2 81 (nin_bTr (by omega))).trans h81, ⟨Nat.le_of_eq s2.1.symm, fun k hk => s2.2 k (nin_bTr (by omega))⟩, by omega, by omega⟩
theorem sc_wouldStick0 {a : eRow} {X : xT} {x y : Int} {v : Int} {k w : Nat} (hx : x = (k : Int)) (h1 : k < a 3) (hy : y = (w : Int)) (h2 : w < a 2) (h0 : rfs (a 4) ((op a k).testBit w) (decide (pc 30 (op a k) = 1)) = 0) (h4 : gsA a k w 4 ≠ 2) (hv : v = 0) : SC m_S_wouldStick [some (eI x), some (eI y)] a X (a) (X) v := by
  intro V d ot C h81
  have C8 := C
  obtain ⟨⟨S, w1, w2, w3, w4⟩, c2, c3, c4, c5⟩ := C
  have cc3 := c3
  obtain ⟨wd9, f9, q9, hN9, hC9, nx9, ⟨h66, h67, h68⟩, hb9⟩ := cc3
  have cc5 := c5
  obtain ⟨P, oY, o1, o69, o7⟩ := cc5
  have hI := w3
  have hI8 := hI
  obtain ⟨hG, ⟨v1, v2⟩, hO, hT, hM⟩ := hI8
  obtain ⟨⟨g1, g2, g3, g4, g5⟩, g6⟩ := hG
  have b5 := iT_24 g5 hT
  have gs : ev m_S_requireSlot 0 [some (eR 1), some (eI x)] [] (V, d) = some (.inl none, (V, d)) := yLift (V := V) (d := d) (y_slot (P := P) (ot := ot) (c := (0, 0)) w2 hI hx h1) o1 h81 w1 rfl rfl
  have gw : ev m_S_requireWord 0 [some (eR 1), some (eI y)] [] (V, d) = some (.inl none, (V, d)) := yLift (V := V) (d := d) (y_word (P := P) (ot := ot) (c := (0, 0)) w2 hI hy h2) o1 h81 w1 rfl rfl
  have hr := winV (d := d) (c_refusal (c := (0, 0)) (o := op a) hx hy (by omega) w2.2.2.2 hM.1 (w2.2.2.1.2.1 k h1) (hO k h1).1 (by omega)) w1 inj_bC rfl rfl rfl
  rw [h0] at hr
  have hr : _ = some (Sum.inl (some (eI 0)), _) := hr
  obtain ⟨u1, u2, u3⟩ := rfs_0 h0
  have hgt := pc_gt (hO k h1).1 u2 u3
  obtain ⟨S0, w0⟩ := c2
  obtain ⟨V1, S1, tc1, tc2, tc3, tc4⟩ := t_cp (d := d) w1 w2 hI ⟨S0, w0⟩
  have o11 := (tc4.2 1 (nin_bTr (by omega))).trans o1
  obtain ⟨S2, hA2, q2⟩ := c_putGuess (c := (0, 0)) tc3 hI hx hy h1 hgt u2
  obtain ⟨V2, p1, p2, p3⟩ := winR (d := d) q2 tc2 inj_bTr rfl rfl rfl
  have s2 := sb_tr tc4 p3
  have C2 := CI_tr C8 p2 s2
  have o12 := (s2.2 1 (nin_bTr (by omega))).trans o1
  have m02 : S2 0 3 = _ := hA2.2.2.2
  have tg : ev m_S_tryGuess 0 [some (eR 1), some (eI x), some (eI y)] [] (V, d) = some (.inl none, (V2, d)) := by
      refine rEq1 ?_
      refine rOf (fun R9 hR9 => xGetV (N := 2) (M2 := m_S_tryGuess) (pc2 := 1) (r := 1) (ls2 := [some (eR 1), some (eI x), some (eI y)]) (st2 := []) (V := V) (d := d) (v := eR 46) rfl o1 rfl hR9) ?_
      refine rOf (fun R9 hR9 => xGetV (N := 2) (M2 := m_S_tryGuess) (pc2 := 5) (r := 1) (ls2 := [some (eR 1), some (eI x), some (eI y)]) (st2 := [eR 46]) (V := V) (d := d) (v := eR 26) rfl o1 rfl hR9) ?_
      refine rOf (fun R9 hR9 => xCallA0 (N := 1) (M2 := m_S_tryGuess) (pc2 := 8) (y := m_W_copyFrom) (n := 2) (ls2 := [some (eR 1), some (eI x), some (eI y)]) (st2 := []) (st9 := [eR 26, eR 46]) (V := V) (d := d) (r := 46) (bs := [eR 26]) rfl rfl (winAt_obj w0) rfl tc1 hR9) ?_
      refine rOf (fun R9 hR9 => xGetV (N := 2) (M2 := m_S_tryGuess) (pc2 := 12) (r := 1) (ls2 := [some (eR 1), some (eI x), some (eI y)]) (st2 := []) (V := V1) (d := d) (v := eR 46) rfl o11 rfl hR9) ?_
      refine rOf (fun R9 hR9 => xCallA0 (N := 3) (M2 := m_S_tryGuess) (pc2 := 17) (y := m_W_putGuess) (n := 3) (ls2 := [some (eR 1), some (eI x), some (eI y)]) (st2 := []) (st9 := [eI y, eI x, eR 46]) (V := V1) (d := d) (r := 46) (bs := [eI x, eI y]) rfl rfl (winAt_obj tc2) rfl p1 hR9) ?_
      refine rOf (fun R9 hR9 => xSeg (N := 1) (r := some (.inl none, (V2, d))) rfl hR9) ?_
      exact rEnd rfl
  have hI9 := iA_gs hI h1 hgt u2
  obtain ⟨hG9, hV9, hO9, hT9, hM9⟩ := hI9
  have m49 := hM9.1
  refine rSC ?_
  refine rOf (fun R9 hR9 => xCallA0 (N := 3) (M2 := m_S_wouldStick) (pc2 := 2) (y := m_S_requireSlot) (n := 2) (ls2 := [some (eR 1), some (eI x), some (eI y)]) (st2 := []) (st9 := [eI x, eR 1]) (V := V) (d := d) (r := 1) (bs := [eI x]) rfl rfl o1 rfl gs hR9) ?_
  refine rOf (fun R9 hR9 => xCallA0 (N := 3) (M2 := m_S_wouldStick) (pc2 := 7) (y := m_S_requireWord) (n := 2) (ls2 := [some (eR 1), some (eI x), some (eI y)]) (st2 := []) (st9 := [eI y, eR 1]) (V := V) (d := d) (r := 1) (bs := [eI y]) rfl rfl o1 rfl gw hR9) ?_
  refine rOf (fun R9 hR9 => xGetV (N := 2) (M2 := m_S_wouldStick) (pc2 := 11) (r := 1) (ls2 := [some (eR 1), some (eI x), some (eI y)]) (st2 := []) (V := V) (d := d) (v := eR 26) rfl o1 rfl hR9) ?_
  refine rOf (fun R9 hR9 => xCallA1 (N := 3) (M2 := m_S_wouldStick) (pc2 := 16) (y := m_W_refusal) (n := 3) (ls2 := [some (eR 1), some (eI x), some (eI y)]) (st2 := []) (st9 := [eI y, eI x, eR 26]) (V := V) (d := d) (r := 26) (bs := [eI x, eI y]) rfl rfl (winAt_obj w1) rfl hr hR9) ?_
  refine rOf (fun R9 hR9 => xEqT (N := 1) (x := 0) (y := 0) (A := ev m_S_wouldStick 24 [some (eR 1), some (eI x), some (eI y)] [] (V, d)) (B := ev m_S_wouldStick 22 [some (eR 1), some (eI x), some (eI y)] [] (V, d)) rfl (show wr 0 = 0 by decide) (show wr 0 = 0 by decide) (by decide) hR9) ?_
  refine rOf (fun R9 hR9 => xCallA0 (N := 4) (M2 := m_S_wouldStick) (pc2 := 27) (y := m_S_tryGuess) (n := 3) (ls2 := [some (eR 1), some (eI x), some (eI y)]) (st2 := []) (st9 := [eI y, eI x, eR 1]) (V := V) (d := d) (r := 1) (bs := [eI x, eI y]) rfl rfl o1 rfl tg hR9) ?_
  refine rOf (fun R9 hR9 => xGetV (N := 2) (M2 := m_S_wouldStick) (pc2 := 31) (r := 1) (ls2 := [some (eR 1), some (eI x), some (eI y)]) (st2 := []) (V := V2) (d := d) (v := eR 46) rfl o12 rfl hR9) ?_
  refine rOf (fun R9 hR9 => xGetV (N := 1) (M2 := m_S_wouldStick) (pc2 := 34) (r := 46) (ls2 := [some (eR 1), some (eI x), some (eI y)]) (st2 := []) (V := V2) (d := d) (v := eI (S2 0 3)) rfl (winAt_obj p2) rfl hR9) ?_
  refine rOf (fun R9 hR9 => xEqF (N := 2) (x := (S2 0 3)) (y := 2) (A := ev m_S_wouldStick 41 [some (eR 1), some (eI x), some (eI y)] [] (V2, d)) (B := ev m_S_wouldStick 45 [some (eR 1), some (eI x), some (eI y)] [] (V2, d)) rfl (wr_id (by omega) (by omega)) (show wr 2 = 2 by decide) (by omega) hR9) ?_
  refine rOf (fun R9 hR9 => xRb (N := 2) (v := 0) (w2 := (V2, d)) rfl (by decide) hR9) ?_
  exact rEnd ⟨V2, d, by rw [hv], C2, (s2.2 81 (nin_bTr (by omega))).trans h81, ⟨Nat.le_of_eq s2.1.symm, fun k hk => s2.2 k (nin_bTr (by omega))⟩, by omega, by omega⟩
theorem sc_wouldStickN {a : eRow} {X : xT} {x y : Int} {v : Int} {k w : Nat} (hx : x = (k : Int)) (h1 : k < a 3) (hy : y = (w : Int)) (h2 : w < a 2) (h0 : rfs (a 4) ((op a k).testBit w) (decide (pc 30 (op a k) = 1)) ≠ 0) (hv : v = 0) : SC m_S_wouldStick [some (eI x), some (eI y)] a X (a) (X) v := by
  intro V d ot C h81
  have C8 := C
  obtain ⟨⟨S, w1, w2, w3, w4⟩, c2, c3, c4, c5⟩ := C
  have cc3 := c3
  obtain ⟨wd9, f9, q9, hN9, hC9, nx9, ⟨h66, h67, h68⟩, hb9⟩ := cc3
  have cc5 := c5
  obtain ⟨P, oY, o1, o69, o7⟩ := cc5
  have hI := w3
  have hI8 := hI
  obtain ⟨hG, ⟨v1, v2⟩, hO, hT, hM⟩ := hI8
  obtain ⟨⟨g1, g2, g3, g4, g5⟩, g6⟩ := hG
  have b5 := iT_24 g5 hT
  have gs : ev m_S_requireSlot 0 [some (eR 1), some (eI x)] [] (V, d) = some (.inl none, (V, d)) := yLift (V := V) (d := d) (y_slot (P := P) (ot := ot) (c := (0, 0)) w2 hI hx h1) o1 h81 w1 rfl rfl
  have gw : ev m_S_requireWord 0 [some (eR 1), some (eI y)] [] (V, d) = some (.inl none, (V, d)) := yLift (V := V) (d := d) (y_word (P := P) (ot := ot) (c := (0, 0)) w2 hI hy h2) o1 h81 w1 rfl rfl
  have hr := winV (d := d) (c_refusal (c := (0, 0)) (o := op a) hx hy (by omega) w2.2.2.2 hM.1 (w2.2.2.1.2.1 k h1) (hO k h1).1 (by omega)) w1 inj_bC rfl rfl rfl
  obtain ⟨z9, hz9⟩ : ∃ z9 : Int, z9 = ((rfs (a 4) ((op a k).testBit w) (decide (pc 30 (op a k) = 1)) : Nat) : Int) := ⟨_, rfl⟩
  rw [← hz9] at hr
  have hz3 := rfs_3 (md := a 4) (b := (op a k).testBit w) (s := decide (pc 30 (op a k) = 1))
  refine rSC ?_
  refine rOf (fun R9 hR9 => xCallA0 (N := 3) (M2 := m_S_wouldStick) (pc2 := 2) (y := m_S_requireSlot) (n := 2) (ls2 := [some (eR 1), some (eI x), some (eI y)]) (st2 := []) (st9 := [eI x, eR 1]) (V := V) (d := d) (r := 1) (bs := [eI x]) rfl rfl o1 rfl gs hR9) ?_
  refine rOf (fun R9 hR9 => xCallA0 (N := 3) (M2 := m_S_wouldStick) (pc2 := 7) (y := m_S_requireWord) (n := 2) (ls2 := [some (eR 1), some (eI x), some (eI y)]) (st2 := []) (st9 := [eI y, eR 1]) (V := V) (d := d) (r := 1) (bs := [eI y]) rfl rfl o1 rfl gw hR9) ?_
  refine rOf (fun R9 hR9 => xGetV (N := 2) (M2 := m_S_wouldStick) (pc2 := 11) (r := 1) (ls2 := [some (eR 1), some (eI x), some (eI y)]) (st2 := []) (V := V) (d := d) (v := eR 26) rfl o1 rfl hR9) ?_
  refine rOf (fun R9 hR9 => xCallA1 (N := 3) (M2 := m_S_wouldStick) (pc2 := 16) (y := m_W_refusal) (n := 3) (ls2 := [some (eR 1), some (eI x), some (eI y)]) (st2 := []) (st9 := [eI y, eI x, eR 26]) (V := V) (d := d) (r := 26) (bs := [eI x, eI y]) rfl rfl (winAt_obj w1) rfl hr hR9) ?_
  refine rOf (fun R9 hR9 => xEqF (N := 1) (x := z9) (y := 0) (A := ev m_S_wouldStick 24 [some (eR 1), some (eI x), some (eI y)] [] (V, d)) (B := ev m_S_wouldStick 22 [some (eR 1), some (eI x), some (eI y)] [] (V, d)) rfl (wr_id (by omega) (by omega)) (show wr 0 = 0 by decide) (by omega) hR9) ?_
  refine rOf (fun R9 hR9 => xRb (N := 2) (v := 0) (w2 := (V, d)) rfl (by decide) hR9) ?_
  exact rEnd ⟨V, d, by rw [hv], C8, h81, ⟨Nat.le_refl _, fun _ _ => rfl⟩, by omega, by omega⟩
theorem sc_wouldStickX {a : eRow} {X : xT} {x y : Int} (bx : -2147483648 ≤ x ∧ x < 2147483648) (hh : ¬ (0 ≤ x ∧ x < (a 3 : Int))) : SX m_S_wouldStick [some (eI x), some (eI y)] a X (X) 2 := by
  intro V d ot C h81
  have C8 := C
  obtain ⟨⟨S, w1, w2, w3, w4⟩, c2, c3, c4, c5⟩ := C
  have cc3 := c3
  obtain ⟨wd9, f9, q9, hN9, hC9, nx9, ⟨h66, h67, h68⟩, hb9⟩ := cc3
  have cc5 := c5
  obtain ⟨P, oY, o1, o69, o7⟩ := cc5
  have hI := w3
  have hI8 := hI
  obtain ⟨hG, ⟨v1, v2⟩, hO, hT, hM⟩ := hI8
  obtain ⟨⟨g1, g2, g3, g4, g5⟩, g6⟩ := hG
  have b5 := iT_24 g5 hT
  have gs : ev m_S_requireSlot 0 [some (eR 1), some (eI x)] [] (V, d) = some (.inr 2, (V, (d.1 + 1, d.2 + 6))) := (yLift (V := V) (d := d) (y_slotX (P := P) (ot := ot) (c := (0, 0)) w2 hI bx hh) o1 h81 w1 rfl rfl).trans (by rw [Nat.zero_add, Nat.zero_add])
  refine rSX ?_
  refine rOf (fun R9 hR9 => xCallAE (N := 3) (M2 := m_S_wouldStick) (pc2 := 2) (y := m_S_requireSlot) (n := 2) (ls2 := [some (eR 1), some (eI x), some (eI y)]) (st2 := []) (st9 := [eI x, eR 1]) (V := V) (d := d) (r := 1) (bs := [eI x]) (E := 2) rfl rfl o1 rfl gs rfl hR9) ?_
  exact rEnd ⟨V, (d.1 + 1, d.2 + 6), rfl, C8, h81, ⟨Nat.le_refl _, fun _ _ => rfl⟩, by dsimp only; omega, by dsimp only; omega⟩
theorem sc_wouldStickY {a : eRow} {X : xT} {x y : Int} {k : Nat} (hx : x = (k : Int)) (h1 : k < a 3) (by_ : -2147483648 ≤ y ∧ y < 2147483648) (hh : ¬ (0 ≤ y ∧ y < (a 2 : Int))) : SX m_S_wouldStick [some (eI x), some (eI y)] a X (X) 2 := by
  intro V d ot C h81
  have C8 := C
  obtain ⟨⟨S, w1, w2, w3, w4⟩, c2, c3, c4, c5⟩ := C
  have cc3 := c3
  obtain ⟨wd9, f9, q9, hN9, hC9, nx9, ⟨h66, h67, h68⟩, hb9⟩ := cc3
  have cc5 := c5
  obtain ⟨P, oY, o1, o69, o7⟩ := cc5
  have hI := w3
  have hI8 := hI
  obtain ⟨hG, ⟨v1, v2⟩, hO, hT, hM⟩ := hI8
  obtain ⟨⟨g1, g2, g3, g4, g5⟩, g6⟩ := hG
  have b5 := iT_24 g5 hT
  have gs : ev m_S_requireSlot 0 [some (eR 1), some (eI x)] [] (V, d) = some (.inl none, (V, d)) := yLift (V := V) (d := d) (y_slot (P := P) (ot := ot) (c := (0, 0)) w2 hI hx h1) o1 h81 w1 rfl rfl
  have gw : ev m_S_requireWord 0 [some (eR 1), some (eI y)] [] (V, d) = some (.inr 2, (V, (d.1 + 1, d.2 + 6))) := (yLift (V := V) (d := d) (y_wordX (P := P) (ot := ot) (c := (0, 0)) w2 hI by_ hh) o1 h81 w1 rfl rfl).trans (by rw [Nat.zero_add, Nat.zero_add])
  refine rSX ?_
  refine rOf (fun R9 hR9 => xCallA0 (N := 3) (M2 := m_S_wouldStick) (pc2 := 2) (y := m_S_requireSlot) (n := 2) (ls2 := [some (eR 1), some (eI x), some (eI y)]) (st2 := []) (st9 := [eI x, eR 1]) (V := V) (d := d) (r := 1) (bs := [eI x]) rfl rfl o1 rfl gs hR9) ?_
  refine rOf (fun R9 hR9 => xCallAE (N := 3) (M2 := m_S_wouldStick) (pc2 := 7) (y := m_S_requireWord) (n := 2) (ls2 := [some (eR 1), some (eI x), some (eI y)]) (st2 := []) (st9 := [eI y, eR 1]) (V := V) (d := d) (r := 1) (bs := [eI y]) (E := 2) rfl rfl o1 rfl gw rfl hR9) ?_
  exact rEnd ⟨V, (d.1 + 1, d.2 + 6), rfl, C8, h81, ⟨Nat.le_refl _, fun _ _ => rfl⟩, by dsimp only; omega, by dsimp only; omega⟩
theorem kl_wouldStick0 {a a' : eRow} {X X' : xT} {x y v : Int} (h : SC m_S_wouldStick [some (eI x), some (eI y)] a X a' X' v) (hv : v = 0) : KL m_L_wouldStick [some (eI x), some (eI y)] a X a' X' 0 v := by
  intro V d ot C h81
  obtain ⟨P1, h1⟩ := CI_1 C
  refine rKL ?_
  obtain ⟨V2, d2, q2, C2, o2, fr2, dd1, dd2⟩ := h V d ot C h81
  obtain ⟨P2, h12⟩ := CI_1 C2
  refine rOf (fun R9 hR9 => xCallA1 (N := 6) (M2 := m_L_wouldStick) (pc2 := 5) (y := m_S_wouldStick) (n := 3) (ls2 := [some (eR 1), some (eI x), some (eI y), some (eR 81)]) (st2 := [eI 0, eR 81]) (st9 := [eI y, eI x, eR 1, eI 0, eR 81]) (V := V) (d := d) (r := 1) (bs := [eI x, eI y]) rfl rfl h1 rfl q2 hR9) ?_
  refine rOf (fun R9 hR9 => xEqT (N := 1) (x := v) (y := 0) (A := ev m_L_wouldStick 15 [some (eR 1), some (eI x), some (eI y), some (eR 81)] [eI 0, eR 81] (V2, d2)) (B := ev m_L_wouldStick 11 [some (eR 1), some (eI x), some (eI y), some (eR 81)] [eI 0, eR 81] (V2, d2)) rfl (wr_id (by omega) (by omega)) (show wr 0 = 0 by decide) (by omega) hR9) ?_
  refine rStV (N := 2) (M2 := m_L_wouldStick) (pc2 := 16) (r := 81) (ls2 := [some (eR 1), some (eI x), some (eI y), some (eR 81)]) (st2 := []) (V := V2) (d := d2) (i := 0) (v := 0) (k := 0) (ok := eOkJ) rfl o2 rfl (show wr 0 = ((0 : Nat) : Int) by decide) (by omega) (fun V101 sV101 eV101 => ?_)
  refine rOf (fun R9 hR9 => xSeg (N := 3) (r := some (.inl (some (eI 0)), (V101, d2))) rfl hR9) ?_
  exact rEnd ⟨V101, _, d2, rfl, CI_81 C2 sV101, eV101, fun _ => by rw [eUp_at, hv]; rfl, frC_81 fr2 sV101, by unfold dl; omega⟩
theorem kl_wouldStick1 {a a' : eRow} {X X' : xT} {x y v : Int} (h : SC m_S_wouldStick [some (eI x), some (eI y)] a X a' X' v) (hv : v = 1) : KL m_L_wouldStick [some (eI x), some (eI y)] a X a' X' 0 v := by
  intro V d ot C h81
  obtain ⟨P1, h1⟩ := CI_1 C
  refine rKL ?_
  obtain ⟨V2, d2, q2, C2, o2, fr2, dd1, dd2⟩ := h V d ot C h81
  obtain ⟨P2, h12⟩ := CI_1 C2
  refine rOf (fun R9 hR9 => xCallA1 (N := 6) (M2 := m_L_wouldStick) (pc2 := 5) (y := m_S_wouldStick) (n := 3) (ls2 := [some (eR 1), some (eI x), some (eI y), some (eR 81)]) (st2 := [eI 0, eR 81]) (st9 := [eI y, eI x, eR 1, eI 0, eR 81]) (V := V) (d := d) (r := 1) (bs := [eI x, eI y]) rfl rfl h1 rfl q2 hR9) ?_
  refine rOf (fun R9 hR9 => xEqF (N := 1) (x := v) (y := 0) (A := ev m_L_wouldStick 15 [some (eR 1), some (eI x), some (eI y), some (eR 81)] [eI 0, eR 81] (V2, d2)) (B := ev m_L_wouldStick 11 [some (eR 1), some (eI x), some (eI y), some (eR 81)] [eI 0, eR 81] (V2, d2)) rfl (wr_id (by omega) (by omega)) (show wr 0 = 0 by decide) (by omega) hR9) ?_
  refine rStV (N := 3) (M2 := m_L_wouldStick) (pc2 := 16) (r := 81) (ls2 := [some (eR 1), some (eI x), some (eI y), some (eR 81)]) (st2 := []) (V := V2) (d := d2) (i := 0) (v := 1) (k := 0) (ok := eOkJ) rfl o2 rfl (show wr 0 = ((0 : Nat) : Int) by decide) (by omega) (fun V101 sV101 eV101 => ?_)
  refine rOf (fun R9 hR9 => xSeg (N := 3) (r := some (.inl (some (eI 0)), (V101, d2))) rfl hR9) ?_
  exact rEnd ⟨V101, _, d2, rfl, CI_81 C2 sV101, eV101, fun _ => by rw [eUp_at, hv]; rfl, frC_81 fr2 sV101, by unfold dl; omega⟩
theorem kl_wouldStickX {a : eRow} {X X' : xT} {x y v : Int} (h : SX m_S_wouldStick [some (eI x), some (eI y)] a X X' 2) : KL m_L_wouldStick [some (eI x), some (eI y)] a X a X' 1 v := by
  intro V d ot C h81
  obtain ⟨P1, h1⟩ := CI_1 C
  refine rKL ?_
  obtain ⟨V2, d2, q2, C2, o2, fr2, dd1, dd2⟩ := h V d ot C h81
  obtain ⟨P2, h12⟩ := CI_1 C2
  refine rOf (fun R9 hR9 => xCallAC (N := 6) (M2 := m_L_wouldStick) (pc2 := 5) (y := m_S_wouldStick) (n := 3) (ls2 := [some (eR 1), some (eI x), some (eI y), some (eR 81)]) (st2 := [eI 0, eR 81]) (st9 := [eI y, eI x, eR 1, eI 0, eR 81]) (V := V) (d := d) (r := 1) (bs := [eI x, eI y]) (E := 2) (p := 22) rfl rfl h1 rfl q2 (by rfl) hR9) ?_
  refine rOf (fun R9 hR9 => xSeg (N := 2) (r := some (.inl (some (eI 1)), (V2, d2))) rfl hR9) ?_
  exact rEnd ⟨V2, ot, d2, rfl, C2, o2, fun h => absurd h (by decide), fr2, by unfold dl; omega⟩
theorem sc_stepsToEnd {a : eRow} {X : xT} {v : Int} (h5 : cnS (sv 200 a) = false) (hv : v = ((svc 200 a : Nat) : Int)) : SC m_S_stepsToEnd [] a X (a) (X) v := by
  intro V d ot C h81
  have C8 := C
  obtain ⟨⟨S, w1, w2, w3, w4⟩, c2, c3, c4, c5⟩ := C
  have cc3 := c3
  obtain ⟨wd9, f9, q9, hN9, hC9, nx9, ⟨h66, h67, h68⟩, hb9⟩ := cc3
  have cc5 := c5
  obtain ⟨P, oY, o1, o69, o7⟩ := cc5
  have hI := w3
  have hI8 := hI
  obtain ⟨hG, ⟨v1, v2⟩, hO, hT, hM⟩ := hI8
  obtain ⟨⟨g1, g2, g3, g4, g5⟩, g6⟩ := hG
  have b5 := iT_24 g5 hT
  obtain ⟨S0, w0⟩ := c2
  obtain ⟨V1, S1, tc1, tc2, tc3, tc4⟩ := t_cp (d := d) w1 w2 hI ⟨S0, w0⟩
  have o11 := (tc4.2 1 (nin_bTr (by omega))).trans o1
  obtain ⟨S2, hA2, q2⟩ := c_makeSteps (c := (0, 0)) (x := 200) (m := 200) tc3 hI rfl (by omega)
  obtain ⟨b9, hb9⟩ : ∃ b9 : Int, b9 = ((svc 200 a : Nat) : Int) := ⟨_, rfl⟩
  rw [← hb9] at q2
  obtain ⟨V2, p1, p2, p3⟩ := winR (d := d) q2 tc2 inj_bTr rfl rfl rfl
  have s2 := sb_tr tc4 p3
  have C2 := CI_tr C8 p2 s2
  have o12 := (s2.2 1 (nin_bTr (by omega))).trans o1
  have m02 : S2 0 3 = _ := hA2.2.2.2
  have hI9 : iA (sv 200 a) := iA_sv hI
  have hcs : ev m_W_canStep 0 [some (eR 46)] [] (V2, d) = some (.inl (some (eI (bI (cnS (sv 200 a))))), (V2, d)) := winV (d := d) (c_canStep (c := (0, 0)) hA2.1.1.1.2.2 hI9.1.1.2.2.2.2 hA2.2.2.2 hI9.2.2.2.2.1) p2 inj_bTr rfl rfl rfl
  rw [h5] at hcs
  have hcs : _ = some (Sum.inl (some (eI 0)), _) := hcs
  have hsn := sv200_b hb9
  refine rSC ?_
  refine rOf (fun R9 hR9 => xGetV (N := 2) (M2 := m_S_stepsToEnd) (pc2 := 1) (r := 1) (ls2 := [some (eR 1)]) (st2 := []) (V := V) (d := d) (v := eR 46) rfl o1 rfl hR9) ?_
  refine rOf (fun R9 hR9 => xGetV (N := 2) (M2 := m_S_stepsToEnd) (pc2 := 5) (r := 1) (ls2 := [some (eR 1)]) (st2 := [eR 46]) (V := V) (d := d) (v := eR 26) rfl o1 rfl hR9) ?_
  refine rOf (fun R9 hR9 => xCallA0 (N := 1) (M2 := m_S_stepsToEnd) (pc2 := 8) (y := m_W_copyFrom) (n := 2) (ls2 := [some (eR 1)]) (st2 := []) (st9 := [eR 26, eR 46]) (V := V) (d := d) (r := 46) (bs := [eR 26]) rfl rfl (winAt_obj w0) rfl tc1 hR9) ?_
  refine rOf (fun R9 hR9 => xGetV (N := 2) (M2 := m_S_stepsToEnd) (pc2 := 12) (r := 1) (ls2 := [some (eR 1)]) (st2 := []) (V := V1) (d := d) (v := eR 46) rfl o11 rfl hR9) ?_
  refine rOf (fun R9 hR9 => xCallA1 (N := 2) (M2 := m_S_stepsToEnd) (pc2 := 18) (y := m_W_makeSteps) (n := 2) (ls2 := [some (eR 1)]) (st2 := []) (st9 := [eI 200, eR 46]) (V := V1) (d := d) (r := 46) (bs := [eI 200]) rfl rfl (winAt_obj tc2) rfl p1 hR9) ?_
  refine rOf (fun R9 hR9 => xGetV (N := 3) (M2 := m_S_stepsToEnd) (pc2 := 23) (r := 1) (ls2 := [some (eR 1), some (eI b9)]) (st2 := []) (V := V2) (d := d) (v := eR 46) rfl o12 rfl hR9) ?_
  refine rOf (fun R9 hR9 => xCallA1 (N := 1) (M2 := m_S_stepsToEnd) (pc2 := 26) (y := m_W_canStep) (n := 1) (ls2 := [some (eR 1), some (eI b9)]) (st2 := []) (st9 := [eR 46]) (V := V2) (d := d) (r := 46) (bs := []) rfl rfl (winAt_obj p2) rfl hcs hR9) ?_
  refine rOf (fun R9 hR9 => xEqT (N := 1) (x := 0) (y := 0) (A := ev m_S_stepsToEnd 36 [some (eR 1), some (eI b9)] [] (V2, d)) (B := ev m_S_stepsToEnd 32 [some (eR 1), some (eI b9)] [] (V2, d)) rfl (show wr 0 = 0 by decide) (show wr 0 = 0 by decide) (by decide) hR9) ?_
  refine rOf (fun R9 hR9 => xSeg (N := 2) (r := some (.inl (some (eI b9)), (V2, d))) rfl hR9) ?_
  exact rEnd ⟨V2, d, by rw [hv, ← hb9], C2, (s2.2 81 (nin_bTr (by omega))).trans h81, ⟨Nat.le_of_eq s2.1.symm, fun k hk => s2.2 k (nin_bTr (by omega))⟩, by omega, by omega⟩
theorem sc_stepsToEndN {a : eRow} {X : xT} {v : Int} (h5 : cnS (sv 200 a) = true) (hv : v = -1) : SC m_S_stepsToEnd [] a X (a) (X) v := by
  intro V d ot C h81
  have C8 := C
  obtain ⟨⟨S, w1, w2, w3, w4⟩, c2, c3, c4, c5⟩ := C
  have cc3 := c3
  obtain ⟨wd9, f9, q9, hN9, hC9, nx9, ⟨h66, h67, h68⟩, hb9⟩ := cc3
  have cc5 := c5
  obtain ⟨P, oY, o1, o69, o7⟩ := cc5
  have hI := w3
  have hI8 := hI
  obtain ⟨hG, ⟨v1, v2⟩, hO, hT, hM⟩ := hI8
  obtain ⟨⟨g1, g2, g3, g4, g5⟩, g6⟩ := hG
  have b5 := iT_24 g5 hT
  obtain ⟨S0, w0⟩ := c2
  obtain ⟨V1, S1, tc1, tc2, tc3, tc4⟩ := t_cp (d := d) w1 w2 hI ⟨S0, w0⟩
  have o11 := (tc4.2 1 (nin_bTr (by omega))).trans o1
  obtain ⟨S2, hA2, q2⟩ := c_makeSteps (c := (0, 0)) (x := 200) (m := 200) tc3 hI rfl (by omega)
  obtain ⟨b9, hb9⟩ : ∃ b9 : Int, b9 = ((svc 200 a : Nat) : Int) := ⟨_, rfl⟩
  rw [← hb9] at q2
  obtain ⟨V2, p1, p2, p3⟩ := winR (d := d) q2 tc2 inj_bTr rfl rfl rfl
  have s2 := sb_tr tc4 p3
  have C2 := CI_tr C8 p2 s2
  have o12 := (s2.2 1 (nin_bTr (by omega))).trans o1
  have m02 : S2 0 3 = _ := hA2.2.2.2
  have hI9 : iA (sv 200 a) := iA_sv hI
  have hcs : ev m_W_canStep 0 [some (eR 46)] [] (V2, d) = some (.inl (some (eI (bI (cnS (sv 200 a))))), (V2, d)) := winV (d := d) (c_canStep (c := (0, 0)) hA2.1.1.1.2.2 hI9.1.1.2.2.2.2 hA2.2.2.2 hI9.2.2.2.2.1) p2 inj_bTr rfl rfl rfl
  rw [h5] at hcs
  have hcs : _ = some (Sum.inl (some (eI 1)), _) := hcs
  have hsn := sv200_b hb9
  refine rSC ?_
  refine rOf (fun R9 hR9 => xGetV (N := 2) (M2 := m_S_stepsToEnd) (pc2 := 1) (r := 1) (ls2 := [some (eR 1)]) (st2 := []) (V := V) (d := d) (v := eR 46) rfl o1 rfl hR9) ?_
  refine rOf (fun R9 hR9 => xGetV (N := 2) (M2 := m_S_stepsToEnd) (pc2 := 5) (r := 1) (ls2 := [some (eR 1)]) (st2 := [eR 46]) (V := V) (d := d) (v := eR 26) rfl o1 rfl hR9) ?_
  refine rOf (fun R9 hR9 => xCallA0 (N := 1) (M2 := m_S_stepsToEnd) (pc2 := 8) (y := m_W_copyFrom) (n := 2) (ls2 := [some (eR 1)]) (st2 := []) (st9 := [eR 26, eR 46]) (V := V) (d := d) (r := 46) (bs := [eR 26]) rfl rfl (winAt_obj w0) rfl tc1 hR9) ?_
  refine rOf (fun R9 hR9 => xGetV (N := 2) (M2 := m_S_stepsToEnd) (pc2 := 12) (r := 1) (ls2 := [some (eR 1)]) (st2 := []) (V := V1) (d := d) (v := eR 46) rfl o11 rfl hR9) ?_
  refine rOf (fun R9 hR9 => xCallA1 (N := 2) (M2 := m_S_stepsToEnd) (pc2 := 18) (y := m_W_makeSteps) (n := 2) (ls2 := [some (eR 1)]) (st2 := []) (st9 := [eI 200, eR 46]) (V := V1) (d := d) (r := 46) (bs := [eI 200]) rfl rfl (winAt_obj tc2) rfl p1 hR9) ?_
  refine rOf (fun R9 hR9 => xGetV (N := 3) (M2 := m_S_stepsToEnd) (pc2 := 23) (r := 1) (ls2 := [some (eR 1), some (eI b9)]) (st2 := []) (V := V2) (d := d) (v := eR 46) rfl o12 rfl hR9) ?_
  refine rOf (fun R9 hR9 => xCallA1 (N := 1) (M2 := m_S_stepsToEnd) (pc2 := 26) (y := m_W_canStep) (n := 1) (ls2 := [some (eR 1), some (eI b9)]) (st2 := []) (st9 := [eR 46]) (V := V2) (d := d) (r := 46) (bs := []) rfl rfl (winAt_obj p2) rfl hcs hR9) ?_
  refine rOf (fun R9 hR9 => xEqF (N := 1) (x := 1) (y := 0) (A := ev m_S_stepsToEnd 36 [some (eR 1), some (eI b9)] [] (V2, d)) (B := ev m_S_stepsToEnd 32 [some (eR 1), some (eI b9)] [] (V2, d)) rfl (show wr 1 = 1 by decide) (show wr 0 = 0 by decide) (by decide) hR9) ?_
  refine rOf (fun R9 hR9 => xSeg (N := 3) (r := some (.inl (some (eI (-1))), (V2, d))) rfl hR9) ?_
  exact rEnd ⟨V2, d, by rw [hv], C2, (s2.2 81 (nin_bTr (by omega))).trans h81, ⟨Nat.le_of_eq s2.1.symm, fun k hk => s2.2 k (nin_bTr (by omega))⟩, by omega, by omega⟩
theorem sc_stateAtEnd {a : eRow} {X : xT} {v : Int} (hv : v = ((sv 200 a 4 : Nat) : Int)) : SC m_S_stateAtEnd [] a X (a) (X) v := by
  intro V d ot C h81
  have C8 := C
  obtain ⟨⟨S, w1, w2, w3, w4⟩, c2, c3, c4, c5⟩ := C
  have cc3 := c3
  obtain ⟨wd9, f9, q9, hN9, hC9, nx9, ⟨h66, h67, h68⟩, hb9⟩ := cc3
  have cc5 := c5
  obtain ⟨P, oY, o1, o69, o7⟩ := cc5
  have hI := w3
  have hI8 := hI
  obtain ⟨hG, ⟨v1, v2⟩, hO, hT, hM⟩ := hI8
  obtain ⟨⟨g1, g2, g3, g4, g5⟩, g6⟩ := hG
  have b5 := iT_24 g5 hT
  obtain ⟨S0, w0⟩ := c2
  obtain ⟨V1, S1, tc1, tc2, tc3, tc4⟩ := t_cp (d := d) w1 w2 hI ⟨S0, w0⟩
  have o11 := (tc4.2 1 (nin_bTr (by omega))).trans o1
  obtain ⟨S2, hA2, q2⟩ := c_makeSteps (c := (0, 0)) (x := 200) (m := 200) tc3 hI rfl (by omega)
  obtain ⟨b9, hb9⟩ : ∃ b9 : Int, b9 = ((svc 200 a : Nat) : Int) := ⟨_, rfl⟩
  rw [← hb9] at q2
  obtain ⟨V2, p1, p2, p3⟩ := winR (d := d) q2 tc2 inj_bTr rfl rfl rfl
  have s2 := sb_tr tc4 p3
  have C2 := CI_tr C8 p2 s2
  have o12 := (s2.2 1 (nin_bTr (by omega))).trans o1
  have m02 : S2 0 3 = _ := hA2.2.2.2
  have hI9 : iA (sv 200 a) := iA_sv hI
  refine rSC ?_
  refine rOf (fun R9 hR9 => xGetV (N := 2) (M2 := m_S_stateAtEnd) (pc2 := 1) (r := 1) (ls2 := [some (eR 1)]) (st2 := []) (V := V) (d := d) (v := eR 46) rfl o1 rfl hR9) ?_
  refine rOf (fun R9 hR9 => xGetV (N := 2) (M2 := m_S_stateAtEnd) (pc2 := 5) (r := 1) (ls2 := [some (eR 1)]) (st2 := [eR 46]) (V := V) (d := d) (v := eR 26) rfl o1 rfl hR9) ?_
  refine rOf (fun R9 hR9 => xCallA0 (N := 1) (M2 := m_S_stateAtEnd) (pc2 := 8) (y := m_W_copyFrom) (n := 2) (ls2 := [some (eR 1)]) (st2 := []) (st9 := [eR 26, eR 46]) (V := V) (d := d) (r := 46) (bs := [eR 26]) rfl rfl (winAt_obj w0) rfl tc1 hR9) ?_
  refine rOf (fun R9 hR9 => xGetV (N := 2) (M2 := m_S_stateAtEnd) (pc2 := 12) (r := 1) (ls2 := [some (eR 1)]) (st2 := []) (V := V1) (d := d) (v := eR 46) rfl o11 rfl hR9) ?_
  refine rOf (fun R9 hR9 => xCallA1 (N := 2) (M2 := m_S_stateAtEnd) (pc2 := 18) (y := m_W_makeSteps) (n := 2) (ls2 := [some (eR 1)]) (st2 := []) (st9 := [eI 200, eR 46]) (V := V1) (d := d) (r := 46) (bs := [eI 200]) rfl rfl (winAt_obj tc2) rfl p1 hR9) ?_
  refine rOf (fun R9 hR9 => xGetV (N := 3) (M2 := m_S_stateAtEnd) (pc2 := 23) (r := 1) (ls2 := [some (eR 1)]) (st2 := []) (V := V2) (d := d) (v := eR 46) rfl o12 rfl hR9) ?_
  refine rOf (fun R9 hR9 => xGetV (N := 1) (M2 := m_S_stateAtEnd) (pc2 := 26) (r := 46) (ls2 := [some (eR 1)]) (st2 := []) (V := V2) (d := d) (v := eI (S2 0 3)) rfl (winAt_obj p2) rfl hR9) ?_
  refine rOf (fun R9 hR9 => xSeg (N := 1) (r := some (.inl (some (eI (S2 0 3))), (V2, d))) rfl hR9) ?_
  exact rEnd ⟨V2, d, by rw [hv, ← m02], C2, (s2.2 81 (nin_bTr (by omega))).trans h81, ⟨Nat.le_of_eq s2.1.symm, fun k hk => s2.2 k (nin_bTr (by omega))⟩, by omega, by omega⟩
