/-! The class: error, input's length, output, findWord. -/
theorem fw_M {a : eRow} {B : Nat → Nat} {n : Nat} (hV : iV a) : fwS a B 0 n = fwM a n B := by
  by_cases hl : (2 ≤ n ∧ n ≤ 6) ∧ allN (fun p => isL (B (0 + p))) n = true
  · have hb : ∀ q, q < n → 97 ≤ B (0 + q) ∧ B (0 + q) ≤ 122 := fun q hq => by
      have := allN_iff.mp hl.2 q hq
      unfold isL at this
      simpa using this
    unfold fwM
    rw [if_pos hl]
    exact (fw_cd hV hb hl.1.1 hl.1.2).symm
  · unfold fwM
    rw [if_neg hl]
    by_cases h2 : 2 ≤ n ∧ n ≤ 6
    · have hn : ¬ ∀ q, q < n → isL (B (0 + q)) = true := fun h => hl ⟨h2, allN_iff.mpr h⟩
      have hq : ∃ q, q < n ∧ isL (B (0 + q)) = false := Classical.byContradiction fun h => hn fun q hq => by
        cases hb : isL (B (0 + q)) with
        | true => rfl
        | false => exact absurd ⟨q, hq, hb⟩ h
      obtain ⟨q, hq1, hq2⟩ := hq
      have hq3 : ¬ (97 ≤ B (0 + q) ∧ B (0 + q) ≤ 122) := of_decide_eq_false hq2
      unfold fwS
      refine fnd_none (fun k _ hk => ?_)
      by_cases hwl : wl a k = n
      · rw [decide_eq_true hwl, Bool.true_and]
        refine allN_F hq1 (decide_eq_false ?_)
        have hd := (hV.2 k (by omega)).2.2.2 q (by omega)
        unfold lt
        omega
      · rw [decide_eq_false hwl, Bool.false_and]
    · exact fw_no hV h2
theorem CI_len {V V' : List eC} {a : eRow} {X : xT} {n : Nat} {z : Int} (C : CI V a X) (hs : sb V V' [3]) (h3 : eNth V' 3 = some (eO 2 [eR 4, eI z, eR 5])) (hz : z = (n : Int)) (hn : n ≤ 600) : CI V' a (inX X n X.2.2.1.2) := by
  obtain ⟨c1, c2, c3, c4, c5⟩ := C
  have hf : ∀ k, k ≠ 3 → eNth V' k = eNth V k := fun k h => hs.2 k (ninL_iff (fun x hx => by have := List.mem_singleton.mp hx; omega))
  obtain ⟨Pp, bY, sp, Sp, ln, ⟨b2, b3, b4, b5⟩, wp, ⟨l1, l2, l3⟩, er⟩ := c4
  exact ⟨CW_fr (fun k hk => hf k (by omega)) c1, CT_fr (fun k hk => hf k (by omega)) c2, CH_fr (Nat.le_of_eq hs.1.symm) (fun k hk => hf k (by omega)) c3, ⟨Pp, bY, sp, Sp, z, ⟨(hf 2 (by omega)).trans b2, h3, (hf 4 (by omega)).trans b4, (hf 5 (by omega)).trans b5⟩, wat_fr wp (fun i hi => hf _ (by show 6 + i ≠ 3; omega)), ⟨hz, hn, l3⟩, er⟩, CO_fr (fun k hk => hf k (by omega)) c5⟩
theorem erC_V {P : Nat → Int} {e : Option (Nat × Nat)} (h : erC P e) : P 3 = (erV e).1 ∧ (P 3 = 0 → -1 = (erV e).2) ∧ (P 3 ≠ 0 → P 4 = (erV e).2) := by
  cases e with
  | none => exact ⟨h, fun _ => rfl, fun h2 => absurd h h2⟩
  | some z => obtain ⟨k, s⟩ := z; exact ⟨h.1, fun h2 => by have := h.1; have := h.2.2.1; omega, fun _ => h.2.1⟩
theorem erC_b {P : Nat → Int} {e : Option (Nat × Nat)} (h : erC P e) : 0 ≤ P 3 ∧ P 3 ≤ 9 := by
  cases e with
  | none => have h : P 3 = 0 := h; omega
  | some z => obtain ⟨k, s⟩ := z; have h1 := h.1; have h2 := h.2.2; omega
set_option maxRecDepth 100000
theorem sc_errorCode {a : eRow} {X : xT} {v : Int} (hv : v = (erV X.2.2.2.1).1) : SC m_S_errorCode [] a X (a) (X) v := by
  intro V d ot C h81
  have C8 := C
  obtain ⟨⟨S, w1, w2, w3, w4⟩, c2, c3, c4, c5⟩ := C
  have cc3 := c3
  obtain ⟨wd9, f9, q9, hN9, hC9, nx9, ⟨h66, h67, h68⟩, hb9⟩ := cc3
  have cc5 := c5
  obtain ⟨P, oY, o1, o69, o7⟩ := cc5
  have hI := w3
  have hI8 := hI
  obtain ⟨hG, ⟨v1, v2⟩, hO, hT, hM⟩ := hI8
  obtain ⟨⟨g1, g2, g3, g4, g5⟩, g6⟩ := hG
  have b5 := iT_24 g5 hT
  obtain ⟨Pp, bY, sp, Sp, ln, ⟨b2, b3, b4, b5⟩, wp, ⟨l1, l2, l3⟩, er⟩ := c4
  obtain ⟨oy1, oy2, oy3⟩ := o7
  have e3 : Pp 3 = (erV X.2.2.2.1).1 := (erC_V er).1
  refine rSC ?_
  refine rOf (fun R9 hR9 => xGetV (N := 2) (M2 := m_S_errorCode) (pc2 := 1) (r := 1) (ls2 := [some (eR 1)]) (st2 := []) (V := V) (d := d) (v := eR 2) rfl o1 rfl hR9) ?_
  refine rOf (fun R9 hR9 => xGetV (N := 1) (M2 := m_S_errorCode) (pc2 := 4) (r := 2) (ls2 := [some (eR 1)]) (st2 := []) (V := V) (d := d) (v := eI (Pp 3)) rfl b2 rfl hR9) ?_
  refine rOf (fun R9 hR9 => xSeg (N := 1) (r := some (.inl (some (eI (Pp 3))), (V, d))) rfl hR9) ?_
  exact rEnd ⟨V, d, by rw [hv, ← e3], C8, h81, ⟨Nat.le_refl _, fun _ _ => rfl⟩, by omega, by omega⟩
theorem sc_errorPosition {a : eRow} {X : xT} {v : Int} (hv : v = (erV X.2.2.2.1).2) : SC m_S_errorPosition [] a X (a) (X) v := by
  intro V d ot C h81
  have C8 := C
  obtain ⟨⟨S, w1, w2, w3, w4⟩, c2, c3, c4, c5⟩ := C
  have cc3 := c3
  obtain ⟨wd9, f9, q9, hN9, hC9, nx9, ⟨h66, h67, h68⟩, hb9⟩ := cc3
  have cc5 := c5
  obtain ⟨P, oY, o1, o69, o7⟩ := cc5
  have hI := w3
  have hI8 := hI
  obtain ⟨hG, ⟨v1, v2⟩, hO, hT, hM⟩ := hI8
  obtain ⟨⟨g1, g2, g3, g4, g5⟩, g6⟩ := hG
  have b5 := iT_24 g5 hT
  obtain ⟨Pp, bY, sp, Sp, ln, ⟨b2, b3, b4, b5⟩, wp, ⟨l1, l2, l3⟩, er⟩ := c4
  obtain ⟨oy1, oy2, oy3⟩ := o7
  have e3 := erC_V er
  have eb := erC_b er
  by_cases hz : Pp 3 = 0
  · refine rSC ?_
    refine rOf (fun R9 hR9 => xGetV (N := 2) (M2 := m_S_errorPosition) (pc2 := 1) (r := 1) (ls2 := [some (eR 1)]) (st2 := []) (V := V) (d := d) (v := eR 2) rfl o1 rfl hR9) ?_
    refine rOf (fun R9 hR9 => xGetV (N := 1) (M2 := m_S_errorPosition) (pc2 := 4) (r := 2) (ls2 := [some (eR 1)]) (st2 := []) (V := V) (d := d) (v := eI (Pp 3)) rfl b2 rfl hR9) ?_
    refine rOf (fun R9 hR9 => xEqT (N := 1) (x := (Pp 3)) (y := 0) (A := ev m_S_errorPosition 10 [some (eR 1)] [] (V, d)) (B := ev m_S_errorPosition 14 [some (eR 1)] [] (V, d)) rfl (wr_id (by omega) (by omega)) (show wr 0 = 0 by decide) hz hR9) ?_
    refine rOf (fun R9 hR9 => xSeg (N := 3) (r := some (.inl (some (eI (-1))), (V, d))) rfl hR9) ?_
    exact rEnd ⟨V, d, by rw [hv, ← (e3.2.1 hz)], C8, h81, ⟨Nat.le_refl _, fun _ _ => rfl⟩, by omega, by omega⟩
  · refine rSC ?_
    refine rOf (fun R9 hR9 => xGetV (N := 2) (M2 := m_S_errorPosition) (pc2 := 1) (r := 1) (ls2 := [some (eR 1)]) (st2 := []) (V := V) (d := d) (v := eR 2) rfl o1 rfl hR9) ?_
    refine rOf (fun R9 hR9 => xGetV (N := 1) (M2 := m_S_errorPosition) (pc2 := 4) (r := 2) (ls2 := [some (eR 1)]) (st2 := []) (V := V) (d := d) (v := eI (Pp 3)) rfl b2 rfl hR9) ?_
    refine rOf (fun R9 hR9 => xEqF (N := 1) (x := (Pp 3)) (y := 0) (A := ev m_S_errorPosition 10 [some (eR 1)] [] (V, d)) (B := ev m_S_errorPosition 14 [some (eR 1)] [] (V, d)) rfl (wr_id (by omega) (by omega)) (show wr 0 = 0 by decide) hz hR9) ?_
    refine rOf (fun R9 hR9 => xGetV (N := 2) (M2 := m_S_errorPosition) (pc2 := 15) (r := 1) (ls2 := [some (eR 1)]) (st2 := []) (V := V) (d := d) (v := eR 2) rfl o1 rfl hR9) ?_
    refine rOf (fun R9 hR9 => xGetV (N := 1) (M2 := m_S_errorPosition) (pc2 := 18) (r := 2) (ls2 := [some (eR 1)]) (st2 := []) (V := V) (d := d) (v := eI (Pp 4)) rfl b2 rfl hR9) ?_
    refine rOf (fun R9 hR9 => xSeg (N := 1) (r := some (.inl (some (eI (Pp 4))), (V, d))) rfl hR9) ?_
    exact rEnd ⟨V, d, by rw [hv, ← (e3.2.2 hz)], C8, h81, ⟨Nat.le_refl _, fun _ _ => rfl⟩, by omega, by omega⟩
theorem sc_truncateInput {a : eRow} {X : xT} {x : Int} {v : Int} {n : Nat} (hx : x = (n : Int)) (hn : n ≤ X.2.2.1.1) (hv : v = x) : SC m_S_truncateInput [some (eI x)] a X (a) (inX X n X.2.2.1.2) v := by
  intro V d ot C h81
  have C8 := C
  obtain ⟨⟨S, w1, w2, w3, w4⟩, c2, c3, c4, c5⟩ := C
  have cc3 := c3
  obtain ⟨wd9, f9, q9, hN9, hC9, nx9, ⟨h66, h67, h68⟩, hb9⟩ := cc3
  have cc5 := c5
  obtain ⟨P, oY, o1, o69, o7⟩ := cc5
  have hI := w3
  have hI8 := hI
  obtain ⟨hG, ⟨v1, v2⟩, hO, hT, hM⟩ := hI8
  obtain ⟨⟨g1, g2, g3, g4, g5⟩, g6⟩ := hG
  have b5 := iT_24 g5 hT
  obtain ⟨Pp, bY, sp, Sp, ln, ⟨b2, b3, b4, b5⟩, wp, ⟨l1, l2, l3⟩, er⟩ := c4
  obtain ⟨oy1, oy2, oy3⟩ := o7
  refine rSC ?_
  refine rOf (fun R9 hR9 => xLtF (N := 2) (x := x) (y := 0) (A := ev m_S_truncateInput 15 [some (eR 1), some (eI x)] [] (V, d)) (B := ev m_S_truncateInput 4 [some (eR 1), some (eI x)] [] (V, d)) rfl (wr_id (by omega) (by omega)) (show wr 0 = 0 by decide) (by omega) hR9) ?_
  refine rOf (fun R9 hR9 => xGetV (N := 3) (M2 := m_S_truncateInput) (pc2 := 6) (r := 1) (ls2 := [some (eR 1), some (eI x)]) (st2 := [eI x]) (V := V) (d := d) (v := eR 3) rfl o1 rfl hR9) ?_
  refine rOf (fun R9 hR9 => xGetV (N := 1) (M2 := m_S_truncateInput) (pc2 := 9) (r := 3) (ls2 := [some (eR 1), some (eI x)]) (st2 := [eI x]) (V := V) (d := d) (v := eI ln) rfl b3 rfl hR9) ?_
  refine rOf (fun R9 hR9 => xLtF (N := 1) (x := ln) (y := x) (A := ev m_S_truncateInput 15 [some (eR 1), some (eI x)] [] (V, d)) (B := ev m_S_truncateInput 23 [some (eR 1), some (eI x)] [] (V, d)) rfl (wr_id (by omega) (by omega)) (wr_id (by omega) (by omega)) (by omega) hR9) ?_
  refine rOf (fun R9 hR9 => xGetV (N := 2) (M2 := m_S_truncateInput) (pc2 := 24) (r := 1) (ls2 := [some (eR 1), some (eI x)]) (st2 := []) (V := V) (d := d) (v := eR 3) rfl o1 rfl hR9) ?_
  refine rPutV (N := 2) (M2 := m_S_truncateInput) (pc2 := 28) (r := 3) (ls2 := [some (eR 1), some (eI x)]) (st2 := []) (V := V) (d := d) (v := eI x) rfl b3 rfl rfl (fun V101 sV101 eV101 => ?_)
  refine rOf (fun R9 hR9 => xGetV (N := 2) (M2 := m_S_truncateInput) (pc2 := 32) (r := 1) (ls2 := [some (eR 1), some (eI x)]) (st2 := []) (V := V101) (d := d) (v := eR 3) rfl ((sV101.2 1 rfl).trans o1) rfl hR9) ?_
  refine rOf (fun R9 hR9 => xGetV (N := 1) (M2 := m_S_truncateInput) (pc2 := 35) (r := 3) (ls2 := [some (eR 1), some (eI x)]) (st2 := []) (V := V101) (d := d) (v := eI x) rfl eV101 rfl hR9) ?_
  refine rOf (fun R9 hR9 => xSeg (N := 1) (r := some (.inl (some (eI x)), (V101, d))) rfl hR9) ?_
  exact rEnd ⟨V101, d, by rw [hv], CI_len C8 sV101 eV101 hx (by omega), (sV101.2 81 rfl).trans h81, ⟨Nat.le_of_eq sV101.1.symm, fun k hk => sV101.2 k (ninL_iff (fun x hx => by have := List.mem_singleton.mp hx; omega))⟩, by omega, by omega⟩
theorem sc_truncateInputX {a : eRow} {X : xT} {x : Int} (bx : -2147483648 ≤ x ∧ x < 2147483648) (hn : ¬ (0 ≤ x ∧ x ≤ (X.2.2.1.1 : Int))) : SX m_S_truncateInput [some (eI x)] a X (X) 1 := by
  intro V d ot C h81
  have C8 := C
  obtain ⟨⟨S, w1, w2, w3, w4⟩, c2, c3, c4, c5⟩ := C
  have cc3 := c3
  obtain ⟨wd9, f9, q9, hN9, hC9, nx9, ⟨h66, h67, h68⟩, hb9⟩ := cc3
  have cc5 := c5
  obtain ⟨P, oY, o1, o69, o7⟩ := cc5
  have hI := w3
  have hI8 := hI
  obtain ⟨hG, ⟨v1, v2⟩, hO, hT, hM⟩ := hI8
  obtain ⟨⟨g1, g2, g3, g4, g5⟩, g6⟩ := hG
  have b5 := iT_24 g5 hT
  obtain ⟨Pp, bY, sp, Sp, ln, ⟨b2, b3, b4, b5⟩, wp, ⟨l1, l2, l3⟩, er⟩ := c4
  obtain ⟨oy1, oy2, oy3⟩ := o7
  by_cases h2 : x < 0
  · refine rSX ?_
    refine rOf (fun R9 hR9 => xLtT (N := 2) (x := x) (y := 0) (A := ev m_S_truncateInput 15 [some (eR 1), some (eI x)] [] (V, d)) (B := ev m_S_truncateInput 4 [some (eR 1), some (eI x)] [] (V, d)) rfl (wr_id (by omega) (by omega)) (show wr 0 = 0 by decide) (by omega) hR9) ?_
    refine rOf (fun R9 hR9 => xSeg (N := 1) (r := some (.inr 1, (V, (d.1 + 1, d.2 + 6)))) rfl hR9) ?_
    exact rEnd ⟨V, (d.1 + 1, d.2 + 6), rfl, C8, h81, ⟨Nat.le_refl _, fun _ _ => rfl⟩, by dsimp only; omega, by dsimp only; omega⟩
  · refine rSX ?_
    refine rOf (fun R9 hR9 => xLtF (N := 2) (x := x) (y := 0) (A := ev m_S_truncateInput 15 [some (eR 1), some (eI x)] [] (V, d)) (B := ev m_S_truncateInput 4 [some (eR 1), some (eI x)] [] (V, d)) rfl (wr_id (by omega) (by omega)) (show wr 0 = 0 by decide) (by omega) hR9) ?_
    refine rOf (fun R9 hR9 => xGetV (N := 3) (M2 := m_S_truncateInput) (pc2 := 6) (r := 1) (ls2 := [some (eR 1), some (eI x)]) (st2 := [eI x]) (V := V) (d := d) (v := eR 3) rfl o1 rfl hR9) ?_
    refine rOf (fun R9 hR9 => xGetV (N := 1) (M2 := m_S_truncateInput) (pc2 := 9) (r := 3) (ls2 := [some (eR 1), some (eI x)]) (st2 := [eI x]) (V := V) (d := d) (v := eI ln) rfl b3 rfl hR9) ?_
    refine rOf (fun R9 hR9 => xLtT (N := 1) (x := ln) (y := x) (A := ev m_S_truncateInput 15 [some (eR 1), some (eI x)] [] (V, d)) (B := ev m_S_truncateInput 23 [some (eR 1), some (eI x)] [] (V, d)) rfl (wr_id (by omega) (by omega)) (wr_id (by omega) (by omega)) (by omega) hR9) ?_
    refine rOf (fun R9 hR9 => xSeg (N := 1) (r := some (.inr 1, (V, (d.1 + 1, d.2 + 6)))) rfl hR9) ?_
    exact rEnd ⟨V, (d.1 + 1, d.2 + 6), rfl, C8, h81, ⟨Nat.le_refl _, fun _ _ => rfl⟩, by dsimp only; omega, by dsimp only; omega⟩
theorem kl_truncateInput {a a' : eRow} {X X' : xT} {x v : Int} (h : SC m_S_truncateInput [some (eI x)] a X a' X' v) : KL m_L_truncateInput [some (eI x)] a X a' X' 0 v := by
  intro V d ot C h81
  obtain ⟨P1, h1⟩ := CI_1 C
  refine rKL ?_
  obtain ⟨V2, d2, q2, C2, o2, fr2, dd1, dd2⟩ := h V d ot C h81
  obtain ⟨P2, h12⟩ := CI_1 C2
  refine rOf (fun R9 hR9 => xCallA1 (N := 5) (M2 := m_L_truncateInput) (pc2 := 4) (y := m_S_truncateInput) (n := 2) (ls2 := [some (eR 1), some (eI x), some (eR 81)]) (st2 := [eI 0, eR 81]) (st9 := [eI x, eR 1, eI 0, eR 81]) (V := V) (d := d) (r := 1) (bs := [eI x]) rfl rfl h1 rfl q2 hR9) ?_
  refine rStV (N := 2) (M2 := m_L_truncateInput) (pc2 := 8) (r := 81) (ls2 := [some (eR 1), some (eI x), some (eR 81)]) (st2 := []) (V := V2) (d := d2) (i := 0) (v := wr v) (k := 0) (ok := eOkJ) rfl o2 rfl (show wr 0 = ((0 : Nat) : Int) by decide) (by omega) (fun V101 sV101 eV101 => ?_)
  refine rOf (fun R9 hR9 => xSeg (N := 3) (r := some (.inl (some (eI 0)), (V101, d2))) rfl hR9) ?_
  exact rEnd ⟨V101, _, d2, rfl, CI_81 C2 sV101, eV101, fun _ => by rw [eUp_at], frC_81 fr2 sV101, by unfold dl; omega⟩
theorem kl_truncateInputX {a : eRow} {X X' : xT} {x v : Int} (h : SX m_S_truncateInput [some (eI x)] a X X' 1) : KL m_L_truncateInput [some (eI x)] a X a X' 1 v := by
  intro V d ot C h81
  obtain ⟨P1, h1⟩ := CI_1 C
  refine rKL ?_
  obtain ⟨V2, d2, q2, C2, o2, fr2, dd1, dd2⟩ := h V d ot C h81
  obtain ⟨P2, h12⟩ := CI_1 C2
  refine rOf (fun R9 hR9 => xCallAC (N := 5) (M2 := m_L_truncateInput) (pc2 := 4) (y := m_S_truncateInput) (n := 2) (ls2 := [some (eR 1), some (eI x), some (eR 81)]) (st2 := [eI 0, eR 81]) (st9 := [eI x, eR 1, eI 0, eR 81]) (V := V) (d := d) (r := 1) (bs := [eI x]) (E := 1) (p := 13) rfl rfl h1 rfl q2 (by rfl) hR9) ?_
  refine rOf (fun R9 hR9 => xSeg (N := 2) (r := some (.inl (some (eI 1)), (V2, d2))) rfl hR9) ?_
  exact rEnd ⟨V2, ot, d2, rfl, C2, o2, fun h => absurd h (by decide), fr2, by unfold dl; omega⟩
theorem sc_outputByte {a : eRow} {X : xT} {x : Int} {v : Int} {n : Nat} (hx : x = (n : Int)) (hn : n < X.2.2.2.2.1) (hv : v = (X.2.2.2.2.2 n : Int)) : SC m_S_outputByte [some (eI x)] a X (a) (X) v := by
  intro V d ot C h81
  have C8 := C
  obtain ⟨⟨S, w1, w2, w3, w4⟩, c2, c3, c4, c5⟩ := C
  have cc3 := c3
  obtain ⟨wd9, f9, q9, hN9, hC9, nx9, ⟨h66, h67, h68⟩, hb9⟩ := cc3
  have cc5 := c5
  obtain ⟨P, oY, o1, o69, o7⟩ := cc5
  have hI := w3
  have hI8 := hI
  obtain ⟨hG, ⟨v1, v2⟩, hO, hT, hM⟩ := hI8
  obtain ⟨⟨g1, g2, g3, g4, g5⟩, g6⟩ := hG
  have b5 := iT_24 g5 hT
  obtain ⟨Pp, bY, sp, Sp, ln, ⟨b2, b3, b4, b5⟩, wp, ⟨l1, l2, l3⟩, er⟩ := c4
  obtain ⟨oy1, oy2, oy3⟩ := o7
  have ob := (oy3 n hn).1
  refine rSC ?_
  refine rOf (fun R9 hR9 => xLtF (N := 2) (x := x) (y := 0) (A := ev m_S_outputByte 12 [some (eR 1), some (eI x)] [] (V, d)) (B := ev m_S_outputByte 4 [some (eR 1), some (eI x)] [] (V, d)) rfl (wr_id (by omega) (by omega)) (show wr 0 = 0 by decide) (by omega) hR9) ?_
  refine rOf (fun R9 hR9 => xGetV (N := 3) (M2 := m_S_outputByte) (pc2 := 6) (r := 1) (ls2 := [some (eR 1), some (eI x)]) (st2 := [eI x]) (V := V) (d := d) (v := eI (P 7)) rfl o1 rfl hR9) ?_
  refine rOf (fun R9 hR9 => xLtT (N := 1) (x := x) (y := (P 7)) (A := ev m_S_outputByte 20 [some (eR 1), some (eI x)] [] (V, d)) (B := ev m_S_outputByte 12 [some (eR 1), some (eI x)] [] (V, d)) rfl (wr_id (by omega) (by omega)) (wr_id (by omega) (by omega)) (by omega) hR9) ?_
  refine rOf (fun R9 hR9 => xGetV (N := 2) (M2 := m_S_outputByte) (pc2 := 21) (r := 1) (ls2 := [some (eR 1), some (eI x)]) (st2 := []) (V := V) (d := d) (v := eR 69) rfl o1 rfl hR9) ?_
  refine rOf (fun R9 hR9 => xLdV (N := 2) (M2 := m_S_outputByte) (pc2 := 25) (r := 69) (ls2 := [some (eR 1), some (eI x)]) (st2 := []) (V := V) (d := d) (i := x) (k := n) (ok := eOkI) (mk := fun x => .inl x) rfl o69 rfl (wr_nat (by omega) (by omega)) (by omega) hR9) ?_
  refine rOf (fun R9 hR9 => xSeg (N := 1) (r := some (.inl (some (eI (oY n))), (V, d))) rfl hR9) ?_
  exact rEnd ⟨V, d, by rw [hv, ← ob], C8, h81, ⟨Nat.le_refl _, fun _ _ => rfl⟩, by omega, by omega⟩
theorem sc_outputByteX {a : eRow} {X : xT} {x : Int} (bx : -2147483648 ≤ x ∧ x < 2147483648) (hn : ¬ (0 ≤ x ∧ x < (X.2.2.2.2.1 : Int))) : SX m_S_outputByte [some (eI x)] a X (X) 3 := by
  intro V d ot C h81
  have C8 := C
  obtain ⟨⟨S, w1, w2, w3, w4⟩, c2, c3, c4, c5⟩ := C
  have cc3 := c3
  obtain ⟨wd9, f9, q9, hN9, hC9, nx9, ⟨h66, h67, h68⟩, hb9⟩ := cc3
  have cc5 := c5
  obtain ⟨P, oY, o1, o69, o7⟩ := cc5
  have hI := w3
  have hI8 := hI
  obtain ⟨hG, ⟨v1, v2⟩, hO, hT, hM⟩ := hI8
  obtain ⟨⟨g1, g2, g3, g4, g5⟩, g6⟩ := hG
  have b5 := iT_24 g5 hT
  obtain ⟨Pp, bY, sp, Sp, ln, ⟨b2, b3, b4, b5⟩, wp, ⟨l1, l2, l3⟩, er⟩ := c4
  obtain ⟨oy1, oy2, oy3⟩ := o7
  by_cases h2 : x < 0
  · refine rSX ?_
    refine rOf (fun R9 hR9 => xLtT (N := 2) (x := x) (y := 0) (A := ev m_S_outputByte 12 [some (eR 1), some (eI x)] [] (V, d)) (B := ev m_S_outputByte 4 [some (eR 1), some (eI x)] [] (V, d)) rfl (wr_id (by omega) (by omega)) (show wr 0 = 0 by decide) (by omega) hR9) ?_
    refine rOf (fun R9 hR9 => xSeg (N := 1) (r := some (.inr 3, (V, (d.1 + 1, d.2 + 6)))) rfl hR9) ?_
    exact rEnd ⟨V, (d.1 + 1, d.2 + 6), rfl, C8, h81, ⟨Nat.le_refl _, fun _ _ => rfl⟩, by dsimp only; omega, by dsimp only; omega⟩
  · refine rSX ?_
    refine rOf (fun R9 hR9 => xLtF (N := 2) (x := x) (y := 0) (A := ev m_S_outputByte 12 [some (eR 1), some (eI x)] [] (V, d)) (B := ev m_S_outputByte 4 [some (eR 1), some (eI x)] [] (V, d)) rfl (wr_id (by omega) (by omega)) (show wr 0 = 0 by decide) (by omega) hR9) ?_
    refine rOf (fun R9 hR9 => xGetV (N := 3) (M2 := m_S_outputByte) (pc2 := 6) (r := 1) (ls2 := [some (eR 1), some (eI x)]) (st2 := [eI x]) (V := V) (d := d) (v := eI (P 7)) rfl o1 rfl hR9) ?_
    refine rOf (fun R9 hR9 => xLtF (N := 1) (x := x) (y := (P 7)) (A := ev m_S_outputByte 20 [some (eR 1), some (eI x)] [] (V, d)) (B := ev m_S_outputByte 12 [some (eR 1), some (eI x)] [] (V, d)) rfl (wr_id (by omega) (by omega)) (wr_id (by omega) (by omega)) (by omega) hR9) ?_
    refine rOf (fun R9 hR9 => xSeg (N := 1) (r := some (.inr 3, (V, (d.1 + 1, d.2 + 6)))) rfl hR9) ?_
    exact rEnd ⟨V, (d.1 + 1, d.2 + 6), rfl, C8, h81, ⟨Nat.le_refl _, fun _ _ => rfl⟩, by dsimp only; omega, by dsimp only; omega⟩
theorem kl_outputByte {a a' : eRow} {X X' : xT} {x v : Int} (h : SC m_S_outputByte [some (eI x)] a X a' X' v) : KL m_L_outputByte [some (eI x)] a X a' X' 0 v := by
  intro V d ot C h81
  obtain ⟨P1, h1⟩ := CI_1 C
  refine rKL ?_
  obtain ⟨V2, d2, q2, C2, o2, fr2, dd1, dd2⟩ := h V d ot C h81
  obtain ⟨P2, h12⟩ := CI_1 C2
  refine rOf (fun R9 hR9 => xCallA1 (N := 5) (M2 := m_L_outputByte) (pc2 := 4) (y := m_S_outputByte) (n := 2) (ls2 := [some (eR 1), some (eI x), some (eR 81)]) (st2 := [eI 0, eR 81]) (st9 := [eI x, eR 1, eI 0, eR 81]) (V := V) (d := d) (r := 1) (bs := [eI x]) rfl rfl h1 rfl q2 hR9) ?_
  refine rStV (N := 2) (M2 := m_L_outputByte) (pc2 := 8) (r := 81) (ls2 := [some (eR 1), some (eI x), some (eR 81)]) (st2 := []) (V := V2) (d := d2) (i := 0) (v := wr v) (k := 0) (ok := eOkJ) rfl o2 rfl (show wr 0 = ((0 : Nat) : Int) by decide) (by omega) (fun V101 sV101 eV101 => ?_)
  refine rOf (fun R9 hR9 => xSeg (N := 3) (r := some (.inl (some (eI 0)), (V101, d2))) rfl hR9) ?_
  exact rEnd ⟨V101, _, d2, rfl, CI_81 C2 sV101, eV101, fun _ => by rw [eUp_at], frC_81 fr2 sV101, by unfold dl; omega⟩
theorem kl_outputByteX {a : eRow} {X X' : xT} {x v : Int} (h : SX m_S_outputByte [some (eI x)] a X X' 3) : KL m_L_outputByte [some (eI x)] a X a X' 1 v := by
  intro V d ot C h81
  obtain ⟨P1, h1⟩ := CI_1 C
  refine rKL ?_
  obtain ⟨V2, d2, q2, C2, o2, fr2, dd1, dd2⟩ := h V d ot C h81
  obtain ⟨P2, h12⟩ := CI_1 C2
  refine rOf (fun R9 hR9 => xCallAC (N := 5) (M2 := m_L_outputByte) (pc2 := 4) (y := m_S_outputByte) (n := 2) (ls2 := [some (eR 1), some (eI x), some (eR 81)]) (st2 := [eI 0, eR 81]) (st9 := [eI x, eR 1, eI 0, eR 81]) (V := V) (d := d) (r := 1) (bs := [eI x]) (E := 3) (p := 13) rfl rfl h1 rfl q2 (by rfl) hR9) ?_
  refine rOf (fun R9 hR9 => xSeg (N := 2) (r := some (.inl (some (eI 1)), (V2, d2))) rfl hR9) ?_
  exact rEnd ⟨V2, ot, d2, rfl, C2, o2, fun h => absurd h (by decide), fr2, by unfold dl; omega⟩
theorem sc_findWord {a : eRow} {X : xT} {v : Int} (hv : v = fwM a X.2.2.1.1 X.2.2.1.2) : SC m_S_findWord [] a X (a) (X) v := by
  intro V d ot C h81
  have C8 := C
  obtain ⟨⟨S, w1, w2, w3, w4⟩, c2, c3, c4, c5⟩ := C
  have cc3 := c3
  obtain ⟨wd9, f9, q9, hN9, hC9, nx9, ⟨h66, h67, h68⟩, hb9⟩ := cc3
  have cc5 := c5
  obtain ⟨P, oY, o1, o69, o7⟩ := cc5
  have hI := w3
  have hI8 := hI
  obtain ⟨hG, ⟨v1, v2⟩, hO, hT, hM⟩ := hI8
  obtain ⟨⟨g1, g2, g3, g4, g5⟩, g6⟩ := hG
  have b5 := iT_24 g5 hT
  obtain ⟨Pp, bY, sp, Sp, ln, ⟨b2, b3, b4, b5⟩, wp, ⟨l1, l2, l3⟩, er⟩ := c4
  obtain ⟨oy1, oy2, oy3⟩ := o7
  have hfw := c_fw (n := 600) (F := 0) (L := X.2.2.1.1) (v := 0) (z := ln) (by omega) l3 w2.2.1 ⟨v1, v2⟩ rfl l1 (by omega)
  rw [fw_M ⟨v1, v2⟩, ← hv] at hfw
  have hf : ev m_V_find 0 [some (eR 37), some (eR 4), some (eI 0), some (eI ln)] [] (V, d) = some (.inl (some (eI v)), (V, d)) := xAtV (σ := eSt) (α := wLf bC ++ [4]) hfw (atL_app (as := wLf bC) (bs := [4]) (cs := wCf bC S) (ds := [eA 0 600 bY]) w1 ⟨b4, trivial⟩) rfl rfl rfl rfl rfl rfl
  refine rSC ?_
  refine rOf (fun R9 hR9 => xGetV (N := 2) (M2 := m_S_findWord) (pc2 := 1) (r := 1) (ls2 := [some (eR 1)]) (st2 := []) (V := V) (d := d) (v := eR 26) rfl o1 rfl hR9) ?_
  refine rOf (fun R9 hR9 => xGetV (N := 1) (M2 := m_S_findWord) (pc2 := 4) (r := 26) (ls2 := [some (eR 1)]) (st2 := []) (V := V) (d := d) (v := eR 37) rfl (winAt_obj w1) rfl hR9) ?_
  refine rOf (fun R9 hR9 => xGetV (N := 2) (M2 := m_S_findWord) (pc2 := 8) (r := 1) (ls2 := [some (eR 1)]) (st2 := [eR 37]) (V := V) (d := d) (v := eR 3) rfl o1 rfl hR9) ?_
  refine rOf (fun R9 hR9 => xGetV (N := 1) (M2 := m_S_findWord) (pc2 := 11) (r := 3) (ls2 := [some (eR 1)]) (st2 := [eR 37]) (V := V) (d := d) (v := eR 4) rfl b3 rfl hR9) ?_
  refine rOf (fun R9 hR9 => xGetV (N := 3) (M2 := m_S_findWord) (pc2 := 16) (r := 1) (ls2 := [some (eR 1)]) (st2 := [eI 0, eR 4, eR 37]) (V := V) (d := d) (v := eR 3) rfl o1 rfl hR9) ?_
  refine rOf (fun R9 hR9 => xGetV (N := 1) (M2 := m_S_findWord) (pc2 := 19) (r := 3) (ls2 := [some (eR 1)]) (st2 := [eI 0, eR 4, eR 37]) (V := V) (d := d) (v := eI ln) rfl b3 rfl hR9) ?_
  refine rOf (fun R9 hR9 => xCallA1 (N := 1) (M2 := m_S_findWord) (pc2 := 22) (y := m_V_find) (n := 4) (ls2 := [some (eR 1)]) (st2 := []) (st9 := [eI ln, eI 0, eR 4, eR 37]) (V := V) (d := d) (r := 37) (bs := [eR 4, eI 0, eI ln]) rfl rfl w1.2.2.2.2.2.2.2.2.2.2.2.1 rfl hf hR9) ?_
  refine rOf (fun R9 hR9 => xSeg (N := 1) (r := some (.inl (some (eI v)), (V, d))) rfl hR9) ?_
  exact rEnd ⟨V, d, rfl, C8, h81, ⟨Nat.le_refl _, fun _ _ => rfl⟩, by omega, by omega⟩
