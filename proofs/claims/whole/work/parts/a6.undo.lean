/-! The class: undo, restore. -/
theorem rEq1 {x : eRes} {z : (Option eV ⊕ Nat) × eW} (h : Rs x (fun r => r = z)) : x = some z := by
  obtain ⟨r, h1, h2⟩ := h
  rw [h1, h2]
theorem sb_tr {V V1 V2 : List eC} {α : List Nat} (h : sb V V1 α) (h2 : sb V1 V2 α) : sb V V2 α := ⟨h2.1.trans h.1, fun k hk => (h2.2 k hk).trans (h.2 k hk)⟩
theorem chx_fr {V V' : List eC} {wd : wdT} {f q : Nat → Option Nat} {hN hC : Int} (c : CHx V wd f q hN hC) (hl : V.length ≤ V'.length) (hf : ∀ k, (66 ≤ k ∧ k ≤ 68) ∨ 82 ≤ k → eNth V' k = eNth V k) : CHx V' wd f q hN hC := by
  obtain ⟨⟨c1, c2, c3⟩, c4, c5, ⟨c6, c7⟩, c8⟩ := c
  exact ⟨⟨(hf 66 (by omega)).trans c1, (hf 67 (by omega)).trans c2, (hf 68 (by omega)).trans c3⟩, c4, c5, ⟨fun i b S hi e => by
    obtain ⟨d1, d2, d3⟩ := c6 i b S hi e
    exact ⟨d1, d2, wat_fr d3 (fun j hj => hf _ (Or.inr (d2 j hj)))⟩, c7⟩, by omega⟩
theorem pol8 {hN z : Int} {nx : Nat} (h : hN = (nx : Int)) (hn : nx < 8) (hz : z = bRem (hN + 8 - 1) 8) : z = (((nx + 7) % 8 : Nat) : Int) := by
  rw [hz]
  exact bRem8 (m := nx + 7) (by omega) (by omega)
set_option maxRecDepth 100000
theorem h_pol {V : List eC} {d : Nat × Nat} {hN hC z : Int} {nx : Nat} (h66 : eNth V 66 = some (eO 1 [eR 67, eI hN, eI hC])) (hz : z = bRem (hN + 8 - 1) 8) : ev m_H_placeOfLatest 0 [some (eR 66)] [] (V, d) = some (.inl (some (eI z)), (V, d)) := by
  refine rEq1 ?_
  refine rOf (fun R9 hR9 => xGetV (N := 2) (M2 := m_H_placeOfLatest) (pc2 := 1) (r := 66) (ls2 := [some (eR 66)]) (st2 := []) (V := V) (d := d) (v := eI hN) rfl h66 rfl hR9) ?_
  refine rOf (fun R9 hR9 => xNz (N := 6) (y := 8) (A := ev m_H_placeOfLatest 12 [some (eR 66)] [eI (bRem ((hN + 8) - 1) 8)] (V, d)) rfl (by decide) hR9) ?_
  refine rOf (fun R9 hR9 => xSeg (N := 1) (r := some (.inl (some (eI (bRem ((hN + 8) - 1) 8))), (V, d))) rfl hR9) ?_
  exact rEnd (by rw [← hz])
theorem h_lat {V : List eC} {d : Nat × Nat} {hN hC : Int} {nx hn : Nat} {f : Nat → Option Nat} {b : Nat → Nat} (h66 : eNth V 66 = some (eO 1 [eR 67, eI hN, eI hC])) (h67 : eNth V 67 = some (eQ 8 f)) (hhN : hN = (nx : Int)) (hnx : nx < 8) (hhC : hC = (hn : Int)) (h8 : hn ≤ 8) (h0 : hn ≠ 0) (hf : f ((nx + 7) % 8) = some (b 0)) : ev m_H_latest 0 [some (eR 66)] [] (V, d) = some (.inl (some (eR (b 0))), (V, d)) := by
  obtain ⟨z, hz⟩ : ∃ z : Int, z = bRem (hN + 8 - 1) 8 := ⟨_, rfl⟩
  have hz2 := pol8 hhN hnx hz
  have hp := h_pol (d := d) (nx := nx) h66 hz
  refine rEq1 ?_
  refine rOf (fun R9 hR9 => xGetV (N := 2) (M2 := m_H_latest) (pc2 := 1) (r := 66) (ls2 := [some (eR 66)]) (st2 := []) (V := V) (d := d) (v := eI hC) rfl h66 rfl hR9) ?_
  refine rOf (fun R9 hR9 => xEqF (N := 1) (x := hC) (y := 0) (A := ev m_H_latest 7 [some (eR 66)] [] (V, d)) (B := ev m_H_latest 11 [some (eR 66)] [] (V, d)) rfl (wr_id (by omega) (by omega)) (show wr 0 = 0 by decide) (by omega) hR9) ?_
  refine rOf (fun R9 hR9 => xGetV (N := 2) (M2 := m_H_latest) (pc2 := 12) (r := 66) (ls2 := [some (eR 66)]) (st2 := []) (V := V) (d := d) (v := eR 67) rfl h66 rfl hR9) ?_
  refine rOf (fun R9 hR9 => xCallA1 (N := 2) (M2 := m_H_latest) (pc2 := 16) (y := m_H_placeOfLatest) (n := 1) (ls2 := [some (eR 66)]) (st2 := [eR 67]) (st9 := [eR 66, eR 67]) (V := V) (d := d) (r := 66) (bs := []) rfl rfl h66 rfl hp hR9) ?_
  refine rOf (fun R9 hR9 => xQLdV (N := 1) (M2 := m_H_latest) (pc2 := 19) (r := 67) (ls2 := [some (eR 66)]) (st2 := []) (V := V) (d := d) (i := z) (k := ((nx + 7) % 8)) rfl h67 (wr_nat (by omega) (by omega)) (by omega) hR9) ?_
  refine rOf (fun R9 hR9 => xQ (o := f ((nx + 7) % 8)) (o2 := some (b 0)) (G := fun zq => ev m_H_latest 20 [some (eR 66)] [.inr (.inl zq)] (V, d)) hf hR9) ?_
  refine rOf (fun R9 hR9 => xSeg (N := 1) (r := some (.inl (some (eR (b 0))), (V, d))) rfl hR9) ?_
  exact rEnd rfl
theorem h_lat0 {V : List eC} {d : Nat × Nat} {hN hC : Int} (h66 : eNth V 66 = some (eO 1 [eR 67, eI hN, eI hC])) (h0 : hC = 0) : ev m_H_latest 0 [some (eR 66)] [] (V, d) = some (.inl (some eNul), (V, d)) := by
  refine rEq1 ?_
  refine rOf (fun R9 hR9 => xGetV (N := 2) (M2 := m_H_latest) (pc2 := 1) (r := 66) (ls2 := [some (eR 66)]) (st2 := []) (V := V) (d := d) (v := eI hC) rfl h66 rfl hR9) ?_
  refine rOf (fun R9 hR9 => xEqT (N := 1) (x := hC) (y := 0) (A := ev m_H_latest 7 [some (eR 66)] [] (V, d)) (B := ev m_H_latest 11 [some (eR 66)] [] (V, d)) rfl (wr_id (by omega) (by omega)) (show wr 0 = 0 by decide) h0 hR9) ?_
  refine rOf (fun R9 hR9 => xSeg (N := 3) (r := some (.inl (some (eNul)), (V, d))) rfl hR9) ?_
  exact rEnd rfl
theorem h_for {V : List eC} {d : Nat × Nat} {hN hC z : Int} {nx hn : Nat} (h66 : eNth V 66 = some (eO 1 [eR 67, eI hN, eI hC])) (hz : z = bRem (hN + 8 - 1) 8) (hhC : hC = (hn : Int)) (h8 : hn ≤ 8) (h0 : hn ≠ 0) : ∃ V', ev m_H_forgetLatest 0 [some (eR 66)] [] (V, d) = some (.inl none, (V', d)) ∧ sb V V' [66] ∧ eNth V' 66 = some (eO 1 [eR 67, eI z, eI (hC - 1)]) := by
  have hp := h_pol (d := d) (nx := nx) h66 hz
  have : Rs (ev m_H_forgetLatest 0 [some (eR 66)] [] (V, d)) (fun r => ∃ V', r = (.inl none, (V', d)) ∧ sb V V' [66] ∧ eNth V' 66 = some (eO 1 [eR 67, eI z, eI (hC - 1)])) := by
    refine rOf (fun R9 hR9 => xGetV (N := 2) (M2 := m_H_forgetLatest) (pc2 := 1) (r := 66) (ls2 := [some (eR 66)]) (st2 := []) (V := V) (d := d) (v := eI hC) rfl h66 rfl hR9) ?_
    refine rOf (fun R9 hR9 => xLtT (N := 1) (x := 0) (y := hC) (A := ev m_H_forgetLatest 7 [some (eR 66)] [] (V, d)) (B := ev m_H_forgetLatest 25 [some (eR 66)] [] (V, d)) rfl (show wr 0 = 0 by decide) (wr_id (by omega) (by omega)) (by omega) hR9) ?_
    refine rOf (fun R9 hR9 => xCallA1 (N := 3) (M2 := m_H_forgetLatest) (pc2 := 9) (y := m_H_placeOfLatest) (n := 1) (ls2 := [some (eR 66)]) (st2 := [eR 66]) (st9 := [eR 66, eR 66]) (V := V) (d := d) (r := 66) (bs := []) rfl rfl h66 rfl hp hR9) ?_
    refine rPutV (N := 1) (M2 := m_H_forgetLatest) (pc2 := 12) (r := 66) (ls2 := [some (eR 66)]) (st2 := []) (V := V) (d := d) (v := eI z) rfl h66 rfl rfl (fun V101 sV101 eV101 => ?_)
    refine rOf (fun R9 hR9 => xGetV (N := 3) (M2 := m_H_forgetLatest) (pc2 := 17) (r := 66) (ls2 := [some (eR 66)]) (st2 := [eR 66]) (V := V101) (d := d) (v := eI hC) rfl eV101 rfl hR9) ?_
    refine rPutV (N := 3) (M2 := m_H_forgetLatest) (pc2 := 22) (r := 66) (ls2 := [some (eR 66)]) (st2 := []) (V := V101) (d := d) (v := eI (hC - 1)) rfl eV101 rfl rfl (fun V102 sV102 eV102 => ?_)
    refine rOf (fun R9 hR9 => xSeg (N := 1) (r := some (.inl none, (V102, d))) rfl hR9) ?_
    exact rEnd ⟨V102, rfl, sb_tr sV101 sV102, eV102⟩
  obtain ⟨r, h1, V', h2, h3⟩ := this
  subst h2
  exact ⟨V', h1, h3⟩
theorem sc_undo {a : eRow} {X : xT} {v : Int} (h0 : X.1.1 ≠ 0) (hv : v = ((X.1.1 - 1 : Nat) : Int)) : SC m_S_undo [] a X (X.1.2 0) (popX X) v := by
  intro V d ot C h81
  have C8 := C
  obtain ⟨⟨S, w1, w2, w3, w4⟩, c2, c3, c4, c5⟩ := C
  have cc3 := c3
  obtain ⟨wd9, f9, q9, hN9, hC9, nx9, ⟨h66, h67, h68⟩, hb9⟩ := cc3
  have cc5 := c5
  obtain ⟨P, oY, o1, o69, o7⟩ := cc5
  have hI := w3
  have hI8 := hI
  obtain ⟨hG, ⟨v1, v2⟩, hO, hT, hM⟩ := hI8
  obtain ⟨⟨g1, g2, g3, g4, g5⟩, g6⟩ := hG
  have b5 := iT_24 g5 hT
  obtain ⟨wd, f, q, hN, hC, nx, x1, ⟨x2, x3, x4, x5⟩, x6, x7⟩ := CH_x.mp c3
  obtain ⟨y66, y67, y68⟩ := x1.1
  obtain ⟨b, T, wb, wT, wo⟩ := x6 0 (by omega)
  rw [show (nx + 7 - 0) % 8 = (nx + 7) % 8 by omega] at wb
  have hf : f ((nx + 7) % 8) = some (b 0) := by rw [x1.2.1 _ (by omega), wb]; rfl
  obtain ⟨wi, wp, ww⟩ := x1.2.2.2.1.1 _ b T (by omega) wb
  have hap : apart bC b := fun i j hi hj e => by
    have := wp j hj
    have e : 26 + i = b j := e
    omega
  obtain ⟨V1, cp1, e1, e3⟩ := cpI (d := d) w1 ww inj_bC wi hap
  have hl := h_lat (d := d) y66 y67 x4 x5 x2 x3 h0 hf
  have fr1 : ∀ k, k < 26 ∨ 46 ≤ k → eNth V1 k = eNth V k := fun k hk => e3.2 k (nin_bC hk)
  have x18 := chx_fr x1 (Nat.le_of_eq e3.1.symm) (fun k hk => fr1 k (by omega))
  obtain ⟨z, hz⟩ : ∃ z : Int, z = bRem (hN + 8 - 1) 8 := ⟨_, rfl⟩
  obtain ⟨V2, fo1, fo2, fo3⟩ := h_for (d := d) (nx := nx) x18.1.1 hz x2 x3 h0
  have o11 := (fr1 1 (by omega)).trans o1
  have fr2 : ∀ k, k ≠ 66 → eNth V2 k = eNth V1 k := fun k h => fo2.2 k (ninL_iff (fun x hx => by have := List.mem_singleton.mp hx; omega))
  have o12 := (fr2 1 (by omega)).trans o11
  have x19 := chx_66 x18 fo2 fo3
  have C3 : CI V2 (X.1.2 0) (popX X) := ⟨⟨_, wat_fr e1 (fun j hj => fr2 _ (by show 26 + j ≠ 66; omega)), wA_cp wo.1 wT, wo⟩, CT_fr (fun k hk => (fr2 k (by omega)).trans (fr1 k (by omega))) c2, CH_x.mpr ⟨wd, f, q, _, _, (nx + 7) % 8, x19, ⟨by show hC - 1 = ((X.1.1 - 1 : Nat) : Int); omega, by show X.1.1 - 1 ≤ 8; omega, pol8 x4 x5 hz, by omega⟩, hs_pop x6 x5 x3 h0 rfl, x7⟩, CN_fr (fun k hk => (fr2 k (by omega)).trans (fr1 k (by omega))) c4, CO_fr (fun k hk => (fr2 k (by omega)).trans (fr1 k (by omega))) c5⟩
  refine rSC ?_
  refine rOf (fun R9 hR9 => xGetV (N := 2) (M2 := m_S_undo) (pc2 := 1) (r := 1) (ls2 := [some (eR 1)]) (st2 := []) (V := V) (d := d) (v := eR 66) rfl o1 rfl hR9) ?_
  refine rOf (fun R9 hR9 => xCallA1 (N := 1) (M2 := m_S_undo) (pc2 := 4) (y := m_H_latest) (n := 1) (ls2 := [some (eR 1)]) (st2 := []) (st9 := [eR 66]) (V := V) (d := d) (r := 66) (bs := []) rfl rfl y66 rfl hl hR9) ?_
  refine rOf (fun R9 hR9 => xGetV (N := 5) (M2 := m_S_undo) (pc2 := 21) (r := 1) (ls2 := [some (eR 1), some (eR (b 0))]) (st2 := []) (V := V) (d := d) (v := eR 26) rfl o1 rfl hR9) ?_
  refine rOf (fun R9 hR9 => xCallA0 (N := 2) (M2 := m_S_undo) (pc2 := 25) (y := m_W_copyFrom) (n := 2) (ls2 := [some (eR 1), some (eR (b 0))]) (st2 := []) (st9 := [eR (b 0), eR 26]) (V := V) (d := d) (r := 26) (bs := [eR (b 0)]) rfl rfl (winAt_obj w1) rfl cp1 hR9) ?_
  refine rOf (fun R9 hR9 => xGetV (N := 2) (M2 := m_S_undo) (pc2 := 29) (r := 1) (ls2 := [some (eR 1), some (eR (b 0))]) (st2 := []) (V := V1) (d := d) (v := eR 66) rfl o11 rfl hR9) ?_
  refine rOf (fun R9 hR9 => xCallA0 (N := 1) (M2 := m_S_undo) (pc2 := 32) (y := m_H_forgetLatest) (n := 1) (ls2 := [some (eR 1), some (eR (b 0))]) (st2 := []) (st9 := [eR 66]) (V := V1) (d := d) (r := 66) (bs := []) rfl rfl x18.1.1 rfl fo1 hR9) ?_
  refine rOf (fun R9 hR9 => xGetV (N := 2) (M2 := m_S_undo) (pc2 := 36) (r := 1) (ls2 := [some (eR 1), some (eR (b 0))]) (st2 := []) (V := V2) (d := d) (v := eR 66) rfl o12 rfl hR9) ?_
  refine rOf (fun R9 hR9 => xGetV (N := 1) (M2 := m_S_undo) (pc2 := 39) (r := 66) (ls2 := [some (eR 1), some (eR (b 0))]) (st2 := []) (V := V2) (d := d) (v := eI (hC - 1)) rfl fo3 rfl hR9) ?_
  refine rOf (fun R9 hR9 => xSeg (N := 1) (r := some (.inl (some (eI (hC - 1))), (V2, d))) rfl hR9) ?_
  exact rEnd ⟨V2, d, by rw [show hC - 1 = v by omega], C3, (fr2 81 (by omega)).trans ((fr1 81 (by omega)).trans h81), ⟨by rw [fo2.1, e3.1]; exact Nat.le_refl _, fun k hk => (fr2 k (by omega)).trans (fr1 k (by omega))⟩, by omega, by omega⟩
theorem sc_undoX {a : eRow} {X : xT} (h0 : X.1.1 = 0) : SX m_S_undo [] a X (X) 0 := by
  intro V d ot C h81
  have C8 := C
  obtain ⟨⟨S, w1, w2, w3, w4⟩, c2, c3, c4, c5⟩ := C
  have cc3 := c3
  obtain ⟨wd9, f9, q9, hN9, hC9, nx9, ⟨h66, h67, h68⟩, hb9⟩ := cc3
  have cc5 := c5
  obtain ⟨P, oY, o1, o69, o7⟩ := cc5
  have hI := w3
  have hI8 := hI
  obtain ⟨hG, ⟨v1, v2⟩, hO, hT, hM⟩ := hI8
  obtain ⟨⟨g1, g2, g3, g4, g5⟩, g6⟩ := hG
  have b5 := iT_24 g5 hT
  obtain ⟨wd, f, q, hN, hC, nx, x1, ⟨x2, x3, x4, x5⟩, x6, x7⟩ := CH_x.mp c3
  obtain ⟨y66, y67, y68⟩ := x1.1
  have hl := h_lat0 (d := d) y66 (by omega)
  refine rSX ?_
  refine rOf (fun R9 hR9 => xGetV (N := 2) (M2 := m_S_undo) (pc2 := 1) (r := 1) (ls2 := [some (eR 1)]) (st2 := []) (V := V) (d := d) (v := eR 66) rfl o1 rfl hR9) ?_
  refine rOf (fun R9 hR9 => xCallA1 (N := 1) (M2 := m_S_undo) (pc2 := 4) (y := m_H_latest) (n := 1) (ls2 := [some (eR 1)]) (st2 := []) (st9 := [eR 66]) (V := V) (d := d) (r := 66) (bs := []) rfl rfl y66 rfl hl hR9) ?_
  refine rOf (fun R9 hR9 => xSeg (N := 4) (r := some (.inr 0, (V, (d.1 + 1, d.2 + 6)))) rfl hR9) ?_
  exact rEnd ⟨V, (d.1 + 1, d.2 + 6), rfl, C8, h81, ⟨Nat.le_refl _, fun _ _ => rfl⟩, by dsimp only; omega, by dsimp only; omega⟩
theorem kl_undo {a a' : eRow} {X X' : xT} {v : Int} (h : SC m_S_undo [] a X a' X' v) : KL m_L_undo [] a X a' X' 0 v := by
  intro V d ot C h81
  obtain ⟨P1, h1⟩ := CI_1 C
  refine rKL ?_
  obtain ⟨V2, d2, q2, C2, o2, fr2, dd1, dd2⟩ := h V d ot C h81
  obtain ⟨P2, h12⟩ := CI_1 C2
  refine rOf (fun R9 hR9 => xCallA1 (N := 4) (M2 := m_L_undo) (pc2 := 3) (y := m_S_undo) (n := 1) (ls2 := [some (eR 1), some (eR 81)]) (st2 := [eI 0, eR 81]) (st9 := [eR 1, eI 0, eR 81]) (V := V) (d := d) (r := 1) (bs := []) rfl rfl h1 rfl q2 hR9) ?_
  refine rStV (N := 2) (M2 := m_L_undo) (pc2 := 7) (r := 81) (ls2 := [some (eR 1), some (eR 81)]) (st2 := []) (V := V2) (d := d2) (i := 0) (v := wr v) (k := 0) (ok := eOkJ) rfl o2 rfl (show wr 0 = ((0 : Nat) : Int) by decide) (by omega) (fun V101 sV101 eV101 => ?_)
  refine rOf (fun R9 hR9 => xSeg (N := 3) (r := some (.inl (some (eI 0)), (V101, d2))) rfl hR9) ?_
  exact rEnd ⟨V101, _, d2, rfl, CI_81 C2 sV101, eV101, fun _ => by rw [eUp_at], frC_81 fr2 sV101, by unfold dl; omega⟩
theorem kl_undoX {a : eRow} {X X' : xT} {v : Int} (h : SX m_S_undo [] a X X' 0) : KL m_L_undo [] a X a X' 1 v := by
  intro V d ot C h81
  obtain ⟨P1, h1⟩ := CI_1 C
  refine rKL ?_
  obtain ⟨V2, d2, q2, C2, o2, fr2, dd1, dd2⟩ := h V d ot C h81
  obtain ⟨P2, h12⟩ := CI_1 C2
  refine rOf (fun R9 hR9 => xCallAC (N := 4) (M2 := m_L_undo) (pc2 := 3) (y := m_S_undo) (n := 1) (ls2 := [some (eR 1), some (eR 81)]) (st2 := [eI 0, eR 81]) (st9 := [eR 1, eI 0, eR 81]) (V := V) (d := d) (r := 1) (bs := []) (E := 0) (p := 12) rfl rfl h1 rfl q2 (by rfl) hR9) ?_
  refine rOf (fun R9 hR9 => xSeg (N := 2) (r := some (.inl (some (eI 1)), (V2, d2))) rfl hR9) ?_
  exact rEnd ⟨V2, ot, d2, rfl, C2, o2, fun h => absurd h (by decide), fr2, by unfold dl; omega⟩
