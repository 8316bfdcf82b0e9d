/-! The class: save, restore. -/
set_option maxRecDepth 100000
theorem y_st {V : List eC} {d : Nat × Nat} {x : Int} {n : Nat} (hx : x = (n : Int)) (hn : n < 2) : ev m_S_requireStateSlot 0 [some (eR 1), some (eI x)] [] (V, d) = some (.inl none, (V, d)) := by
  refine rEq1 ?_
  refine rOf (fun R9 hR9 => xLtF (N := 2) (x := x) (y := 0) (A := ev m_S_requireStateSlot 9 [some (eR 1), some (eI x)] [] (V, d)) (B := ev m_S_requireStateSlot 4 [some (eR 1), some (eI x)] [] (V, d)) rfl (wr_id (by omega) (by omega)) (show wr 0 = 0 by decide) (by omega) hR9) ?_
  refine rOf (fun R9 hR9 => xLtT (N := 3) (x := x) (y := 2) (A := ev m_S_requireStateSlot 17 [some (eR 1), some (eI x)] [] (V, d)) (B := ev m_S_requireStateSlot 9 [some (eR 1), some (eI x)] [] (V, d)) rfl (wr_id (by omega) (by omega)) (show wr 2 = 2 by decide) (by omega) hR9) ?_
  refine rOf (fun R9 hR9 => xSeg (N := 1) (r := some (.inl none, (V, d))) rfl hR9) ?_
  exact rEnd rfl
theorem y_stX {V : List eC} {d : Nat × Nat} {x : Int} (bx : -2147483648 ≤ x ∧ x < 2147483648) (h : ¬ (0 ≤ x ∧ x < 2)) : ev m_S_requireStateSlot 0 [some (eR 1), some (eI x)] [] (V, d) = some (.inr 2, (V, (d.1 + 1, d.2 + 6))) := by
  refine rEq1 ?_
  by_cases h0 : x < 0
  · refine rOf (fun R9 hR9 => xLtT (N := 2) (x := x) (y := 0) (A := ev m_S_requireStateSlot 9 [some (eR 1), some (eI x)] [] (V, d)) (B := ev m_S_requireStateSlot 4 [some (eR 1), some (eI x)] [] (V, d)) rfl (wr_id (by omega) (by omega)) (show wr 0 = 0 by decide) (by omega) hR9) ?_
    refine rOf (fun R9 hR9 => xSeg (N := 1) (r := some (.inr 2, (V, (d.1 + 1, d.2 + 6)))) rfl hR9) ?_
    exact rEnd rfl
  · refine rOf (fun R9 hR9 => xLtF (N := 2) (x := x) (y := 0) (A := ev m_S_requireStateSlot 9 [some (eR 1), some (eI x)] [] (V, d)) (B := ev m_S_requireStateSlot 4 [some (eR 1), some (eI x)] [] (V, d)) rfl (wr_id (by omega) (by omega)) (show wr 0 = 0 by decide) (by omega) hR9) ?_
    refine rOf (fun R9 hR9 => xLtF (N := 3) (x := x) (y := 2) (A := ev m_S_requireStateSlot 17 [some (eR 1), some (eI x)] [] (V, d)) (B := ev m_S_requireStateSlot 9 [some (eR 1), some (eI x)] [] (V, d)) rfl (wr_id (by omega) (by omega)) (show wr 2 = 2 by decide) (by omega) hR9) ?_
    refine rOf (fun R9 hR9 => xSeg (N := 1) (r := some (.inr 2, (V, (d.1 + 1, d.2 + 6)))) rfl hR9) ?_
    exact rEnd rfl
theorem sc_restore {a : eRow} {X : xT} {x : Int} {v : Int} {n : Nat} {r : eRow} (hx : x = (n : Int)) (hn : n < 2) (hr : X.2.1 n = some r) (hv : v = ((r 2 : Nat) : Int)) : SC m_S_restore [some (eI x)] a X (r) (pushX X a) v := by
  intro V d ot C h81
  have C8 := C
  obtain ⟨⟨S, w1, w2, w3, w4⟩, c2, c3, c4, c5⟩ := C
  have cc3 := c3
  obtain ⟨wd9, f9, q9, hN9, hC9, nx9, ⟨h66, h67, h68⟩, hb9⟩ := cc3
  have cc5 := c5
  obtain ⟨P, oY, o1, o69, o7⟩ := cc5
  have hI := w3
  have hI8 := hI
  obtain ⟨hG, ⟨v1, v2⟩, hO, hT, hM⟩ := hI8
  obtain ⟨⟨g1, g2, g3, g4, g5⟩, g6⟩ := hG
  have b5 := iT_24 g5 hT
  have gt := y_st (V := V) (d := d) hx hn
  obtain ⟨b, T, q, V2, d2, s68, hq, wb, wi, wp, wb2, wT, wo, qr, C2, l2, f2, dd1, dd2⟩ := h_remS (d := d) C8 hn hr
  have o12 := (f2 1 (by omega)).trans o1
  have h812 := (f2 81 (by omega)).trans h81
  have C28 := C2
  obtain ⟨⟨S2, w12, w22, w32⟩, C2r⟩ := C28
  have hap : apart bC b := fun i j hi hj e => by
    have := wp j hj
    have e : 26 + i = b j := e
    omega
  obtain ⟨V3, e1, e2, e3⟩ := cpI (d := d2) w12 wb2 inj_bC wi hap
  have wAr : wA (cpW S2 T) r := wA_cp wo.1 wT
  have C3 := CI_win C2 e2 wAr wo e3
  have o13 := (e3.2 1 (nin_bC (by omega))).trans o12
  have m23 : cpW S2 T 11 0 = _ := wAr.2.1.1
  refine rSC ?_
  refine rOf (fun R9 hR9 => xCallA0 (N := 3) (M2 := m_S_restore) (pc2 := 2) (y := m_S_requireStateSlot) (n := 2) (ls2 := [some (eR 1), some (eI x)]) (st2 := []) (st9 := [eI x, eR 1]) (V := V) (d := d) (r := 1) (bs := [eI x]) rfl rfl o1 rfl gt hR9) ?_
  refine rOf (fun R9 hR9 => xGetV (N := 2) (M2 := m_S_restore) (pc2 := 6) (r := 1) (ls2 := [some (eR 1), some (eI x)]) (st2 := []) (V := V) (d := d) (v := eR 68) rfl o1 rfl hR9) ?_
  refine rOf (fun R9 hR9 => xQLdV (N := 2) (M2 := m_S_restore) (pc2 := 10) (r := 68) (ls2 := [some (eR 1), some (eI x)]) (st2 := []) (V := V) (d := d) (i := x) (k := n) rfl s68 (wr_nat (by omega) (by omega)) (by omega) hR9) ?_
  refine rOf (fun R9 hR9 => xQ (o := q n) (o2 := some (b 0)) (G := fun zq => ev m_S_restore 11 [some (eR 1), some (eI x)] [.inr (.inl zq)] (V, d)) hq hR9) ?_
  refine rOf (fun R9 hR9 => xGetV (N := 5) (M2 := m_S_restore) (pc2 := 25) (r := 1) (ls2 := [some (eR 1), some (eI x), some (eR (b 0))]) (st2 := []) (V := V) (d := d) (v := eR 66) rfl o1 rfl hR9) ?_
  refine rOf (fun R9 hR9 => xGetV (N := 2) (M2 := m_S_restore) (pc2 := 29) (r := 1) (ls2 := [some (eR 1), some (eI x), some (eR (b 0))]) (st2 := [eR 66]) (V := V) (d := d) (v := eR 26) rfl o1 rfl hR9) ?_
  refine rOf (fun R9 hR9 => xCallA0 (N := 1) (M2 := m_S_restore) (pc2 := 32) (y := m_H_remember) (n := 2) (ls2 := [some (eR 1), some (eI x), some (eR (b 0))]) (st2 := []) (st9 := [eR 26, eR 66]) (V := V) (d := d) (r := 66) (bs := [eR 26]) rfl rfl h66 rfl qr hR9) ?_
  refine rOf (fun R9 hR9 => xGetV (N := 2) (M2 := m_S_restore) (pc2 := 36) (r := 1) (ls2 := [some (eR 1), some (eI x), some (eR (b 0))]) (st2 := []) (V := V2) (d := d2) (v := eR 26) rfl o12 rfl hR9) ?_
  refine rOf (fun R9 hR9 => xCallA0 (N := 2) (M2 := m_S_restore) (pc2 := 40) (y := m_W_copyFrom) (n := 2) (ls2 := [some (eR 1), some (eI x), some (eR (b 0))]) (st2 := []) (st9 := [eR (b 0), eR 26]) (V := V2) (d := d2) (r := 26) (bs := [eR (b 0)]) rfl rfl (winAt_obj w12) rfl e1 hR9) ?_
  refine rOf (fun R9 hR9 => xGetV (N := 2) (M2 := m_S_restore) (pc2 := 44) (r := 1) (ls2 := [some (eR 1), some (eI x), some (eR (b 0))]) (st2 := []) (V := V3) (d := d2) (v := eR 26) rfl o13 rfl hR9) ?_
  refine rOf (fun R9 hR9 => xGetV (N := 1) (M2 := m_S_restore) (pc2 := 47) (r := 26) (ls2 := [some (eR 1), some (eI x), some (eR (b 0))]) (st2 := []) (V := V3) (d := d2) (v := eR 37) rfl (winAt_obj e2) rfl hR9) ?_
  refine rOf (fun R9 hR9 => xGetV (N := 1) (M2 := m_S_restore) (pc2 := 50) (r := 37) (ls2 := [some (eR 1), some (eI x), some (eR (b 0))]) (st2 := []) (V := V3) (d := d2) (v := eI (cpW S2 T 11 0)) rfl e2.2.2.2.2.2.2.2.2.2.2.2.1 rfl hR9) ?_
  refine rOf (fun R9 hR9 => xSeg (N := 1) (r := some (.inl (some (eI (cpW S2 T 11 0))), (V3, d2))) rfl hR9) ?_
  exact rEnd ⟨V3, d2, by rw [hv, ← m23], C3, (e3.2 81 (nin_bC (by omega))).trans h812, ⟨by have := e3.1; omega, fun k hk => (e3.2 k (nin_bC (by omega))).trans (f2 k (by omega))⟩, by omega, by omega⟩
theorem sc_restoreN {a : eRow} {X : xT} {x : Int} {n : Nat} (hx : x = (n : Int)) (hn : n < 2) (hr : X.2.1 n = none) : SX m_S_restore [some (eI x)] a X (X) 0 := by
  intro V d ot C h81
  have C8 := C
  obtain ⟨⟨S, w1, w2, w3, w4⟩, c2, c3, c4, c5⟩ := C
  have cc3 := c3
  obtain ⟨wd9, f9, q9, hN9, hC9, nx9, ⟨h66, h67, h68⟩, hb9⟩ := cc3
  have cc5 := c5
  obtain ⟨P, oY, o1, o69, o7⟩ := cc5
  have hI := w3
  have hI8 := hI
  obtain ⟨hG, ⟨v1, v2⟩, hO, hT, hM⟩ := hI8
  obtain ⟨⟨g1, g2, g3, g4, g5⟩, g6⟩ := hG
  have b5 := iT_24 g5 hT
  have gt := y_st (V := V) (d := d) hx hn
  obtain ⟨wd, f, q, hN, hC, nx, x1, ⟨x2, x3, x4, x5⟩, x6, x7⟩ := CH_x.mp c3
  have y := x7 n hn
  rw [hr] at y
  have hq : q n = none := by rw [x1.2.2.1 n hn, y]; rfl
  have s68 := x1.1.2.2
  refine rSX ?_
  refine rOf (fun R9 hR9 => xCallA0 (N := 3) (M2 := m_S_restore) (pc2 := 2) (y := m_S_requireStateSlot) (n := 2) (ls2 := [some (eR 1), some (eI x)]) (st2 := []) (st9 := [eI x, eR 1]) (V := V) (d := d) (r := 1) (bs := [eI x]) rfl rfl o1 rfl gt hR9) ?_
  refine rOf (fun R9 hR9 => xGetV (N := 2) (M2 := m_S_restore) (pc2 := 6) (r := 1) (ls2 := [some (eR 1), some (eI x)]) (st2 := []) (V := V) (d := d) (v := eR 68) rfl o1 rfl hR9) ?_
  refine rOf (fun R9 hR9 => xQLdV (N := 2) (M2 := m_S_restore) (pc2 := 10) (r := 68) (ls2 := [some (eR 1), some (eI x)]) (st2 := []) (V := V) (d := d) (i := x) (k := n) rfl s68 (wr_nat (by omega) (by omega)) (by omega) hR9) ?_
  refine rOf (fun R9 hR9 => xQ (o := q n) (o2 := none) (G := fun zq => ev m_S_restore 11 [some (eR 1), some (eI x)] [.inr (.inl zq)] (V, d)) hq hR9) ?_
  refine rOf (fun R9 hR9 => xSeg (N := 4) (r := some (.inr 0, (V, (d.1 + 1, d.2 + 6)))) rfl hR9) ?_
  exact rEnd ⟨V, (d.1 + 1, d.2 + 6), rfl, C8, h81, ⟨Nat.le_refl _, fun _ _ => rfl⟩, by dsimp only; omega, by dsimp only; omega⟩
theorem sc_restoreX {a : eRow} {X : xT} {x : Int} (bx : -2147483648 ≤ x ∧ x < 2147483648) (hn : ¬ (0 ≤ x ∧ x < 2)) : SX m_S_restore [some (eI x)] a X (X) 2 := by
  intro V d ot C h81
  have C8 := C
  obtain ⟨⟨S, w1, w2, w3, w4⟩, c2, c3, c4, c5⟩ := C
  have cc3 := c3
  obtain ⟨wd9, f9, q9, hN9, hC9, nx9, ⟨h66, h67, h68⟩, hb9⟩ := cc3
  have cc5 := c5
  obtain ⟨P, oY, o1, o69, o7⟩ := cc5
  have hI := w3
  have hI8 := hI
  obtain ⟨hG, ⟨v1, v2⟩, hO, hT, hM⟩ := hI8
  obtain ⟨⟨g1, g2, g3, g4, g5⟩, g6⟩ := hG
  have b5 := iT_24 g5 hT
  have gt := y_stX (V := V) (d := d) bx hn
  refine rSX ?_
  refine rOf (fun R9 hR9 => xCallAE (N := 3) (M2 := m_S_restore) (pc2 := 2) (y := m_S_requireStateSlot) (n := 2) (ls2 := [some (eR 1), some (eI x)]) (st2 := []) (st9 := [eI x, eR 1]) (V := V) (d := d) (r := 1) (bs := [eI x]) (E := 2) rfl rfl o1 rfl gt rfl hR9) ?_
  exact rEnd ⟨V, (d.1 + 1, d.2 + 6), rfl, C8, h81, ⟨Nat.le_refl _, fun _ _ => rfl⟩, by dsimp only; omega, by dsimp only; omega⟩
theorem kl_restore {a a' : eRow} {X X' : xT} {x v : Int} (h : SC m_S_restore [some (eI x)] a X a' X' v) : KL m_L_restore [some (eI x)] a X a' X' 0 v := by
  intro V d ot C h81
  obtain ⟨P1, h1⟩ := CI_1 C
  refine rKL ?_
  obtain ⟨V2, d2, q2, C2, o2, fr2, dd1, dd2⟩ := h V d ot C h81
  obtain ⟨P2, h12⟩ := CI_1 C2
  refine rOf (fun R9 hR9 => xCallA1 (N := 5) (M2 := m_L_restore) (pc2 := 4) (y := m_S_restore) (n := 2) (ls2 := [some (eR 1), some (eI x), some (eR 81)]) (st2 := [eI 0, eR 81]) (st9 := [eI x, eR 1, eI 0, eR 81]) (V := V) (d := d) (r := 1) (bs := [eI x]) rfl rfl h1 rfl q2 hR9) ?_
  refine rStV (N := 2) (M2 := m_L_restore) (pc2 := 8) (r := 81) (ls2 := [some (eR 1), some (eI x), some (eR 81)]) (st2 := []) (V := V2) (d := d2) (i := 0) (v := wr v) (k := 0) (ok := eOkJ) rfl o2 rfl (show wr 0 = ((0 : Nat) : Int) by decide) (by omega) (fun V101 sV101 eV101 => ?_)
  refine rOf (fun R9 hR9 => xSeg (N := 3) (r := some (.inl (some (eI 0)), (V101, d2))) rfl hR9) ?_
  exact rEnd ⟨V101, _, d2, rfl, CI_81 C2 sV101, eV101, fun _ => by rw [eUp_at], frC_81 fr2 sV101, by unfold dl; omega⟩
theorem kl_restoreX1 {a : eRow} {X X' : xT} {x v : Int} (h : SX m_S_restore [some (eI x)] a X X' 2) : KL m_L_restore [some (eI x)] a X a X' 1 v := by
  intro V d ot C h81
  obtain ⟨P1, h1⟩ := CI_1 C
  refine rKL ?_
  obtain ⟨V2, d2, q2, C2, o2, fr2, dd1, dd2⟩ := h V d ot C h81
  obtain ⟨P2, h12⟩ := CI_1 C2
  refine rOf (fun R9 hR9 => xCallAC (N := 5) (M2 := m_L_restore) (pc2 := 4) (y := m_S_restore) (n := 2) (ls2 := [some (eR 1), some (eI x), some (eR 81)]) (st2 := [eI 0, eR 81]) (st9 := [eI x, eR 1, eI 0, eR 81]) (V := V) (d := d) (r := 1) (bs := [eI x]) (E := 2) (p := 13) rfl rfl h1 rfl q2 (by rfl) hR9) ?_
  refine rOf (fun R9 hR9 => xSeg (N := 2) (r := some (.inl (some (eI 1)), (V2, d2))) rfl hR9) ?_
  exact rEnd ⟨V2, ot, d2, rfl, C2, o2, fun h => absurd h (by decide), fr2, by unfold dl; omega⟩
theorem kl_restoreX2 {a : eRow} {X X' : xT} {x v : Int} (h : SX m_S_restore [some (eI x)] a X X' 0) : KL m_L_restore [some (eI x)] a X a X' 2 v := by
  intro V d ot C h81
  obtain ⟨P1, h1⟩ := CI_1 C
  refine rKL ?_
  obtain ⟨V2, d2, q2, C2, o2, fr2, dd1, dd2⟩ := h V d ot C h81
  obtain ⟨P2, h12⟩ := CI_1 C2
  refine rOf (fun R9 hR9 => xCallAC (N := 5) (M2 := m_L_restore) (pc2 := 4) (y := m_S_restore) (n := 2) (ls2 := [some (eR 1), some (eI x), some (eR 81)]) (st2 := [eI 0, eR 81]) (st9 := [eI x, eR 1, eI 0, eR 81]) (V := V) (d := d) (r := 1) (bs := [eI x]) (E := 0) (p := 16) rfl rfl h1 rfl q2 (by rfl) hR9) ?_
  refine rOf (fun R9 hR9 => xSeg (N := 2) (r := some (.inl (some (eI 2)), (V2, d2))) rfl hR9) ?_
  exact rEnd ⟨V2, ot, d2, rfl, C2, o2, fun h => absurd h (by decide), fr2, by unfold dl; omega⟩
