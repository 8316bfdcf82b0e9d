/-! The class: appendInput. -/
theorem nin34 {k : Nat} (h : ninL k [3, 4] = true) : ninL k [3] = true ∧ ninL k [4] = true := by
  have h1 := Bool.and_eq_true_iff.mp h
  exact ⟨Bool.and_eq_true_iff.mpr ⟨h1.1, rfl⟩, h1.2⟩
set_option maxRecDepth 100000
theorem i_put {V : List eC} {d : Nat × Nat} {ln v : Int} {n : Nat} {bY : Nat → Int} (b3 : eNth V 3 = some (eO 2 [eR 4, eI ln, eR 5])) (b4 : eNth V 4 = some (eA 0 600 bY)) (hl : ln = (n : Int)) (hn : n < 600) : ∃ V', ev m_I_put 0 [some (eR 3), some (eI v)] [] (V, d) = some (.inl none, (V', d)) ∧ eNth V' 3 = some (eO 2 [eR 4, eI (ln + 1), eR 5]) ∧ eNth V' 4 = some (eA 0 600 (eUp bY n v)) ∧ sb V V' [3, 4] := by
  have : Rs (ev m_I_put 0 [some (eR 3), some (eI v)] [] (V, d)) (fun r => ∃ V', r = (.inl none, (V', d)) ∧ eNth V' 3 = some (eO 2 [eR 4, eI (ln + 1), eR 5]) ∧ eNth V' 4 = some (eA 0 600 (eUp bY n v)) ∧ sb V V' [3, 4]) := by
    refine rOf (fun R9 hR9 => xGetV (N := 2) (M2 := m_I_put) (pc2 := 1) (r := 3) (ls2 := [some (eR 3), some (eI v)]) (st2 := []) (V := V) (d := d) (v := eI ln) rfl b3 rfl hR9) ?_
    refine rOf (fun R9 hR9 => xLtT (N := 2) (x := ln) (y := 600) (A := ev m_I_put 10 [some (eR 3), some (eI v)] [] (V, d)) (B := ev m_I_put 30 [some (eR 3), some (eI v)] [] (V, d)) rfl (wr_id (by omega) (by omega)) (show wr 600 = 600 by decide) (by omega) hR9) ?_
    refine rOf (fun R9 hR9 => xGetV (N := 2) (M2 := m_I_put) (pc2 := 11) (r := 3) (ls2 := [some (eR 3), some (eI v)]) (st2 := []) (V := V) (d := d) (v := eR 4) rfl b3 rfl hR9) ?_
    refine rOf (fun R9 hR9 => xGetV (N := 2) (M2 := m_I_put) (pc2 := 15) (r := 3) (ls2 := [some (eR 3), some (eI v)]) (st2 := [eR 4]) (V := V) (d := d) (v := eI ln) rfl b3 rfl hR9) ?_
    refine rStV (N := 2) (M2 := m_I_put) (pc2 := 19) (r := 4) (ls2 := [some (eR 3), some (eI v)]) (st2 := []) (V := V) (d := d) (i := ln) (v := v) (k := n) (ok := eOk0) rfl b4 rfl (wr_nat (by omega) (by omega)) (by omega) (fun V101 sV101 eV101 => ?_)
    refine rOf (fun R9 hR9 => xGetV (N := 3) (M2 := m_I_put) (pc2 := 22) (r := 3) (ls2 := [some (eR 3), some (eI v)]) (st2 := [eR 3]) (V := V101) (d := d) (v := eI ln) rfl ((sV101.2 3 rfl).trans b3) rfl hR9) ?_
    refine rPutV (N := 3) (M2 := m_I_put) (pc2 := 27) (r := 3) (ls2 := [some (eR 3), some (eI v)]) (st2 := []) (V := V101) (d := d) (v := eI (ln + 1)) rfl ((sV101.2 3 rfl).trans b3) rfl rfl (fun V102 sV102 eV102 => ?_)
    refine rOf (fun R9 hR9 => xSeg (N := 1) (r := some (.inl none, (V102, d))) rfl hR9) ?_
    exact rEnd ⟨V102, rfl, eV102, (sV102.2 4 rfl).trans eV101, ⟨sV102.1.trans sV101.1, fun k hk => (sV102.2 k (nin34 hk).1).trans (sV101.2 k (nin34 hk).2)⟩⟩
  obtain ⟨r, h1, V', h2, h3⟩ := this
  subst h2
  exact ⟨V', h1, h3⟩
theorem i_put4 {V : List eC} {d : Nat × Nat} {ln x : Int} {n : Nat} {bY : Nat → Int} (b3 : eNth V 3 = some (eO 2 [eR 4, eI ln, eR 5])) (b4 : eNth V 4 = some (eA 0 600 bY)) (hl : ln = (n : Int)) (hn : n + 4 ≤ 600) : ∃ V', ev m_I_putFourBytes 0 [some (eR 3), some (eI x)] [] (V, d) = some (.inl none, (V', d)) ∧ eNth V' 3 = some (eO 2 [eR 4, eI (ln + 1 + 1 + 1 + 1), eR 5]) ∧ eNth V' 4 = some (eA 0 600 (eA4 bY n (bUshr x 24) (bAnd (bUshr x 16) 255) (bAnd (bUshr x 8) 255) (bAnd x 255))) ∧ sb V V' [3, 4] := by
  obtain ⟨W1, i1, c1, g1, s1⟩ := i_put (d := d) (v := bUshr x 24) b3 b4 hl (by omega)
  obtain ⟨W2, i2, c2, g2, s2⟩ := i_put (d := d) (v := bAnd (bUshr x 16) 255) (n := n + 1) c1 g1 (by omega) (by omega)
  obtain ⟨W3, i3, c3, g3, s3⟩ := i_put (d := d) (v := bAnd (bUshr x 8) 255) (n := n + 1 + 1) c2 g2 (by omega) (by omega)
  obtain ⟨W4, i4, c4, g4, s4⟩ := i_put (d := d) (v := bAnd x 255) (n := n + 1 + 1 + 1) c3 g3 (by omega) (by omega)
  refine ⟨W4, ?_, c4, g4, sb_tr (sb_tr (sb_tr s1 s2) s3) s4⟩
  refine rEq1 ?_
  refine rOf (fun R9 hR9 => xCallA0 (N := 5) (M2 := m_I_putFourBytes) (pc2 := 5) (y := m_I_put) (n := 2) (ls2 := [some (eR 3), some (eI x)]) (st2 := []) (st9 := [eI (bUshr x 24), eR 3]) (V := V) (d := d) (r := 3) (bs := [eI (bUshr x 24)]) rfl rfl b3 rfl i1 hR9) ?_
  refine rOf (fun R9 hR9 => xCallA0 (N := 7) (M2 := m_I_putFourBytes) (pc2 := 17) (y := m_I_put) (n := 2) (ls2 := [some (eR 3), some (eI x)]) (st2 := []) (st9 := [eI (bAnd (bUshr x 16) 255), eR 3]) (V := W1) (d := d) (r := 3) (bs := [eI (bAnd (bUshr x 16) 255)]) rfl rfl c1 rfl i2 hR9) ?_
  refine rOf (fun R9 hR9 => xCallA0 (N := 7) (M2 := m_I_putFourBytes) (pc2 := 29) (y := m_I_put) (n := 2) (ls2 := [some (eR 3), some (eI x)]) (st2 := []) (st9 := [eI (bAnd (bUshr x 8) 255), eR 3]) (V := W2) (d := d) (r := 3) (bs := [eI (bAnd (bUshr x 8) 255)]) rfl rfl c2 rfl i3 hR9) ?_
  refine rOf (fun R9 hR9 => xCallA0 (N := 5) (M2 := m_I_putFourBytes) (pc2 := 38) (y := m_I_put) (n := 2) (ls2 := [some (eR 3), some (eI x)]) (st2 := []) (st9 := [eI (bAnd x 255), eR 3]) (V := W3) (d := d) (r := 3) (bs := [eI (bAnd x 255)]) rfl rfl c3 rfl i4 hR9) ?_
  refine rOf (fun R9 hR9 => xSeg (N := 1) (r := some (.inl none, (W4, d))) rfl hR9) ?_
  exact rEnd rfl
theorem i_app {V : List eC} {d : Nat × Nat} {a : eRow} {X : xT} {x : Int} {n : Nat} (C : CI V a X) (hX : X.2.2.1.1 = n) (hn : n + 4 ≤ 600) : ∃ (V' : List eC) (ln' : Int), ev m_I_putFourBytes 0 [some (eR 3), some (eI x)] [] (V, d) = some (.inl none, (V', d)) ∧ CI V' a (inX X (n + 4) (ap4 X.2.2.1.2 n x)) ∧ sb V V' [3, 4] ∧ eNth V' 3 = some (eO 2 [eR 4, eI ln', eR 5]) ∧ ln' = ((n + 4 : Nat) : Int) := by
  obtain ⟨c1, c2, c3, c4, c5⟩ := C
  obtain ⟨Pp, bY, sp, Sp, ln, ⟨b2, b3, b4, b5⟩, wp, ⟨l1, l2, l3⟩, er⟩ := c4
  obtain ⟨V', e1, e2, e3, e4⟩ := i_put4 (d := d) (x := x) (n := n) b3 b4 (by omega) hn
  have hf : ∀ k, k ≠ 3 → k ≠ 4 → eNth V' k = eNth V k := fun k h1 h2 => e4.2 k (ninL_iff (fun x hx => by
    simp only [List.mem_cons, List.not_mem_nil, or_false] at hx
    omega))
  refine ⟨V', _, e1, ⟨CW_fr (fun k hk => hf k (by omega) (by omega)) c1, CT_fr (fun k hk => hf k (by omega) (by omega)) c2, CH_fr (Nat.le_of_eq e4.1.symm) (fun k hk => hf k (by omega) (by omega)) c3, ⟨Pp, _, sp, Sp, _, ⟨(hf 2 (by omega) (by omega)).trans b2, e2, e3, (hf 5 (by omega) (by omega)).trans b5⟩, wat_fr wp (fun i hi => hf _ (by show 6 + i ≠ 3; omega) (by show 6 + i ≠ 4; omega)), ⟨?_, hn, ?_⟩, er⟩, CO_fr (fun k hk => hf k (by omega) (by omega)) c5⟩, e4, e2, by omega⟩
  · show ln + 1 + 1 + 1 + 1 = ((n + 4 : Nat) : Int)
    omega
  · exact ap4_hi l3 hn bt8_24 (bt8_u (k := 16) (by omega) (by omega)) (bt8_u (k := 8) (by omega) (by omega)) bt8_0
theorem sc_appendInput {a : eRow} {X : xT} {x y z u v r : Int} {n : Nat} (hX : X.2.2.1.1 = n) (hn : n + 20 ≤ 600) (hv : r = ((n + 20 : Nat) : Int)) : SC m_S_appendInput [some (eI x), some (eI y), some (eI z), some (eI u), some (eI v)] a X (a) (inX X (n + 20) (ap20 X.2.2.1.2 n x y z u v)) r := by
  intro V d ot C h81
  have C8 := C
  obtain ⟨⟨S, w1, w2, w3, w4⟩, c2, c3, c4, c5⟩ := C
  have cc3 := c3
  obtain ⟨wd9, f9, q9, hN9, hC9, nx9, ⟨h66, h67, h68⟩, hb9⟩ := cc3
  have cc5 := c5
  obtain ⟨P, oY, o1, o69, o7⟩ := cc5
  have hI := w3
  have hI8 := hI
  obtain ⟨hG, ⟨v1, v2⟩, hO, hT, hM⟩ := hI8
  obtain ⟨⟨g1, g2, g3, g4, g5⟩, g6⟩ := hG
  have b5 := iT_24 g5 hT
  obtain ⟨Pp, bY, sp, Sp, ln, ⟨b2, b3, b4, b5⟩, wp, ⟨l1, l2, l3⟩, er⟩ := c4
  obtain ⟨V1, m1, a1, C1, s1, f1, k1⟩ := i_app (x := x) (d := d) C8 hX (by omega)
  obtain ⟨V2, m2, a2, C2, s2, f2, k2⟩ := i_app (x := y) (d := d) (n := n + 4) C1 rfl (by omega)
  obtain ⟨V3, m3, a3, C3, s3, f3, k3⟩ := i_app (x := z) (d := d) (n := n + 8) C2 rfl (by omega)
  obtain ⟨V4, m4, a4, C4, s4, f4, k4⟩ := i_app (x := u) (d := d) (n := n + 12) C3 rfl (by omega)
  obtain ⟨V5, m5, a5, C5, s5, f5, k5⟩ := i_app (x := v) (d := d) (n := n + 16) C4 rfl (by omega)
  have o11 := (s1.2 1 rfl).trans o1
  have o12 := (s2.2 1 rfl).trans o11
  have o13 := (s3.2 1 rfl).trans o12
  have o14 := (s4.2 1 rfl).trans o13
  have o15 := (s5.2 1 rfl).trans o14
  have ss := sb_tr (sb_tr (sb_tr (sb_tr s1 s2) s3) s4) s5
  refine rSC ?_
  refine rOf (fun R9 hR9 => xGetV (N := 2) (M2 := m_S_appendInput) (pc2 := 1) (r := 1) (ls2 := [some (eR 1), some (eI x), some (eI y), some (eI z), some (eI u), some (eI v)]) (st2 := []) (V := V) (d := d) (v := eR 3) rfl o1 rfl hR9) ?_
  refine rOf (fun R9 hR9 => xGetV (N := 1) (M2 := m_S_appendInput) (pc2 := 4) (r := 3) (ls2 := [some (eR 1), some (eI x), some (eI y), some (eI z), some (eI u), some (eI v)]) (st2 := []) (V := V) (d := d) (v := eI ln) rfl b3 rfl hR9) ?_
  refine rOf (fun R9 hR9 => xLtF (N := 4) (x := 600) (y := ln + 20) (A := ev m_S_appendInput 16 [some (eR 1), some (eI x), some (eI y), some (eI z), some (eI u), some (eI v)] [] (V, d)) (B := ev m_S_appendInput 24 [some (eR 1), some (eI x), some (eI y), some (eI z), some (eI u), some (eI v)] [] (V, d)) rfl (show wr 600 = 600 by decide) (wr_id (by omega) (by omega)) (by omega) hR9) ?_
  refine rOf (fun R9 hR9 => xGetV (N := 2) (M2 := m_S_appendInput) (pc2 := 25) (r := 1) (ls2 := [some (eR 1), some (eI x), some (eI y), some (eI z), some (eI u), some (eI v)]) (st2 := []) (V := V) (d := d) (v := eR 3) rfl o1 rfl hR9) ?_
  refine rOf (fun R9 hR9 => xCallA0 (N := 2) (M2 := m_S_appendInput) (pc2 := 29) (y := m_I_putFourBytes) (n := 2) (ls2 := [some (eR 1), some (eI x), some (eI y), some (eI z), some (eI u), some (eI v)]) (st2 := []) (st9 := [eI x, eR 3]) (V := V) (d := d) (r := 3) (bs := [eI x]) rfl rfl b3 rfl a1 hR9) ?_
  refine rOf (fun R9 hR9 => xGetV (N := 2) (M2 := m_S_appendInput) (pc2 := 33) (r := 1) (ls2 := [some (eR 1), some (eI x), some (eI y), some (eI z), some (eI u), some (eI v)]) (st2 := []) (V := V1) (d := d) (v := eR 3) rfl o11 rfl hR9) ?_
  refine rOf (fun R9 hR9 => xCallA0 (N := 2) (M2 := m_S_appendInput) (pc2 := 37) (y := m_I_putFourBytes) (n := 2) (ls2 := [some (eR 1), some (eI x), some (eI y), some (eI z), some (eI u), some (eI v)]) (st2 := []) (st9 := [eI y, eR 3]) (V := V1) (d := d) (r := 3) (bs := [eI y]) rfl rfl f1 rfl a2 hR9) ?_
  refine rOf (fun R9 hR9 => xGetV (N := 2) (M2 := m_S_appendInput) (pc2 := 41) (r := 1) (ls2 := [some (eR 1), some (eI x), some (eI y), some (eI z), some (eI u), some (eI v)]) (st2 := []) (V := V2) (d := d) (v := eR 3) rfl o12 rfl hR9) ?_
  refine rOf (fun R9 hR9 => xCallA0 (N := 2) (M2 := m_S_appendInput) (pc2 := 45) (y := m_I_putFourBytes) (n := 2) (ls2 := [some (eR 1), some (eI x), some (eI y), some (eI z), some (eI u), some (eI v)]) (st2 := []) (st9 := [eI z, eR 3]) (V := V2) (d := d) (r := 3) (bs := [eI z]) rfl rfl f2 rfl a3 hR9) ?_
  refine rOf (fun R9 hR9 => xGetV (N := 2) (M2 := m_S_appendInput) (pc2 := 49) (r := 1) (ls2 := [some (eR 1), some (eI x), some (eI y), some (eI z), some (eI u), some (eI v)]) (st2 := []) (V := V3) (d := d) (v := eR 3) rfl o13 rfl hR9) ?_
  refine rOf (fun R9 hR9 => xCallA0 (N := 2) (M2 := m_S_appendInput) (pc2 := 54) (y := m_I_putFourBytes) (n := 2) (ls2 := [some (eR 1), some (eI x), some (eI y), some (eI z), some (eI u), some (eI v)]) (st2 := []) (st9 := [eI u, eR 3]) (V := V3) (d := d) (r := 3) (bs := [eI u]) rfl rfl f3 rfl a4 hR9) ?_
  refine rOf (fun R9 hR9 => xGetV (N := 2) (M2 := m_S_appendInput) (pc2 := 58) (r := 1) (ls2 := [some (eR 1), some (eI x), some (eI y), some (eI z), some (eI u), some (eI v)]) (st2 := []) (V := V4) (d := d) (v := eR 3) rfl o14 rfl hR9) ?_
  refine rOf (fun R9 hR9 => xCallA0 (N := 2) (M2 := m_S_appendInput) (pc2 := 63) (y := m_I_putFourBytes) (n := 2) (ls2 := [some (eR 1), some (eI x), some (eI y), some (eI z), some (eI u), some (eI v)]) (st2 := []) (st9 := [eI v, eR 3]) (V := V4) (d := d) (r := 3) (bs := [eI v]) rfl rfl f4 rfl a5 hR9) ?_
  refine rOf (fun R9 hR9 => xGetV (N := 2) (M2 := m_S_appendInput) (pc2 := 67) (r := 1) (ls2 := [some (eR 1), some (eI x), some (eI y), some (eI z), some (eI u), some (eI v)]) (st2 := []) (V := V5) (d := d) (v := eR 3) rfl o15 rfl hR9) ?_
  refine rOf (fun R9 hR9 => xGetV (N := 1) (M2 := m_S_appendInput) (pc2 := 70) (r := 3) (ls2 := [some (eR 1), some (eI x), some (eI y), some (eI z), some (eI u), some (eI v)]) (st2 := []) (V := V5) (d := d) (v := eI m5) rfl f5 rfl hR9) ?_
  refine rOf (fun R9 hR9 => xSeg (N := 1) (r := some (.inl (some (eI m5)), (V5, d))) rfl hR9) ?_
  exact rEnd ⟨V5, d, by rw [show m5 = r by omega], C5, (ss.2 81 rfl).trans h81, ⟨Nat.le_of_eq ss.1.symm, fun k hk => ss.2 k (ninL_iff (fun x hx => by simp only [List.mem_cons, List.not_mem_nil, or_false] at hx; omega))⟩, by omega, by omega⟩
theorem sc_appendInputX {a : eRow} {X : xT} {x y z u v : Int} (hn : ¬ (X.2.2.1.1 + 20 ≤ 600)) : SX m_S_appendInput [some (eI x), some (eI y), some (eI z), some (eI u), some (eI v)] a X (X) 0 := by
  intro V d ot C h81
  have C8 := C
  obtain ⟨⟨S, w1, w2, w3, w4⟩, c2, c3, c4, c5⟩ := C
  have cc3 := c3
  obtain ⟨wd9, f9, q9, hN9, hC9, nx9, ⟨h66, h67, h68⟩, hb9⟩ := cc3
  have cc5 := c5
  obtain ⟨P, oY, o1, o69, o7⟩ := cc5
  have hI := w3
  have hI8 := hI
  obtain ⟨hG, ⟨v1, v2⟩, hO, hT, hM⟩ := hI8
  obtain ⟨⟨g1, g2, g3, g4, g5⟩, g6⟩ := hG
  have b5 := iT_24 g5 hT
  obtain ⟨Pp, bY, sp, Sp, ln, ⟨b2, b3, b4, b5⟩, wp, ⟨l1, l2, l3⟩, er⟩ := c4
  refine rSX ?_
  refine rOf (fun R9 hR9 => xGetV (N := 2) (M2 := m_S_appendInput) (pc2 := 1) (r := 1) (ls2 := [some (eR 1), some (eI x), some (eI y), some (eI z), some (eI u), some (eI v)]) (st2 := []) (V := V) (d := d) (v := eR 3) rfl o1 rfl hR9) ?_
  refine rOf (fun R9 hR9 => xGetV (N := 1) (M2 := m_S_appendInput) (pc2 := 4) (r := 3) (ls2 := [some (eR 1), some (eI x), some (eI y), some (eI z), some (eI u), some (eI v)]) (st2 := []) (V := V) (d := d) (v := eI ln) rfl b3 rfl hR9) ?_
  refine rOf (fun R9 hR9 => xLtT (N := 4) (x := 600) (y := ln + 20) (A := ev m_S_appendInput 16 [some (eR 1), some (eI x), some (eI y), some (eI z), some (eI u), some (eI v)] [] (V, d)) (B := ev m_S_appendInput 24 [some (eR 1), some (eI x), some (eI y), some (eI z), some (eI u), some (eI v)] [] (V, d)) rfl (show wr 600 = 600 by decide) (wr_id (by omega) (by omega)) (by omega) hR9) ?_
  refine rOf (fun R9 hR9 => xSeg (N := 1) (r := some (.inr 0, (V, (d.1 + 1, d.2 + 6)))) rfl hR9) ?_
  exact rEnd ⟨V, (d.1 + 1, d.2 + 6), rfl, C8, h81, ⟨Nat.le_refl _, fun _ _ => rfl⟩, by dsimp only; omega, by dsimp only; omega⟩
theorem kl_appendInput {a a' : eRow} {X X' : xT} {x y z u v r : Int} (h : SC m_S_appendInput [some (eI x), some (eI y), some (eI z), some (eI u), some (eI v)] a X a' X' r) : KL m_L_appendInput [some (eI x), some (eI y), some (eI z), some (eI u), some (eI v)] a X a' X' 0 r := by
  intro V d ot C h81
  obtain ⟨P1, h1⟩ := CI_1 C
  refine rKL ?_
  obtain ⟨V2, d2, q2, C2, o2, fr2, dd1, dd2⟩ := h V d ot C h81
  obtain ⟨P2, h12⟩ := CI_1 C2
  refine rOf (fun R9 hR9 => xCallA1 (N := 9) (M2 := m_L_appendInput) (pc2 := 11) (y := m_S_appendInput) (n := 6) (ls2 := [some (eR 1), some (eI x), some (eI y), some (eI z), some (eI u), some (eI v), some (eR 81)]) (st2 := [eI 0, eR 81]) (st9 := [eI v, eI u, eI z, eI y, eI x, eR 1, eI 0, eR 81]) (V := V) (d := d) (r := 1) (bs := [eI x, eI y, eI z, eI u, eI v]) rfl rfl h1 rfl q2 hR9) ?_
  refine rStV (N := 2) (M2 := m_L_appendInput) (pc2 := 15) (r := 81) (ls2 := [some (eR 1), some (eI x), some (eI y), some (eI z), some (eI u), some (eI v), some (eR 81)]) (st2 := []) (V := V2) (d := d2) (i := 0) (v := wr r) (k := 0) (ok := eOkJ) rfl o2 rfl (show wr 0 = ((0 : Nat) : Int) by decide) (by omega) (fun V101 sV101 eV101 => ?_)
  refine rOf (fun R9 hR9 => xSeg (N := 3) (r := some (.inl (some (eI 0)), (V101, d2))) rfl hR9) ?_
  exact rEnd ⟨V101, _, d2, rfl, CI_81 C2 sV101, eV101, fun _ => by rw [eUp_at], frC_81 fr2 sV101, by unfold dl; omega⟩
theorem kl_appendInputX {a : eRow} {X X' : xT} {x y z u v r : Int} (h : SX m_S_appendInput [some (eI x), some (eI y), some (eI z), some (eI u), some (eI v)] a X X' 0) : KL m_L_appendInput [some (eI x), some (eI y), some (eI z), some (eI u), some (eI v)] a X a X' 1 r := by
  intro V d ot C h81
  obtain ⟨P1, h1⟩ := CI_1 C
  refine rKL ?_
  obtain ⟨V2, d2, q2, C2, o2, fr2, dd1, dd2⟩ := h V d ot C h81
  obtain ⟨P2, h12⟩ := CI_1 C2
  refine rOf (fun R9 hR9 => xCallAC (N := 9) (M2 := m_L_appendInput) (pc2 := 11) (y := m_S_appendInput) (n := 6) (ls2 := [some (eR 1), some (eI x), some (eI y), some (eI z), some (eI u), some (eI v), some (eR 81)]) (st2 := [eI 0, eR 81]) (st9 := [eI v, eI u, eI z, eI y, eI x, eR 1, eI 0, eR 81]) (V := V) (d := d) (r := 1) (bs := [eI x, eI y, eI z, eI u, eI v]) (E := 0) (p := 21) rfl rfl h1 rfl q2 (by rfl) hR9) ?_
  refine rOf (fun R9 hR9 => xSeg (N := 2) (r := some (.inl (some (eI 1)), (V2, d2))) rfl hR9) ?_
  exact rEnd ⟨V2, ot, d2, rfl, C2, o2, fun h => absurd h (by decide), fr2, by unfold dl; omega⟩
