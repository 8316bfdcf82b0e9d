/-! The class: load. -/
def σPR (k : Nat) : eV := bif Nat.beq k 20 then eR 5 else eSt k
theorem inj_bP : inj20 bP := fun i j hi hj e => by
  have e : 6 + i = 6 + j := e
  omega
theorem nin_P {k : Nat} (h : k < 2 ∨ k = 5 ∨ 26 ≤ k) : ninL k ([2, 3, 4] ++ wLf bP) = true := ninL_app (ninL_iff (fun x hx => by
  simp only [List.mem_cons, List.not_mem_nil, or_false] at hx
  omega)) (wLf_nin (fun i hi => by show k ≠ 6 + i; omega))
theorem nin3 {k : Nat} (h : k ≠ 3) : ninL k [3] = true := ninL_iff (fun x hx => by have := List.mem_singleton.mp hx; omega)
theorem erT_b {B : Nat → Nat} {n k s : Nat} (hn : n ≤ 600) (hb : ∀ i, i < n → B i < 256) (h : erT (txS B n) = some (k, s)) : 1 ≤ k ∧ k ≤ 9 := by
  obtain ⟨P', g', mk', fr', -, h2, -⟩ := m_rd (P := fun _ => (n : Int)) (gp := fun _ => 0) (mk := fun _ => 0) (fr := fun _ => 0) (bM := fun i => (B i : Int)) rfl hn (fun i hi => ⟨rfl, hb i hi⟩)
  rw [h] at h2
  exact h2.2.2
theorem p_rd0 {V : List eC} {d : Nat × Nat} {Pp bY : Nat → Int} {Sp : wS} {ln : Int} {B : Nat → Nat} {n : Nat} (b2 : eNth V 2 = some (pX Pp)) (b3 : eNth V 3 = some (eO 2 [eR 4, eI ln, eR 5])) (b4 : eNth V 4 = some (eA 0 600 bY)) (wp : winAt V bP Sp) (l1 : ln = (n : Int)) (l2 : n ≤ 600) (l3 : ∀ i, i < 600 → bY i = (B i : Int) ∧ B i < 256) : ∃ (V' : List eC) (P' : Nat → Int) (S' : wS) (v : Int), ev m_P_readText 0 [some (eR 2)] [] (V, d) = some (.inl (some (eI v)), (V', d)) ∧ sb V V' ([2, 3, 4] ++ wLf bP) ∧ eNth V' 2 = some (pX P') ∧ eNth V' 3 = some (eO 2 [eR 4, eI ln, eR 5]) ∧ eNth V' 4 = some (eA 0 600 bY) ∧ winAt V' bP S' ∧ erC P' (erT (txS B n)) ∧ (∀ e r, txS B n = .inr (e, r) → wA S' r ∧ okR r) ∧ (∀ r, txS B n = .inr (none, r) → v = 1) ∧ (∀ z, erT (txS B n) = some z → v = 0) := by
  obtain ⟨P', S', v, q1, q2⟩ := c_readText (P := Pp) (S := Sp) (c := (0, 0)) (bY := bY) l1 l2 l3
  obtain ⟨V', e1, e2, e3⟩ := xAtR (σ := σPR) (α := [2, 3, 4] ++ wLf bP) (V := V) (d := d) (as' := [some (eR 2)]) (o' := .inl (some (eI v))) q2 (atL_app (as := [2, 3, 4]) (cs := [pX Pp, eO 2 [eR 4, eI ln, eR 5], eA 0 600 bY]) ⟨b2, b3, b4, trivial⟩ wp) rfl rfl rfl rfl rfl rfl rfl rfl
  have e2' : atL V' ([2, 3, 4] ++ wLf bP) ([pX P', eO 2 [eR 4, eI ln, eR 5], eA 0 600 bY] ++ wCf bP S') := e2
  obtain ⟨f2, f3, f4, fw⟩ := e2'
  refine ⟨V', P', S', v, e1, e3, f2, f3, f4, fw, ?_, fun e r hr => ?_, fun r hr => ?_, fun z hz => ?_⟩
  · have hb := fun k s => erT_b (k := k) (s := s) l2 (fun i hi => (l3 i (by omega)).2)
    cases ht : txS B n with
    | inl z =>
      obtain ⟨k, s⟩ := z
      rw [ht] at q1 hb
      exact ⟨q1.2.1, q1.2.2, hb k s rfl⟩
    | inr q =>
      obtain ⟨q3, r⟩ := q
      rw [ht] at q1 hb
      cases q3 with
      | none => exact q1.2.1
      | some z =>
        obtain ⟨k, s⟩ := z
        exact ⟨q1.2.1, q1.2.2.1, hb k s rfl⟩
  · have hB := txS_iB hr
    rw [hr] at q1
    cases e with
    | none => exact ⟨q1.2.2.1, q1.2.2.2, hB⟩
    | some z =>
      obtain ⟨k, s⟩ := z
      exact ⟨q1.2.2.2.1, q1.2.2.2.2, hB⟩
  · rw [hr] at q1
    exact q1.1
  · cases ht : txS B n with
    | inl z =>
      obtain ⟨k, s⟩ := z
      rw [ht] at q1
      exact q1.1
    | inr q =>
      obtain ⟨q3, r⟩ := q
      rw [ht] at q1 hz
      cases q3 with
      | none => cases hz
      | some z =>
        obtain ⟨k, s⟩ := z
        exact q1.1
theorem p_read {V : List eC} {d : Nat × Nat} {a : eRow} {X : xT} (C : CI V a X) : ∃ (V' : List eC) (P' : Nat → Int) (S' : wS) (ln v : Int), ev m_P_readText 0 [some (eR 2)] [] (V, d) = some (.inl (some (eI v)), (V', d)) ∧ sb V V' ([2, 3, 4] ++ wLf bP) ∧ eNth V' 2 = some (pX P') ∧ eNth V' 3 = some (eO 2 [eR 4, eI ln, eR 5]) ∧ winAt V' bP S' ∧ (∀ V2, sb V' V2 [3] → eNth V2 3 = some (eO 2 [eR 4, eI 0, eR 5]) → CI V2 a (inX (erX X (erT (txS X.2.2.1.2 X.2.2.1.1))) 0 X.2.2.1.2)) ∧ (∀ r, txS X.2.2.1.2 X.2.2.1.1 = .inr (none, r) → v = 1 ∧ wA S' r ∧ okR r) ∧ (∀ z, erT (txS X.2.2.1.2 X.2.2.1.1) = some z → v = 0) := by
  obtain ⟨c1, c2, c3, ⟨Pp, bY, sp, Sp, ln, ⟨b2, b3, b4, b5⟩, wp, ⟨l1, l2, l3⟩, er⟩, c5⟩ := C
  obtain ⟨V', P', S', v, e1, e3, f2, f3, f4, fw, her, h1, h2, h3⟩ := p_rd0 (d := d) b2 b3 b4 wp l1 l2 l3
  have hf : ∀ k, (k < 2 ∨ k = 5 ∨ 26 ≤ k) → eNth V' k = eNth V k := fun k h => e3.2 k (nin_P h)
  refine ⟨V', P', S', ln, v, e1, e3, f2, f3, fw, fun V2 hs h3 => ?_, fun r hr => ⟨h2 r hr, h1 none r hr⟩, h3⟩
  have hg : ∀ k, k ≠ 3 → eNth V2 k = eNth V' k := fun k h => hs.2 k (nin3 h)
  have hh : ∀ k, (k < 2 ∨ k = 5 ∨ 26 ≤ k) → eNth V2 k = eNth V k := fun k h => (hg k (by omega)).trans (hf k h)
  exact ⟨CW_fr (fun k hk => hh k (by omega)) c1, CT_fr (fun k hk => hh k (by omega)) c2, CH_fr (by rw [hs.1, e3.1]; exact Nat.le_refl _) (fun k hk => hh k (by omega)) c3, ⟨P', bY, sp, S', 0, ⟨(hg 2 (by omega)).trans f2, h3, (hg 4 (by omega)).trans f4, (hh 5 (by omega)).trans b5⟩, wat_fr fw (fun i hi => hg _ (by show 6 + i ≠ 3; omega)), ⟨rfl, Nat.zero_le _, l3⟩, her⟩, CO_fr (fun k hk => hh k (by omega)) c5⟩
set_option maxRecDepth 100000
theorem sc_load {a : eRow} {X : xT} {v : Int} {r : eRow} (ht : txS X.2.2.1.2 X.2.2.1.1 = .inr (none, r)) (hv : v = ((r 2 : Nat) : Int)) : SC m_S_load [] a X (r) (pushX (inX (erX X none) 0 X.2.2.1.2) a) v := by
  intro V d ot C h81
  have C8 := C
  obtain ⟨⟨S, w1, w2, w3, w4⟩, c2, c3, c4, c5⟩ := C
  have cc3 := c3
  obtain ⟨wd9, f9, q9, hN9, hC9, nx9, ⟨h66, h67, h68⟩, hb9⟩ := cc3
  have cc5 := c5
  obtain ⟨P, oY, o1, o69, o7⟩ := cc5
  have hI := w3
  have hI8 := hI
  obtain ⟨hG, ⟨v1, v2⟩, hO, hT, hM⟩ := hI8
  obtain ⟨⟨g1, g2, g3, g4, g5⟩, g6⟩ := hG
  have b5 := iT_24 g5 hT
  obtain ⟨Pq, bYq, spq, Spq, lnq, ⟨b2, b3q, b4q, b5q⟩, wpq⟩ := c4
  obtain ⟨V1, P1, S1, ln1, v9, q1, s1, k2, k3, wp1, hCI, hok, hno⟩ := p_read (d := d) C8
  have o11 := (s1.2 1 rfl).trans o1
  have h661 := (s1.2 66 rfl).trans h66
  have h811 := (s1.2 81 rfl).trans h81
  obtain ⟨hv1, hw1, ho1⟩ := hok r ht
  subst hv1
  rw [ht] at hCI
  have hCI2 : ∀ V2, sb V1 V2 [3] → eNth V2 3 = some (eO 2 [eR 4, eI 0, eR 5]) → CI V2 a (inX (erX X none) 0 X.2.2.1.2) := hCI
  refine rSC ?_
  refine rOf (fun R9 hR9 => xGetV (N := 2) (M2 := m_S_load) (pc2 := 1) (r := 1) (ls2 := [some (eR 1)]) (st2 := []) (V := V) (d := d) (v := eR 2) rfl o1 rfl hR9) ?_
  refine rOf (fun R9 hR9 => xCallA1 (N := 1) (M2 := m_S_load) (pc2 := 4) (y := m_P_readText) (n := 1) (ls2 := [some (eR 1)]) (st2 := []) (st9 := [eR 2]) (V := V) (d := d) (r := 2) (bs := []) rfl rfl b2 rfl q1 hR9) ?_
  refine rOf (fun R9 hR9 => xGetV (N := 3) (M2 := m_S_load) (pc2 := 9) (r := 1) (ls2 := [some (eR 1), some (eI 1)]) (st2 := []) (V := V1) (d := d) (v := eR 3) rfl o11 rfl hR9) ?_
  refine rPutV (N := 2) (M2 := m_S_load) (pc2 := 13) (r := 3) (ls2 := [some (eR 1), some (eI 1)]) (st2 := []) (V := V1) (d := d) (v := eI 0) rfl k3 rfl rfl (fun V101 sV101 eV101 => ?_)
  refine rOf (fun R9 hR9 => xEqF (N := 2) (x := 1) (y := 0) (A := ev m_S_load 20 [some (eR 1), some (eI 1)] [] (V101, d)) (B := ev m_S_load 28 [some (eR 1), some (eI 1)] [] (V101, d)) rfl (show wr 1 = 1 by decide) (show wr 0 = 0 by decide) (by decide) hR9) ?_
  refine rOf (fun R9 hR9 => xGetV (N := 2) (M2 := m_S_load) (pc2 := 29) (r := 1) (ls2 := [some (eR 1), some (eI 1)]) (st2 := []) (V := V101) (d := d) (v := eR 66) rfl ((sV101.2 1 rfl).trans o11) rfl hR9) ?_
  refine rOf (fun R9 hR9 => xGetV (N := 2) (M2 := m_S_load) (pc2 := 33) (r := 1) (ls2 := [some (eR 1), some (eI 1)]) (st2 := [eR 66]) (V := V101) (d := d) (v := eR 26) rfl ((sV101.2 1 rfl).trans o11) rfl hR9) ?_
  have C1 := hCI2 V101 sV101 eV101
  have w11 : winAt V101 bP S1 := wat_fr wp1 (fun j hj => sV101.2 _ (nin3 (by show 6 + j ≠ 3; omega)))
  obtain ⟨V2, d2, qr, C2, l2, f2, dd1, dd2⟩ := h_rem (d := d) C1
  have o12 := (f2 1 (by omega)).trans ((sV101.2 1 rfl).trans o11)
  have k22 := (f2 2 (by omega)).trans ((sV101.2 2 rfl).trans k2)
  have h812 := (f2 81 (by omega)).trans ((sV101.2 81 rfl).trans h811)
  have w12 : winAt V2 bP S1 := wat_fr w11 (fun j hj => f2 _ (by show 6 + j < 26 ∨ _; omega))
  have C28 := C2
  obtain ⟨⟨S2, w22, w32, w42⟩, C2r⟩ := C28
  have hap : apart bC bP := fun i j hi hj e => by
    have e : 26 + i = 6 + j := e
    omega
  obtain ⟨V3, e1, e2, e3⟩ := cpI (d := d2) w22 w12 inj_bC inj_bP hap
  have wAr : wA (cpW S2 S1) r := wA_cp ho1.1 hw1
  have C3 := CI_win C2 e2 wAr ho1 e3
  have o13 := (e3.2 1 (nin_bC (by omega))).trans o12
  have m23 : cpW S2 S1 11 0 = _ := wAr.2.1.1
  refine rOf (fun R9 hR9 => xCallA0 (N := 1) (M2 := m_S_load) (pc2 := 36) (y := m_H_remember) (n := 2) (ls2 := [some (eR 1), some (eI 1)]) (st2 := []) (st9 := [eR 26, eR 66]) (V := V101) (d := d) (r := 66) (bs := [eR 26]) rfl rfl ((sV101.2 66 rfl).trans h661) rfl qr hR9) ?_
  refine rOf (fun R9 hR9 => xGetV (N := 2) (M2 := m_S_load) (pc2 := 40) (r := 1) (ls2 := [some (eR 1), some (eI 1)]) (st2 := []) (V := V2) (d := d2) (v := eR 26) rfl o12 rfl hR9) ?_
  refine rOf (fun R9 hR9 => xGetV (N := 2) (M2 := m_S_load) (pc2 := 44) (r := 1) (ls2 := [some (eR 1), some (eI 1)]) (st2 := [eR 26]) (V := V2) (d := d2) (v := eR 2) rfl o12 rfl hR9) ?_
  refine rOf (fun R9 hR9 => xGetV (N := 1) (M2 := m_S_load) (pc2 := 47) (r := 2) (ls2 := [some (eR 1), some (eI 1)]) (st2 := [eR 26]) (V := V2) (d := d2) (v := eR 6) rfl k22 rfl hR9) ?_
  refine rOf (fun R9 hR9 => xCallA0 (N := 1) (M2 := m_S_load) (pc2 := 50) (y := m_W_copyFrom) (n := 2) (ls2 := [some (eR 1), some (eI 1)]) (st2 := []) (st9 := [eR 6, eR 26]) (V := V2) (d := d2) (r := 26) (bs := [eR 6]) rfl rfl (winAt_obj w22) rfl e1 hR9) ?_
  refine rOf (fun R9 hR9 => xGetV (N := 2) (M2 := m_S_load) (pc2 := 54) (r := 1) (ls2 := [some (eR 1), some (eI 1)]) (st2 := []) (V := V3) (d := d2) (v := eR 26) rfl o13 rfl hR9) ?_
  refine rOf (fun R9 hR9 => xGetV (N := 1) (M2 := m_S_load) (pc2 := 57) (r := 26) (ls2 := [some (eR 1), some (eI 1)]) (st2 := []) (V := V3) (d := d2) (v := eR 37) rfl (winAt_obj e2) rfl hR9) ?_
  refine rOf (fun R9 hR9 => xGetV (N := 1) (M2 := m_S_load) (pc2 := 60) (r := 37) (ls2 := [some (eR 1), some (eI 1)]) (st2 := []) (V := V3) (d := d2) (v := eI (cpW S2 S1 11 0)) rfl e2.2.2.2.2.2.2.2.2.2.2.2.1 rfl hR9) ?_
  refine rOf (fun R9 hR9 => xSeg (N := 1) (r := some (.inl (some (eI (cpW S2 S1 11 0))), (V3, d2))) rfl hR9) ?_
  exact rEnd ⟨V3, d2, by rw [hv, ← m23], C3, (e3.2 81 (nin_bC (by omega))).trans h812, ⟨by have := e3.1; have := sV101.1; have := s1.1; omega, fun k hk => (e3.2 k (nin_bC (by omega))).trans ((f2 k (by omega)).trans ((sV101.2 k (nin3 (by omega))).trans (s1.2 k (nin_P (by omega)))))⟩, by omega, by omega⟩
theorem sc_loadX {a : eRow} {X : xT} {z : Nat × Nat} (ht : erT (txS X.2.2.1.2 X.2.2.1.1) = some z) : SX m_S_load [] a X (inX (erX X (some z)) 0 X.2.2.1.2) 1 := by
  intro V d ot C h81
  have C8 := C
  obtain ⟨⟨S, w1, w2, w3, w4⟩, c2, c3, c4, c5⟩ := C
  have cc3 := c3
  obtain ⟨wd9, f9, q9, hN9, hC9, nx9, ⟨h66, h67, h68⟩, hb9⟩ := cc3
  have cc5 := c5
  obtain ⟨P, oY, o1, o69, o7⟩ := cc5
  have hI := w3
  have hI8 := hI
  obtain ⟨hG, ⟨v1, v2⟩, hO, hT, hM⟩ := hI8
  obtain ⟨⟨g1, g2, g3, g4, g5⟩, g6⟩ := hG
  have b5 := iT_24 g5 hT
  obtain ⟨Pq, bYq, spq, Spq, lnq, ⟨b2, b3q, b4q, b5q⟩, wpq⟩ := c4
  obtain ⟨V1, P1, S1, ln1, v9, q1, s1, k2, k3, wp1, hCI, hok, hno⟩ := p_read (d := d) C8
  have o11 := (s1.2 1 rfl).trans o1
  have h661 := (s1.2 66 rfl).trans h66
  have h811 := (s1.2 81 rfl).trans h81
  have hv1 := hno z ht
  subst hv1
  rw [ht] at hCI
  refine rSX ?_
  refine rOf (fun R9 hR9 => xGetV (N := 2) (M2 := m_S_load) (pc2 := 1) (r := 1) (ls2 := [some (eR 1)]) (st2 := []) (V := V) (d := d) (v := eR 2) rfl o1 rfl hR9) ?_
  refine rOf (fun R9 hR9 => xCallA1 (N := 1) (M2 := m_S_load) (pc2 := 4) (y := m_P_readText) (n := 1) (ls2 := [some (eR 1)]) (st2 := []) (st9 := [eR 2]) (V := V) (d := d) (r := 2) (bs := []) rfl rfl b2 rfl q1 hR9) ?_
  refine rOf (fun R9 hR9 => xGetV (N := 3) (M2 := m_S_load) (pc2 := 9) (r := 1) (ls2 := [some (eR 1), some (eI 0)]) (st2 := []) (V := V1) (d := d) (v := eR 3) rfl o11 rfl hR9) ?_
  refine rPutV (N := 2) (M2 := m_S_load) (pc2 := 13) (r := 3) (ls2 := [some (eR 1), some (eI 0)]) (st2 := []) (V := V1) (d := d) (v := eI 0) rfl k3 rfl rfl (fun V101 sV101 eV101 => ?_)
  refine rOf (fun R9 hR9 => xEqT (N := 2) (x := 0) (y := 0) (A := ev m_S_load 20 [some (eR 1), some (eI 0)] [] (V101, d)) (B := ev m_S_load 28 [some (eR 1), some (eI 0)] [] (V101, d)) rfl (show wr 0 = 0 by decide) (show wr 0 = 0 by decide) (by decide) hR9) ?_
  refine rOf (fun R9 hR9 => xSeg (N := 1) (r := some (.inr 1, (V101, (d.1 + 1, d.2 + 6)))) rfl hR9) ?_
  exact rEnd ⟨V101, (d.1 + 1, d.2 + 6), rfl, hCI V101 sV101 eV101, (sV101.2 81 rfl).trans h811, ⟨Nat.le_of_eq (sV101.1.trans s1.1).symm, fun k hk => (sV101.2 k (nin3 (by omega))).trans (s1.2 k (nin_P (by omega)))⟩, by dsimp only; omega, by dsimp only; omega⟩
theorem kl_load {a a' : eRow} {X X' : xT} {v : Int} (h : SC m_S_load [] a X a' X' v) : KL m_L_load [] a X a' X' 0 v := by
  intro V d ot C h81
  obtain ⟨P1, h1⟩ := CI_1 C
  refine rKL ?_
  obtain ⟨V2, d2, q2, C2, o2, fr2, dd1, dd2⟩ := h V d ot C h81
  obtain ⟨P2, h12⟩ := CI_1 C2
  refine rOf (fun R9 hR9 => xCallA1 (N := 4) (M2 := m_L_load) (pc2 := 3) (y := m_S_load) (n := 1) (ls2 := [some (eR 1), some (eR 81)]) (st2 := [eI 0, eR 81]) (st9 := [eR 1, eI 0, eR 81]) (V := V) (d := d) (r := 1) (bs := []) rfl rfl h1 rfl q2 hR9) ?_
  refine rStV (N := 2) (M2 := m_L_load) (pc2 := 7) (r := 81) (ls2 := [some (eR 1), some (eR 81)]) (st2 := []) (V := V2) (d := d2) (i := 0) (v := wr v) (k := 0) (ok := eOkJ) rfl o2 rfl (show wr 0 = ((0 : Nat) : Int) by decide) (by omega) (fun V101 sV101 eV101 => ?_)
  refine rOf (fun R9 hR9 => xSeg (N := 3) (r := some (.inl (some (eI 0)), (V101, d2))) rfl hR9) ?_
  exact rEnd ⟨V101, _, d2, rfl, CI_81 C2 sV101, eV101, fun _ => by rw [eUp_at], frC_81 fr2 sV101, by unfold dl; omega⟩
theorem kl_loadX {a : eRow} {X X' : xT} {v : Int} (h : SX m_S_load [] a X X' 1) : KL m_L_load [] a X a X' 1 v := by
  intro V d ot C h81
  obtain ⟨P1, h1⟩ := CI_1 C
  refine rKL ?_
  obtain ⟨V2, d2, q2, C2, o2, fr2, dd1, dd2⟩ := h V d ot C h81
  obtain ⟨P2, h12⟩ := CI_1 C2
  refine rOf (fun R9 hR9 => xCallAC (N := 4) (M2 := m_L_load) (pc2 := 3) (y := m_S_load) (n := 1) (ls2 := [some (eR 1), some (eR 81)]) (st2 := [eI 0, eR 81]) (st9 := [eR 1, eI 0, eR 81]) (V := V) (d := d) (r := 1) (bs := []) (E := 1) (p := 12) rfl rfl h1 rfl q2 (by rfl) hR9) ?_
  refine rOf (fun R9 hR9 => xSeg (N := 2) (r := some (.inl (some (eI 1)), (V2, d2))) rfl hR9) ?_
  exact rEnd ⟨V2, ot, d2, rfl, C2, o2, fun h => absurd h (by decide), fr2, by unfold dl; omega⟩
