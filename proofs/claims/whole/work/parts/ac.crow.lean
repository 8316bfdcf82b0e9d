/-! The class: writeRow. -/
theorem suA_97 {a : eRow} {e : Nat} (h : suA a e ≠ 0) : 97 ≤ suA a e := by
  unfold suA suN at h ⊢
  cases hb : (suE a (a (244 + e)) || suE a (a (280 + e)) || decide (pc 30 (suM a (a (244 + e)) e ||| suM a (a (280 + e)) e) ≠ 1)) with
  | true => rw [hb] at h; exact absurd rfl h
  | false => show 97 ≤ 97 + _; omega
theorem CI_out {V V' : List eC} {a : eRow} {X : xT} {n : Nat} {B : Nat → Nat} {P' oY' : Nat → Int} (C : CI V a X) (hs : sb V V' [1, 69]) (h1 : eNth V' 1 = some (xC P')) (h69 : eNth V' 69 = some (eA 0 6 oY')) (h7 : P' 7 = (n : Int)) (hn : n ≤ 6) (hb : ∀ i, i < n → oY' i = (B i : Int) ∧ B i < 128) : CI V' a (ouX X n B) := by
  obtain ⟨c1, c2, c3, c4, c5⟩ := C
  have hf : ∀ k, k ≠ 1 → k ≠ 69 → eNth V' k = eNth V k := fun k h1 h2 => hs.2 k (ninL_iff (fun x hx => by
    simp only [List.mem_cons, List.not_mem_nil, or_false] at hx
    omega))
  exact ⟨CW_fr (fun k hk => hf k (by omega) (by omega)) c1, CT_fr (fun k hk => hf k (by omega) (by omega)) c2, CH_fr (Nat.le_of_eq hs.1.symm) (fun k hk => hf k (by omega) (by omega)) c3, CN_fr (fun k hk => hf k (by omega) (by omega)) c4, ⟨P', oY', h1, h69, h7, hn, hb⟩⟩
theorem w_sign {S : wS} {V : List eC} {d : Nat × Nat} {a : eRow} {z : Int} {e : Nat} (hA : wA S a) (hI : iA a) (hw : winAt V bC S) (hz : z = (e : Int)) (he : e < 36) : ev m_W_signOf 0 [some (eR 26), some (eI z)] [] (V, d) = some (.inl (some (eI ((sgn a e : Nat) : Int))), (V, d)) :=
  winV (d := d) (c_signOf (c := (0, 0)) hz he (hA.1.1.2.1 e he).1 (hI.1.2.1 e he).1 (c_sure hA hI hz he) (Nat.lt_trans (suA_lt hI he) (by omega))) hw inj_bC rfl rfl rfl
theorem rMon {x : eRes} {Q R : (Option eV ⊕ Nat) × eW → Prop} (h : ∀ r, Q r → R r) (hx : Rs x Q) : Rs x R := by
  obtain ⟨r, h1, h2⟩ := hx
  exact ⟨r, h1, h r h2⟩
set_option maxRecDepth 100000
theorem w_row9 {d : Nat × Nat} {a : eRow} {S : wS} {y z7 : Int} {yn : Nat} (hA : wA S a) (hI : iA a) (hy : y = (yn : Int)) (h2 : yn < a 1) (hz7 : z7 = ((a 0 : Nat) : Int)) : ∀ (dd xn : Nat) (V : List eC) (oY : Nat → Int) (x : Int), x = (xn : Int) → xn + dd = a 0 → eNth V 1 = some (eO 6 [eR 2, eR 3, eR 26, eR 46, eR 66, eR 68, eR 69, eI z7]) → winAt V bC S → eNth V 69 = some (eA 0 6 oY) → (∀ i, i < xn → oY i = ((sgn a (6 * yn + i) : Nat) : Int)) → Rs (ev m_S_writeRow 22 [some (eR 1), some (eI y), some (eI x)] [] (V, d)) (fun r => ∃ (V' : List eC) (oY' : Nat → Int), r = (.inl (some (eI z7)), (V', d)) ∧ sb V V' [69] ∧ eNth V' 69 = some (eA 0 6 oY') ∧ ∀ i, i < a 0 → oY' i = ((sgn a (6 * yn + i) : Nat) : Int)) := by
  have hG := hI.1.1
  intro dd
  induction dd with
  | zero =>
    intro xn V oY x hx h1 o1 w1 o69 ho
    refine rOf (fun R9 hR9 => xGetV (N := 3) (M2 := m_S_writeRow) (pc2 := 24) (r := 1) (ls2 := [some (eR 1), some (eI y), some (eI x)]) (st2 := [eI x]) (V := V) (d := d) (v := eI z7) rfl o1 rfl hR9) ?_
    refine rOf (fun R9 hR9 => xLtF (N := 1) (x := x) (y := z7) (A := ev m_S_writeRow 30 [some (eR 1), some (eI y), some (eI x)] [] (V, d)) (B := ev m_S_writeRow 54 [some (eR 1), some (eI y), some (eI x)] [] (V, d)) rfl (wr_id (by omega) (by omega)) (wr_id (by omega) (by omega)) (by omega) hR9) ?_
    refine rOf (fun R9 hR9 => xGetV (N := 2) (M2 := m_S_writeRow) (pc2 := 55) (r := 1) (ls2 := [some (eR 1), some (eI y), some (eI x)]) (st2 := []) (V := V) (d := d) (v := eI z7) rfl o1 rfl hR9) ?_
    refine rOf (fun R9 hR9 => xSeg (N := 1) (r := some (.inl (some (eI z7)), (V, d))) rfl hR9) ?_
    exact rEnd ⟨V, oY, rfl, sb_rf, o69, fun i hi => ho i (by omega)⟩
  | succ dd ih =>
    intro xn V oY x hx h1 o1 w1 o69 ho
    obtain ⟨ze, hze⟩ : ∃ ze : Int, ze = y * 6 + x := ⟨_, rfl⟩
    obtain ⟨s9, hs9⟩ : ∃ s9 : Int, s9 = ((sgn a (6 * yn + xn) : Nat) : Int) := ⟨_, rfl⟩
    have hsg := w_sign (d := d) (z := ze) (e := 6 * yn + xn) hA hI w1 (by omega) (by omega)
    rw [← hs9] at hsg
    refine rOf (fun R9 hR9 => xGetV (N := 3) (M2 := m_S_writeRow) (pc2 := 24) (r := 1) (ls2 := [some (eR 1), some (eI y), some (eI x)]) (st2 := [eI x]) (V := V) (d := d) (v := eI z7) rfl o1 rfl hR9) ?_
    refine rOf (fun R9 hR9 => xLtT (N := 1) (x := x) (y := z7) (A := ev m_S_writeRow 30 [some (eR 1), some (eI y), some (eI x)] [] (V, d)) (B := ev m_S_writeRow 54 [some (eR 1), some (eI y), some (eI x)] [] (V, d)) rfl (wr_id (by omega) (by omega)) (wr_id (by omega) (by omega)) (by omega) hR9) ?_
    refine rOf (fun R9 hR9 => xGetV (N := 2) (M2 := m_S_writeRow) (pc2 := 31) (r := 1) (ls2 := [some (eR 1), some (eI y), some (eI x)]) (st2 := []) (V := V) (d := d) (v := eR 69) rfl o1 rfl hR9) ?_
    refine rOf (fun R9 hR9 => xGetV (N := 3) (M2 := m_S_writeRow) (pc2 := 36) (r := 1) (ls2 := [some (eR 1), some (eI y), some (eI x)]) (st2 := [eI x, eR 69]) (V := V) (d := d) (v := eR 26) rfl o1 rfl hR9) ?_
    refine rOf (fun R9 hR9 => xCall (N := 3) (M2 := m_S_writeRow) (pc2 := 41) (ls2 := [some (eR 1), some (eI y), some (eI x)]) (st2 := [eR 26, eI x, eR 69]) (y := m_G_cell) (as := [some (eI x), some (eI y)]) (w2 := (V, d)) rfl (c_ce hze) hR9) ?_
    refine rOf (fun R9 hR9 => xCallA1 (N := 1) (M2 := m_S_writeRow) (pc2 := 44) (y := m_W_signOf) (n := 2) (ls2 := [some (eR 1), some (eI y), some (eI x)]) (st2 := [eI x, eR 69]) (st9 := [eI ze, eR 26, eI x, eR 69]) (V := V) (d := d) (r := 26) (bs := [eI ze]) rfl rfl (winAt_obj w1) rfl hsg hR9) ?_
    refine rStV (N := 1) (M2 := m_S_writeRow) (pc2 := 47) (r := 69) (ls2 := [some (eR 1), some (eI y), some (eI x)]) (st2 := []) (V := V) (d := d) (i := x) (v := s9) (k := xn) (ok := eOk0) rfl o69 rfl (wr_nat (by omega) (by omega)) (by omega) (fun V101 sV101 eV101 => ?_)
    refine rOf (fun R9 hR9 => xSeg (N := 2) (r := ev m_S_writeRow 22 [some (eR 1), some (eI y), some (eI (x + 1))] [] (V101, d)) rfl hR9) ?_
    refine rMon ?_ (ih (xn + 1) V101 (eUp oY xn s9) (x + 1) (by omega) (by omega) ((sV101.2 1 rfl).trans o1) (wat_fr w1 (fun j hj => sV101.2 _ (ninL_iff (fun q hq => by have := List.mem_singleton.mp hq; show 26 + j ≠ q; omega)))) eV101 (fun i hi => ?_))
    · intro r ⟨V9, oY9, k1, k2, k3, k4⟩
      exact ⟨V9, oY9, k1, sb_tr sV101 k2, k3, k4⟩
    · by_cases hix : i = xn
      · rw [hix, eUp_at, hs9]
      · rw [eUp_ne hix]; exact ho i (by omega)
theorem nin169 {k : Nat} (h : ninL k [1, 69] = true) : ninL k [1] = true ∧ ninL k [69] = true := by
  have h1 := Bool.and_eq_true_iff.mp h
  exact ⟨Bool.and_eq_true_iff.mpr ⟨h1.1, rfl⟩, h1.2⟩
theorem sc_writeRow {a : eRow} {X : xT} {y : Int} {v : Int} {yn : Nat} (hy : y = (yn : Int)) (h2 : yn < a 1) (hv : v = ((a 0 : Nat) : Int)) : SC m_S_writeRow [some (eI y)] a X (a) (ouX X (a 0) (fun i => sgn a (6 * yn + i))) v := by
  intro V d ot C h81
  have C8 := C
  obtain ⟨⟨S, w1, w2, w3, w4⟩, c2, c3, c4, c5⟩ := C
  have cc3 := c3
  obtain ⟨wd9, f9, q9, hN9, hC9, nx9, ⟨h66, h67, h68⟩, hb9⟩ := cc3
  have cc5 := c5
  obtain ⟨P, oY, o1, o69, o7⟩ := cc5
  have hI := w3
  have hI8 := hI
  obtain ⟨hG, ⟨v1, v2⟩, hO, hT, hM⟩ := hI8
  obtain ⟨⟨g1, g2, g3, g4, g5⟩, g6⟩ := hG
  have b5 := iT_24 g5 hT
  have gc : ev m_S_requireCell 0 [some (eR 1), some (eI 0), some (eI y)] [] (V, d) = some (.inl none, (V, d)) := yLift (V := V) (d := d) (y_cell (P := P) (ot := ot) (c := (0, 0)) w2 hI (x := 0) (xn := 0) rfl hy (by omega) h2) o1 h81 w1 rfl rfl
  obtain ⟨z7, hz7⟩ : ∃ z7 : Int, z7 = S 1 0 := ⟨_, rfl⟩
  have s10 : S 1 0 = _ := w2.1.1.1.1
  have w27 := w1.2.1
  have w27 : eNth V 27 = some (eO 0 [eI (S 1 0), eI (S 1 1), eR 28, eR 29, eI (S 1 4), eR 30, eR 31, eR 32, eR 33, eR 34, eR 35, eR 36]) := w1.2.1
  rw [← hz7] at w27
  refine rSC ?_
  refine rOf (fun R9 hR9 => xCallA0 (N := 4) (M2 := m_S_writeRow) (pc2 := 3) (y := m_S_requireCell) (n := 3) (ls2 := [some (eR 1), some (eI y)]) (st2 := []) (st9 := [eI y, eI 0, eR 1]) (V := V) (d := d) (r := 1) (bs := [eI 0, eI y]) rfl rfl o1 rfl gc hR9) ?_
  refine rOf (fun R9 hR9 => xGetV (N := 3) (M2 := m_S_writeRow) (pc2 := 8) (r := 1) (ls2 := [some (eR 1), some (eI y)]) (st2 := [eR 1]) (V := V) (d := d) (v := eR 26) rfl o1 rfl hR9) ?_
  refine rOf (fun R9 hR9 => xGetV (N := 1) (M2 := m_S_writeRow) (pc2 := 11) (r := 26) (ls2 := [some (eR 1), some (eI y)]) (st2 := [eR 1]) (V := V) (d := d) (v := eR 27) rfl (winAt_obj w1) rfl hR9) ?_
  refine rOf (fun R9 hR9 => xGetV (N := 1) (M2 := m_S_writeRow) (pc2 := 14) (r := 27) (ls2 := [some (eR 1), some (eI y)]) (st2 := [eR 1]) (V := V) (d := d) (v := eI z7) rfl w27 rfl hR9) ?_
  refine rPutV (N := 1) (M2 := m_S_writeRow) (pc2 := 17) (r := 1) (ls2 := [some (eR 1), some (eI y)]) (st2 := []) (V := V) (d := d) (v := eI z7) rfl o1 rfl rfl (fun V101 sV101 eV101 => ?_)
  refine rOf (fun R9 hR9 => xSeg (N := 2) (r := ev m_S_writeRow 22 [some (eR 1), some (eI y), some (eI 0)] [] (V101, d)) rfl hR9) ?_
  refine rMon ?_ (w_row9 (a := a) (S := S) (yn := yn) w2 hI hy h2 (hz7.trans s10) (a 0) 0 V101 oY 0 rfl (by omega) eV101 (wat_fr w1 (fun j hj => sV101.2 _ (ninL_iff (fun q hq => by have := List.mem_singleton.mp hq; show 26 + j ≠ q; omega)))) ((sV101.2 69 rfl).trans o69) (fun i hi => by omega))
  intro r ⟨V9, oY9, k1, k2, k3, k4⟩
  have ss : sb V V9 [1, 69] := ⟨k2.1.trans sV101.1, fun k hk => (k2.2 k (nin169 hk).2).trans (sV101.2 k (nin169 hk).1)⟩
  have C9 := CI_out (n := a 0) (B := fun i => sgn a (6 * yn + i)) (P' := fun _ => z7) C8 ss ((k2.2 1 rfl).trans eV101) k3 (by omega) (by omega) (fun i hi => ⟨k4 i hi, (sgn_b hI (by omega) suA_97).2⟩)
  exact ⟨V9, d, by rw [k1, show z7 = v by omega], C9, (ss.2 81 rfl).trans h81, ⟨Nat.le_of_eq ss.1.symm, fun k hk => ss.2 k (ninL_iff (fun x hx => by simp only [List.mem_cons, List.not_mem_nil, or_false] at hx; omega))⟩, by omega, by omega⟩
theorem sc_writeRowX {a : eRow} {X : xT} {y : Int} (bx : -2147483648 ≤ y ∧ y < 2147483648) (hn : ¬ (0 ≤ y ∧ y < (a 1 : Int))) : SX m_S_writeRow [some (eI y)] a X (X) 1 := by
  intro V d ot C h81
  have C8 := C
  obtain ⟨⟨S, w1, w2, w3, w4⟩, c2, c3, c4, c5⟩ := C
  have cc3 := c3
  obtain ⟨wd9, f9, q9, hN9, hC9, nx9, ⟨h66, h67, h68⟩, hb9⟩ := cc3
  have cc5 := c5
  obtain ⟨P, oY, o1, o69, o7⟩ := cc5
  have hI := w3
  have hI8 := hI
  obtain ⟨hG, ⟨v1, v2⟩, hO, hT, hM⟩ := hI8
  obtain ⟨⟨g1, g2, g3, g4, g5⟩, g6⟩ := hG
  have b5 := iT_24 g5 hT
  have gc : ev m_S_requireCell 0 [some (eR 1), some (eI 0), some (eI y)] [] (V, d) = some (.inr 1, (V, (d.1 + 1, d.2 + 6))) := (yLift (V := V) (d := d) (y_cellX (P := P) (ot := ot) (c := (0, 0)) w2 hI (x := 0) (by omega) bx (inG_F (by omega))) o1 h81 w1 rfl rfl).trans (by rw [Nat.zero_add, Nat.zero_add])
  refine rSX ?_
  refine rOf (fun R9 hR9 => xCallAE (N := 4) (M2 := m_S_writeRow) (pc2 := 3) (y := m_S_requireCell) (n := 3) (ls2 := [some (eR 1), some (eI y)]) (st2 := []) (st9 := [eI y, eI 0, eR 1]) (V := V) (d := d) (r := 1) (bs := [eI 0, eI y]) (E := 1) rfl rfl o1 rfl gc rfl hR9) ?_
  exact rEnd ⟨V, (d.1 + 1, d.2 + 6), rfl, C8, h81, ⟨Nat.le_refl _, fun _ _ => rfl⟩, by dsimp only; omega, by dsimp only; omega⟩
theorem kl_writeRow {a a' : eRow} {X X' : xT} {y v : Int} (h : SC m_S_writeRow [some (eI y)] a X a' X' v) : KL m_L_writeRow [some (eI y)] a X a' X' 0 v := by
  intro V d ot C h81
  obtain ⟨P1, h1⟩ := CI_1 C
  refine rKL ?_
  obtain ⟨V2, d2, q2, C2, o2, fr2, dd1, dd2⟩ := h V d ot C h81
  obtain ⟨P2, h12⟩ := CI_1 C2
  refine rOf (fun R9 hR9 => xCallA1 (N := 5) (M2 := m_L_writeRow) (pc2 := 4) (y := m_S_writeRow) (n := 2) (ls2 := [some (eR 1), some (eI y), some (eR 81)]) (st2 := [eI 0, eR 81]) (st9 := [eI y, eR 1, eI 0, eR 81]) (V := V) (d := d) (r := 1) (bs := [eI y]) rfl rfl h1 rfl q2 hR9) ?_
  refine rStV (N := 2) (M2 := m_L_writeRow) (pc2 := 8) (r := 81) (ls2 := [some (eR 1), some (eI y), some (eR 81)]) (st2 := []) (V := V2) (d := d2) (i := 0) (v := wr v) (k := 0) (ok := eOkJ) rfl o2 rfl (show wr 0 = ((0 : Nat) : Int) by decide) (by omega) (fun V101 sV101 eV101 => ?_)
  refine rOf (fun R9 hR9 => xSeg (N := 3) (r := some (.inl (some (eI 0)), (V101, d2))) rfl hR9) ?_
  exact rEnd ⟨V101, _, d2, rfl, CI_81 C2 sV101, eV101, fun _ => by rw [eUp_at], frC_81 fr2 sV101, by unfold dl; omega⟩
theorem kl_writeRowX {a : eRow} {X X' : xT} {y v : Int} (h : SX m_S_writeRow [some (eI y)] a X X' 1) : KL m_L_writeRow [some (eI y)] a X a X' 1 v := by
  intro V d ot C h81
  obtain ⟨P1, h1⟩ := CI_1 C
  refine rKL ?_
  obtain ⟨V2, d2, q2, C2, o2, fr2, dd1, dd2⟩ := h V d ot C h81
  obtain ⟨P2, h12⟩ := CI_1 C2
  refine rOf (fun R9 hR9 => xCallAC (N := 5) (M2 := m_L_writeRow) (pc2 := 4) (y := m_S_writeRow) (n := 2) (ls2 := [some (eR 1), some (eI y), some (eR 81)]) (st2 := [eI 0, eR 81]) (st9 := [eI y, eR 1, eI 0, eR 81]) (V := V) (d := d) (r := 1) (bs := [eI y]) (E := 1) (p := 13) rfl rfl h1 rfl q2 (by rfl) hR9) ?_
  refine rOf (fun R9 hR9 => xSeg (N := 2) (r := some (.inl (some (eI 1)), (V2, d2))) rfl hR9) ?_
  exact rEnd ⟨V2, ot, d2, rfl, C2, o2, fun h => absurd h (by decide), fr2, by unfold dl; omega⟩
