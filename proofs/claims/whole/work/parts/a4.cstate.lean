/-! The class's methods that change the window. -/
theorem h_remS {V : List eC} {d : Nat × Nat} {a : eRow} {X : xT} {i : Nat} {r : eRow} (C : CI V a X) (hi : i < 2) (hr : X.2.1 i = some r) : ∃ (b : Nat → Nat) (T : wS) (q : Nat → Option Nat) (V' : List eC) (d' : Nat × Nat), eNth V 68 = some (eQ 2 q) ∧ q i = some (b 0) ∧ winAt V b T ∧ inj20 b ∧ (∀ j, j < 20 → 82 ≤ b j) ∧ winAt V' b T ∧ wA T r ∧ okR r ∧ ev m_H_remember 0 [some (eR 66), some (eR 26)] [] (V, d) = some (.inl none, (V', d')) ∧ CI V' a (pushX X a) ∧ V.length ≤ V'.length ∧ (∀ k, k < 26 ∨ (46 ≤ k ∧ k < 66) ∨ (69 ≤ k ∧ k < 82) → eNth V' k = eNth V k) ∧ d'.1 ≤ d.1 + 20 ∧ d'.2 ≤ d.2 + 1560 := by
  obtain ⟨⟨S, w1, w2, w3⟩, c2, c3, c4, c5⟩ := C
  obtain ⟨wd, f, q, hN, hC, nx, x1, ⟨x2, x3, x4, x5⟩, x6, x7⟩ := CH_x.mp c3
  obtain ⟨r9, t1, V', d', t2, t3, t4, t5, t6, t7, t8, t9⟩ := h_rem1 (d := d) x1 x4 x5 x2 x3 w1 w2 w3 x6 x7
  subst t2
  have y := x7 i hi
  rw [hr] at y
  obtain ⟨b, T, y1, y2, y3⟩ := y
  obtain ⟨z1, z2, z3⟩ := x1.2.2.2.1.1 (8 + i) b T (by omega) y1
  exact ⟨b, T, q, V', d', x1.1.2.2, by rw [x1.2.2.1 i hi, y1]; rfl, z3, z1, z2, t9 (8 + i) b T (by omega) (by omega) y1, y2, y3, t1, ⟨⟨S, t4, w2, w3⟩, CT_fr (fun k hk => t6 k (by omega)) c2, t3, CN_fr (fun k hk => t6 k (by omega)) c4, CO_fr (fun k hk => t6 k (by omega)) c5⟩, t5, t6, t7, t8⟩
theorem h_rem {V : List eC} {d : Nat × Nat} {a : eRow} {X : xT} (C : CI V a X) : ∃ (V' : List eC) (d' : Nat × Nat), ev m_H_remember 0 [some (eR 66), some (eR 26)] [] (V, d) = some (.inl none, (V', d')) ∧ CI V' a (pushX X a) ∧ V.length ≤ V'.length ∧ (∀ k, k < 26 ∨ (46 ≤ k ∧ k < 66) ∨ (69 ≤ k ∧ k < 82) → eNth V' k = eNth V k) ∧ d'.1 ≤ d.1 + 20 ∧ d'.2 ≤ d.2 + 1560 := by
  obtain ⟨⟨S, w1, w2, w3⟩, c2, c3, c4, c5⟩ := C
  obtain ⟨wd, f, q, hN, hC, nx, x1, ⟨x2, x3, x4, x5⟩, x6, x7⟩ := CH_x.mp c3
  obtain ⟨r, t1, V', d', t2, t3, t4, t5, t6, t7, t8, -⟩ := h_rem1 (d := d) x1 x4 x5 x2 x3 w1 w2 w3 x6 x7
  subst t2
  exact ⟨V', d', t1, ⟨⟨S, t4, w2, w3⟩, CT_fr (fun k hk => t6 k (by omega)) c2, t3, CN_fr (fun k hk => t6 k (by omega)) c4, CO_fr (fun k hk => t6 k (by omega)) c5⟩, t5, t6, t7, t8⟩
theorem CI_win {V V' : List eC} {a a' : eRow} {X : xT} {S' : wS} (C : CI V a X) (hw : winAt V' bC S') (hA : wA S' a') (ho : okR a') (hs : sb V V' (wLf bC)) : CI V' a' X := by
  obtain ⟨c1, c2, c3, c4, c5⟩ := C
  have hf : ∀ k, (k < 26 ∨ 46 ≤ k) → eNth V' k = eNth V k := fun k h => hs.2 k (nin_bC h)
  exact ⟨⟨S', hw, hA, ho⟩, CT_fr (fun k hk => hf k (by omega)) c2, CH_fr (Nat.le_of_eq hs.1.symm) (fun k hk => hf k (by omega)) c3, CN_fr (fun k hk => hf k (by omega)) c4, CO_fr (fun k hk => hf k (by omega)) c5⟩
theorem CI_81 {V V' : List eC} {a : eRow} {X : xT} (C : CI V a X) (hs : sb V V' [81]) : CI V' a X := CI_fr (Nat.le_of_eq hs.1.symm) (fun k hk => hs.2 k (ninL_iff (fun x hx => by have := List.mem_singleton.mp hx; omega))) C
theorem frC_81 {V V2 V' : List eC} (h : V.length ≤ V2.length ∧ ∀ k, (k = 0 ∨ (70 ≤ k ∧ k ≤ 80)) → eNth V2 k = eNth V k) (hs : sb V2 V' [81]) : frC V V' := ⟨by rw [hs.1]; exact h.1, fun k hk => (hs.2 k (ninL_iff (fun x hx => by have := List.mem_singleton.mp hx; omega))).trans (h.2 k hk)⟩
/-- a method of the class answers v -/
def SC (y : Nat) (as : eL) (a : eRow) (X : xT) (a' : eRow) (X' : xT) (v : Int) : Prop := ∀ (V : List eC) (d : Nat × Nat) (ot : Nat → Int), CI V a X → eNth V 81 = some (eA 3 1 ot) → ∃ (V' : List eC) (d' : Nat × Nat), ev y 0 (some (eR 1) :: as) [] (V, d) = some (.inl (some (eI v)), (V', d')) ∧ CI V' a' X' ∧ eNth V' 81 = some (eA 3 1 ot) ∧ (V.length ≤ V'.length ∧ ∀ k, (k = 0 ∨ (70 ≤ k ∧ k ≤ 80)) → eNth V' k = eNth V k) ∧ d'.1 ≤ d.1 + 22 ∧ d'.2 ≤ d.2 + 1900
/-- it throws -/
def SX (y : Nat) (as : eL) (a : eRow) (X : xT) (X' : xT) (E : Nat) : Prop := ∀ (V : List eC) (d : Nat × Nat) (ot : Nat → Int), CI V a X → eNth V 81 = some (eA 3 1 ot) → ∃ (V' : List eC) (d' : Nat × Nat), ev y 0 (some (eR 1) :: as) [] (V, d) = some (.inr E, (V', d')) ∧ CI V' a X' ∧ eNth V' 81 = some (eA 3 1 ot) ∧ (V.length ≤ V'.length ∧ ∀ k, (k = 0 ∨ (70 ≤ k ∧ k ≤ 80)) → eNth V' k = eNth V k) ∧ d'.1 ≤ d.1 + 22 ∧ d'.2 ≤ d.2 + 1900
/-- as the law asks it -/
def KL (y : Nat) (as : eL) (a : eRow) (X : xT) (a' : eRow) (X' : xT) (t v : Int) : Prop := ∀ (V : List eC) (d : Nat × Nat) (ot : Nat → Int), CI V a X → eNth V 81 = some (eA 3 1 ot) → ∃ (V' : List eC) (ot' : Nat → Int) (d' : Nat × Nat), ev y 0 (some (eR 1) :: (as ++ [some (eR 81)])) [] (V, d) = some (.inl (some (eI t)), (V', d')) ∧ CI V' a' X' ∧ eNth V' 81 = some (eA 3 1 ot') ∧ (t = 0 → ot' 0 = wr v) ∧ frC V V' ∧ dl d d'
theorem rSC {x : eRes} {r : Option eV ⊕ Nat} {V : List eC} {d : Nat × Nat} {ot : Nat → Int} {a' : eRow} {X' : xT} (h : Rs x (fun z => ∃ (V' : List eC) (d' : Nat × Nat), z = (r, (V', d')) ∧ CI V' a' X' ∧ eNth V' 81 = some (eA 3 1 ot) ∧ (V.length ≤ V'.length ∧ ∀ k, (k = 0 ∨ (70 ≤ k ∧ k ≤ 81)) → eNth V' k = eNth V k) ∧ d'.1 ≤ d.1 + 22 ∧ d'.2 ≤ d.2 + 1900)) : ∃ (V' : List eC) (d' : Nat × Nat), x = some (r, (V', d')) ∧ CI V' a' X' ∧ eNth V' 81 = some (eA 3 1 ot) ∧ (V.length ≤ V'.length ∧ ∀ k, (k = 0 ∨ (70 ≤ k ∧ k ≤ 80)) → eNth V' k = eNth V k) ∧ d'.1 ≤ d.1 + 22 ∧ d'.2 ≤ d.2 + 1900 := by
  obtain ⟨z, h1, V', d', h2, h3, h4, h5, h6⟩ := h
  subst h2
  exact ⟨V', d', h1, h3, h4, ⟨h5.1, fun k hk => h5.2 k (by omega)⟩, h6⟩
theorem rSX {x : eRes} {r : Option eV ⊕ Nat} {V : List eC} {d : Nat × Nat} {ot : Nat → Int} {a' : eRow} {X' : xT} (h : Rs x (fun z => ∃ (V' : List eC) (d' : Nat × Nat), z = (r, (V', d')) ∧ CI V' a' X' ∧ eNth V' 81 = some (eA 3 1 ot) ∧ (V.length ≤ V'.length ∧ ∀ k, (k = 0 ∨ (70 ≤ k ∧ k ≤ 81)) → eNth V' k = eNth V k) ∧ d'.1 ≤ d.1 + 22 ∧ d'.2 ≤ d.2 + 1900)) : ∃ (V' : List eC) (d' : Nat × Nat), x = some (r, (V', d')) ∧ CI V' a' X' ∧ eNth V' 81 = some (eA 3 1 ot) ∧ (V.length ≤ V'.length ∧ ∀ k, (k = 0 ∨ (70 ≤ k ∧ k ≤ 80)) → eNth V' k = eNth V k) ∧ d'.1 ≤ d.1 + 22 ∧ d'.2 ≤ d.2 + 1900 := rSC h
theorem rKL {x : eRes} {V : List eC} {d : Nat × Nat} {a' : eRow} {X' : xT} {t v : Int} (h : Rs x (fun z => ∃ (V' : List eC) (ot' : Nat → Int) (d' : Nat × Nat), z = (.inl (some (eI t)), (V', d')) ∧ CI V' a' X' ∧ eNth V' 81 = some (eA 3 1 ot') ∧ (t = 0 → ot' 0 = wr v) ∧ frC V V' ∧ dl d d')) : ∃ (V' : List eC) (ot' : Nat → Int) (d' : Nat × Nat), x = some (.inl (some (eI t)), (V', d')) ∧ CI V' a' X' ∧ eNth V' 81 = some (eA 3 1 ot') ∧ (t = 0 → ot' 0 = wr v) ∧ frC V V' ∧ dl d d' := by
  obtain ⟨z, h1, V', ot', d', h2, h3⟩ := h
  subst h2
  exact ⟨V', ot', d', h1, h3⟩
theorem w_cs {S : wS} {V : List eC} {d : Nat × Nat} {a : eRow} (hA : wA S a) (hI : iA a) (hw : winAt V bC S) : ev m_W_canStep 0 [some (eR 26)] [] (V, d) = some (.inl (some (eI (bI (cnS a)))), (V, d)) :=
  winV (d := d) (c_canStep (c := (0, 0)) hA.1.1.1.2.2 hI.1.1.2.2.2.2 hA.2.2.2 hI.2.2.2.2.1) hw inj_bC rfl rfl rfl
set_option maxRecDepth 100000
theorem sc_takeBack {a : eRow} {X : xT} {v : Int} (h5 : 0 < a 5) (hv : v = ((tbA a 4 : Nat) : Int)) : SC m_S_takeBack [] a X (tbA a) (pushX X a) v := by
  intro V d ot C h81
  have C8 := C
  obtain ⟨⟨S, w1, w2, w3, w4⟩, c2, c3, c4, c5⟩ := C
  have cc3 := c3
  obtain ⟨wd9, f9, q9, hN9, hC9, nx9, ⟨h66, h67, h68⟩, hb9⟩ := cc3
  have cc5 := c5
  obtain ⟨P, oY, o1, o69, o7⟩ := cc5
  have hI := w3
  have hI8 := hI
  obtain ⟨hG, ⟨v1, v2⟩, hO, hT, hM⟩ := hI8
  obtain ⟨⟨g1, g2, g3, g4, g5⟩, g6⟩ := hG
  have b5 := iT_24 g5 hT
  have d5 : S 0 4 = _ := w2.2.2.1.1.1
  refine rSC ?_
  refine rOf (fun R9 hR9 => xGetV (N := 2) (M2 := m_S_takeBack) (pc2 := 1) (r := 1) (ls2 := [some (eR 1)]) (st2 := []) (V := V) (d := d) (v := eR 26) rfl o1 rfl hR9) ?_
  refine rOf (fun R9 hR9 => xGetV (N := 1) (M2 := m_S_takeBack) (pc2 := 4) (r := 26) (ls2 := [some (eR 1)]) (st2 := []) (V := V) (d := d) (v := eI (S 0 4)) rfl (winAt_obj w1) rfl hR9) ?_
  refine rOf (fun R9 hR9 => xEqF (N := 1) (x := (S 0 4)) (y := 0) (A := ev m_S_takeBack 10 [some (eR 1)] [] (V, d)) (B := ev m_S_takeBack 18 [some (eR 1)] [] (V, d)) rfl (wr_id (by omega) (by omega)) (show wr 0 = 0 by decide) (by omega) hR9) ?_
  refine rOf (fun R9 hR9 => xGetV (N := 2) (M2 := m_S_takeBack) (pc2 := 19) (r := 1) (ls2 := [some (eR 1)]) (st2 := []) (V := V) (d := d) (v := eR 66) rfl o1 rfl hR9) ?_
  refine rOf (fun R9 hR9 => xGetV (N := 2) (M2 := m_S_takeBack) (pc2 := 23) (r := 1) (ls2 := [some (eR 1)]) (st2 := [eR 66]) (V := V) (d := d) (v := eR 26) rfl o1 rfl hR9) ?_
  obtain ⟨V2, d2, qr, C2, l2, f2, dd1, dd2⟩ := h_rem (d := d) C8
  have o12 := (f2 1 (by omega)).trans o1
  have h812 := (f2 81 (by omega)).trans h81
  have C28 := C2
  obtain ⟨⟨S2, w12, w22, w32⟩, C2r⟩ := C28
  refine rOf (fun R9 hR9 => xCallA0 (N := 1) (M2 := m_S_takeBack) (pc2 := 26) (y := m_H_remember) (n := 2) (ls2 := [some (eR 1)]) (st2 := []) (st9 := [eR 26, eR 66]) (V := V) (d := d) (r := 66) (bs := [eR 26]) rfl rfl h66 rfl qr hR9) ?_
  refine rOf (fun R9 hR9 => xGetV (N := 2) (M2 := m_S_takeBack) (pc2 := 30) (r := 1) (ls2 := [some (eR 1)]) (st2 := []) (V := V2) (d := d2) (v := eR 26) rfl o12 rfl hR9) ?_
  obtain ⟨S3, hA3, q3⟩ := c_dropGuess (c := (0, 0)) w22 hI h5
  obtain ⟨V3, e1, e2, e3⟩ := winR (d := d2) q3 w12 inj_bC rfl rfl rfl
  have o13 := (e3.2 1 (nin_bC (by omega))).trans o12
  have C3 := CI_win C2 e2 hA3 ⟨iA_tb hI h5, iB_tb w4⟩ e3
  have m03 : S3 0 3 = _ := hA3.2.2.2
  refine rOf (fun R9 hR9 => xCallA0 (N := 1) (M2 := m_S_takeBack) (pc2 := 33) (y := m_W_dropGuess) (n := 1) (ls2 := [some (eR 1)]) (st2 := []) (st9 := [eR 26]) (V := V2) (d := d2) (r := 26) (bs := []) rfl rfl (winAt_obj w12) rfl e1 hR9) ?_
  refine rOf (fun R9 hR9 => xGetV (N := 2) (M2 := m_S_takeBack) (pc2 := 37) (r := 1) (ls2 := [some (eR 1)]) (st2 := []) (V := V3) (d := d2) (v := eR 26) rfl o13 rfl hR9) ?_
  refine rOf (fun R9 hR9 => xGetV (N := 1) (M2 := m_S_takeBack) (pc2 := 40) (r := 26) (ls2 := [some (eR 1)]) (st2 := []) (V := V3) (d := d2) (v := eI (S3 0 3)) rfl (winAt_obj e2) rfl hR9) ?_
  refine rOf (fun R9 hR9 => xSeg (N := 1) (r := some (.inl (some (eI (S3 0 3))), (V3, d2))) rfl hR9) ?_
  exact rEnd ⟨V3, d2, by rw [hv, ← m03], C3, (e3.2 81 (nin_bC (by omega))).trans h812, ⟨by have := e3.1; omega, fun k hk => (e3.2 k (nin_bC (by omega))).trans (f2 k (by omega))⟩, by omega, by omega⟩
theorem sc_takeBackX {a : eRow} {X : xT} (h5 : a 5 = 0) : SX m_S_takeBack [] a X (X) 0 := by
  intro V d ot C h81
  have C8 := C
  obtain ⟨⟨S, w1, w2, w3, w4⟩, c2, c3, c4, c5⟩ := C
  have cc3 := c3
  obtain ⟨wd9, f9, q9, hN9, hC9, nx9, ⟨h66, h67, h68⟩, hb9⟩ := cc3
  have cc5 := c5
  obtain ⟨P, oY, o1, o69, o7⟩ := cc5
  have hI := w3
  have hI8 := hI
  obtain ⟨hG, ⟨v1, v2⟩, hO, hT, hM⟩ := hI8
  obtain ⟨⟨g1, g2, g3, g4, g5⟩, g6⟩ := hG
  have b5 := iT_24 g5 hT
  have d5 : S 0 4 = _ := w2.2.2.1.1.1
  refine rSX ?_
  refine rOf (fun R9 hR9 => xGetV (N := 2) (M2 := m_S_takeBack) (pc2 := 1) (r := 1) (ls2 := [some (eR 1)]) (st2 := []) (V := V) (d := d) (v := eR 26) rfl o1 rfl hR9) ?_
  refine rOf (fun R9 hR9 => xGetV (N := 1) (M2 := m_S_takeBack) (pc2 := 4) (r := 26) (ls2 := [some (eR 1)]) (st2 := []) (V := V) (d := d) (v := eI (S 0 4)) rfl (winAt_obj w1) rfl hR9) ?_
  refine rOf (fun R9 hR9 => xEqT (N := 1) (x := (S 0 4)) (y := 0) (A := ev m_S_takeBack 10 [some (eR 1)] [] (V, d)) (B := ev m_S_takeBack 18 [some (eR 1)] [] (V, d)) rfl (wr_id (by omega) (by omega)) (show wr 0 = 0 by decide) (by omega) hR9) ?_
  refine rOf (fun R9 hR9 => xSeg (N := 1) (r := some (.inr 0, (V, (d.1 + 1, d.2 + 6)))) rfl hR9) ?_
  exact rEnd ⟨V, (d.1 + 1, d.2 + 6), rfl, C8, h81, ⟨Nat.le_refl _, fun _ _ => rfl⟩, by dsimp only; omega, by dsimp only; omega⟩
theorem kl_takeBack {a a' : eRow} {X X' : xT} {v : Int} (h : SC m_S_takeBack [] a X a' X' v) : KL m_L_takeBack [] a X a' X' 0 v := by
  intro V d ot C h81
  obtain ⟨P1, h1⟩ := CI_1 C
  refine rKL ?_
  obtain ⟨V2, d2, q2, C2, o2, fr2, dd1, dd2⟩ := h V d ot C h81
  obtain ⟨P2, h12⟩ := CI_1 C2
  refine rOf (fun R9 hR9 => xCallA1 (N := 4) (M2 := m_L_takeBack) (pc2 := 3) (y := m_S_takeBack) (n := 1) (ls2 := [some (eR 1), some (eR 81)]) (st2 := [eI 0, eR 81]) (st9 := [eR 1, eI 0, eR 81]) (V := V) (d := d) (r := 1) (bs := []) rfl rfl h1 rfl q2 hR9) ?_
  refine rStV (N := 2) (M2 := m_L_takeBack) (pc2 := 7) (r := 81) (ls2 := [some (eR 1), some (eR 81)]) (st2 := []) (V := V2) (d := d2) (i := 0) (v := wr v) (k := 0) (ok := eOkJ) rfl o2 rfl (show wr 0 = ((0 : Nat) : Int) by decide) (by omega) (fun V101 sV101 eV101 => ?_)
  refine rOf (fun R9 hR9 => xSeg (N := 3) (r := some (.inl (some (eI 0)), (V101, d2))) rfl hR9) ?_
  exact rEnd ⟨V101, _, d2, rfl, CI_81 C2 sV101, eV101, fun _ => by rw [eUp_at], frC_81 fr2 sV101, by unfold dl; omega⟩
theorem kl_takeBackX {a : eRow} {X X' : xT} {v : Int} (h : SX m_S_takeBack [] a X X' 0) : KL m_L_takeBack [] a X a X' 1 v := by
  intro V d ot C h81
  obtain ⟨P1, h1⟩ := CI_1 C
  refine rKL ?_
  obtain ⟨V2, d2, q2, C2, o2, fr2, dd1, dd2⟩ := h V d ot C h81
  obtain ⟨P2, h12⟩ := CI_1 C2
  refine rOf (fun R9 hR9 => xCallAC (N := 4) (M2 := m_L_takeBack) (pc2 := 3) (y := m_S_takeBack) (n := 1) (ls2 := [some (eR 1), some (eR 81)]) (st2 := [eI 0, eR 81]) (st9 := [eR 1, eI 0, eR 81]) (V := V) (d := d) (r := 1) (bs := []) (E := 0) (p := 12) rfl rfl h1 rfl q2 (by rfl) hR9) ?_
  refine rOf (fun R9 hR9 => xSeg (N := 2) (r := some (.inl (some (eI 1)), (V2, d2))) rfl hR9) ?_
  exact rEnd ⟨V2, ot, d2, rfl, C2, o2, fun h => absurd h (by decide), fr2, by unfold dl; omega⟩
theorem sc_solve {a : eRow} {X : xT} {x : Int} {v : Int} {m : Nat} (hx : x = (m : Int)) (h1 : 1 ≤ m) (h2 : m ≤ 200) (hv : v = ((svc m a : Nat) : Int)) : SC m_S_solve [some (eI x)] a X (sv m a) (pushX X a) v := by
  intro V d ot C h81
  have C8 := C
  obtain ⟨⟨S, w1, w2, w3, w4⟩, c2, c3, c4, c5⟩ := C
  have cc3 := c3
  obtain ⟨wd9, f9, q9, hN9, hC9, nx9, ⟨h66, h67, h68⟩, hb9⟩ := cc3
  have cc5 := c5
  obtain ⟨P, oY, o1, o69, o7⟩ := cc5
  have hI := w3
  have hI8 := hI
  obtain ⟨hG, ⟨v1, v2⟩, hO, hT, hM⟩ := hI8
  obtain ⟨⟨g1, g2, g3, g4, g5⟩, g6⟩ := hG
  have b5 := iT_24 g5 hT
  refine rSC ?_
  refine rOf (fun R9 hR9 => xLtF (N := 3) (x := x) (y := 1) (A := ev m_S_solve 12 [some (eR 1), some (eI x)] [] (V, d)) (B := ev m_S_solve 5 [some (eR 1), some (eI x)] [] (V, d)) rfl (wr_id (by omega) (by omega)) (show wr 1 = 1 by decide) (by omega) hR9) ?_
  refine rOf (fun R9 hR9 => xLtF (N := 3) (x := 200) (y := x) (A := ev m_S_solve 12 [some (eR 1), some (eI x)] [] (V, d)) (B := ev m_S_solve 20 [some (eR 1), some (eI x)] [] (V, d)) rfl (show wr 200 = 200 by decide) (wr_id (by omega) (by omega)) (by omega) hR9) ?_
  refine rOf (fun R9 hR9 => xGetV (N := 2) (M2 := m_S_solve) (pc2 := 21) (r := 1) (ls2 := [some (eR 1), some (eI x)]) (st2 := []) (V := V) (d := d) (v := eR 66) rfl o1 rfl hR9) ?_
  refine rOf (fun R9 hR9 => xGetV (N := 2) (M2 := m_S_solve) (pc2 := 25) (r := 1) (ls2 := [some (eR 1), some (eI x)]) (st2 := [eR 66]) (V := V) (d := d) (v := eR 26) rfl o1 rfl hR9) ?_
  obtain ⟨V2, d2, qr, C2, l2, f2, dd1, dd2⟩ := h_rem (d := d) C8
  have o12 := (f2 1 (by omega)).trans o1
  have h812 := (f2 81 (by omega)).trans h81
  have C28 := C2
  obtain ⟨⟨S2, w12, w22, w32⟩, C2r⟩ := C28
  refine rOf (fun R9 hR9 => xCallA0 (N := 1) (M2 := m_S_solve) (pc2 := 28) (y := m_H_remember) (n := 2) (ls2 := [some (eR 1), some (eI x)]) (st2 := []) (st9 := [eR 26, eR 66]) (V := V) (d := d) (r := 66) (bs := [eR 26]) rfl rfl h66 rfl qr hR9) ?_
  refine rOf (fun R9 hR9 => xGetV (N := 2) (M2 := m_S_solve) (pc2 := 32) (r := 1) (ls2 := [some (eR 1), some (eI x)]) (st2 := []) (V := V2) (d := d2) (v := eR 26) rfl o12 rfl hR9) ?_
  obtain ⟨S3, hA3, q3⟩ := c_makeSteps (c := (0, 0)) w22 hI hx h2
  obtain ⟨b9, hb9v⟩ : ∃ b9 : Int, b9 = ((svc m a : Nat) : Int) := ⟨_, rfl⟩
  rw [← hb9v] at q3
  obtain ⟨V3, e1, e2, e3⟩ := winR (d := d2) q3 w12 inj_bC rfl rfl rfl
  have o13 := (e3.2 1 (nin_bC (by omega))).trans o12
  have C3 := CI_win C2 e2 hA3 ⟨iA_sv hI, iB_sv w4⟩ e3
  have m03 : S3 0 3 = _ := hA3.2.2.2
  refine rOf (fun R9 hR9 => xCallA1 (N := 2) (M2 := m_S_solve) (pc2 := 36) (y := m_W_makeSteps) (n := 2) (ls2 := [some (eR 1), some (eI x)]) (st2 := []) (st9 := [eI x, eR 26]) (V := V2) (d := d2) (r := 26) (bs := [eI x]) rfl rfl (winAt_obj w12) rfl e1 hR9) ?_
  refine rOf (fun R9 hR9 => xSeg (N := 1) (r := some (.inl (some (eI b9)), (V3, d2))) rfl hR9) ?_
  exact rEnd ⟨V3, d2, by rw [hv, ← hb9v], C3, (e3.2 81 (nin_bC (by omega))).trans h812, ⟨by have := e3.1; omega, fun k hk => (e3.2 k (nin_bC (by omega))).trans (f2 k (by omega))⟩, by omega, by omega⟩
theorem sc_solveX {a : eRow} {X : xT} {x : Int} (bx : -2147483648 ≤ x ∧ x < 2147483648) (h1 : ¬ (1 ≤ x ∧ x ≤ 200)) : SX m_S_solve [some (eI x)] a X (X) 1 := by
  intro V d ot C h81
  have C8 := C
  obtain ⟨⟨S, w1, w2, w3, w4⟩, c2, c3, c4, c5⟩ := C
  have cc3 := c3
  obtain ⟨wd9, f9, q9, hN9, hC9, nx9, ⟨h66, h67, h68⟩, hb9⟩ := cc3
  have cc5 := c5
  obtain ⟨P, oY, o1, o69, o7⟩ := cc5
  have hI := w3
  have hI8 := hI
  obtain ⟨hG, ⟨v1, v2⟩, hO, hT, hM⟩ := hI8
  obtain ⟨⟨g1, g2, g3, g4, g5⟩, g6⟩ := hG
  have b5 := iT_24 g5 hT
  by_cases h2 : x < 1
  · refine rSX ?_
    refine rOf (fun R9 hR9 => xLtT (N := 3) (x := x) (y := 1) (A := ev m_S_solve 12 [some (eR 1), some (eI x)] [] (V, d)) (B := ev m_S_solve 5 [some (eR 1), some (eI x)] [] (V, d)) rfl (wr_id (by omega) (by omega)) (show wr 1 = 1 by decide) (by omega) hR9) ?_
    refine rOf (fun R9 hR9 => xSeg (N := 1) (r := some (.inr 1, (V, (d.1 + 1, d.2 + 6)))) rfl hR9) ?_
    exact rEnd ⟨V, (d.1 + 1, d.2 + 6), rfl, C8, h81, ⟨Nat.le_refl _, fun _ _ => rfl⟩, by dsimp only; omega, by dsimp only; omega⟩
  · refine rSX ?_
    refine rOf (fun R9 hR9 => xLtF (N := 3) (x := x) (y := 1) (A := ev m_S_solve 12 [some (eR 1), some (eI x)] [] (V, d)) (B := ev m_S_solve 5 [some (eR 1), some (eI x)] [] (V, d)) rfl (wr_id (by omega) (by omega)) (show wr 1 = 1 by decide) (by omega) hR9) ?_
    refine rOf (fun R9 hR9 => xLtT (N := 3) (x := 200) (y := x) (A := ev m_S_solve 12 [some (eR 1), some (eI x)] [] (V, d)) (B := ev m_S_solve 20 [some (eR 1), some (eI x)] [] (V, d)) rfl (show wr 200 = 200 by decide) (wr_id (by omega) (by omega)) (by omega) hR9) ?_
    refine rOf (fun R9 hR9 => xSeg (N := 1) (r := some (.inr 1, (V, (d.1 + 1, d.2 + 6)))) rfl hR9) ?_
    exact rEnd ⟨V, (d.1 + 1, d.2 + 6), rfl, C8, h81, ⟨Nat.le_refl _, fun _ _ => rfl⟩, by dsimp only; omega, by dsimp only; omega⟩
theorem kl_solve {a a' : eRow} {X X' : xT} {x v : Int} (h : SC m_S_solve [some (eI x)] a X a' X' v) : KL m_L_solve [some (eI x)] a X a' X' 0 v := by
  intro V d ot C h81
  obtain ⟨P1, h1⟩ := CI_1 C
  refine rKL ?_
  obtain ⟨V2, d2, q2, C2, o2, fr2, dd1, dd2⟩ := h V d ot C h81
  obtain ⟨P2, h12⟩ := CI_1 C2
  refine rOf (fun R9 hR9 => xCallA1 (N := 5) (M2 := m_L_solve) (pc2 := 4) (y := m_S_solve) (n := 2) (ls2 := [some (eR 1), some (eI x), some (eR 81)]) (st2 := [eI 0, eR 81]) (st9 := [eI x, eR 1, eI 0, eR 81]) (V := V) (d := d) (r := 1) (bs := [eI x]) rfl rfl h1 rfl q2 hR9) ?_
  refine rStV (N := 2) (M2 := m_L_solve) (pc2 := 8) (r := 81) (ls2 := [some (eR 1), some (eI x), some (eR 81)]) (st2 := []) (V := V2) (d := d2) (i := 0) (v := wr v) (k := 0) (ok := eOkJ) rfl o2 rfl (show wr 0 = ((0 : Nat) : Int) by decide) (by omega) (fun V101 sV101 eV101 => ?_)
  refine rOf (fun R9 hR9 => xSeg (N := 3) (r := some (.inl (some (eI 0)), (V101, d2))) rfl hR9) ?_
  exact rEnd ⟨V101, _, d2, rfl, CI_81 C2 sV101, eV101, fun _ => by rw [eUp_at], frC_81 fr2 sV101, by unfold dl; omega⟩
theorem kl_solveX {a : eRow} {X X' : xT} {x v : Int} (h : SX m_S_solve [some (eI x)] a X X' 1) : KL m_L_solve [some (eI x)] a X a X' 1 v := by
  intro V d ot C h81
  obtain ⟨P1, h1⟩ := CI_1 C
  refine rKL ?_
  obtain ⟨V2, d2, q2, C2, o2, fr2, dd1, dd2⟩ := h V d ot C h81
  obtain ⟨P2, h12⟩ := CI_1 C2
  refine rOf (fun R9 hR9 => xCallAC (N := 5) (M2 := m_L_solve) (pc2 := 4) (y := m_S_solve) (n := 2) (ls2 := [some (eR 1), some (eI x), some (eR 81)]) (st2 := [eI 0, eR 81]) (st9 := [eI x, eR 1, eI 0, eR 81]) (V := V) (d := d) (r := 1) (bs := [eI x]) (E := 1) (p := 13) rfl rfl h1 rfl q2 (by rfl) hR9) ?_
  refine rOf (fun R9 hR9 => xSeg (N := 2) (r := some (.inl (some (eI 1)), (V2, d2))) rfl hR9) ?_
  exact rEnd ⟨V2, ot, d2, rfl, C2, o2, fun h => absurd h (by decide), fr2, by unfold dl; omega⟩
theorem sc_step {a : eRow} {X : xT} {v : Int} (h5 : cnS a = true) (hv : v = ((stp a 4 : Nat) : Int)) : SC m_S_step [] a X (stp a) (pushX X a) v := by
  intro V d ot C h81
  have C8 := C
  obtain ⟨⟨S, w1, w2, w3, w4⟩, c2, c3, c4, c5⟩ := C
  have cc3 := c3
  obtain ⟨wd9, f9, q9, hN9, hC9, nx9, ⟨h66, h67, h68⟩, hb9⟩ := cc3
  have cc5 := c5
  obtain ⟨P, oY, o1, o69, o7⟩ := cc5
  have hI := w3
  have hI8 := hI
  obtain ⟨hG, ⟨v1, v2⟩, hO, hT, hM⟩ := hI8
  obtain ⟨⟨g1, g2, g3, g4, g5⟩, g6⟩ := hG
  have b5 := iT_24 g5 hT
  have hcs := w_cs w2 hI (d := d) w1
  rw [h5] at hcs
  have hcs : _ = some (Sum.inl (some (eI 1)), _) := hcs
  have h51 : sv 1 a = stp a := by show (bif cnS a then sv 0 (stp a) else a) = _; rw [h5]; rfl
  refine rSC ?_
  refine rOf (fun R9 hR9 => xGetV (N := 2) (M2 := m_S_step) (pc2 := 1) (r := 1) (ls2 := [some (eR 1)]) (st2 := []) (V := V) (d := d) (v := eR 26) rfl o1 rfl hR9) ?_
  refine rOf (fun R9 hR9 => xCallA1 (N := 1) (M2 := m_S_step) (pc2 := 4) (y := m_W_canStep) (n := 1) (ls2 := [some (eR 1)]) (st2 := []) (st9 := [eR 26]) (V := V) (d := d) (r := 26) (bs := []) rfl rfl (winAt_obj w1) rfl hcs hR9) ?_
  refine rOf (fun R9 hR9 => xEqF (N := 1) (x := 1) (y := 0) (A := ev m_S_step 10 [some (eR 1)] [] (V, d)) (B := ev m_S_step 18 [some (eR 1)] [] (V, d)) rfl (show wr 1 = 1 by decide) (show wr 0 = 0 by decide) (by decide) hR9) ?_
  refine rOf (fun R9 hR9 => xGetV (N := 2) (M2 := m_S_step) (pc2 := 19) (r := 1) (ls2 := [some (eR 1)]) (st2 := []) (V := V) (d := d) (v := eR 66) rfl o1 rfl hR9) ?_
  refine rOf (fun R9 hR9 => xGetV (N := 2) (M2 := m_S_step) (pc2 := 23) (r := 1) (ls2 := [some (eR 1)]) (st2 := [eR 66]) (V := V) (d := d) (v := eR 26) rfl o1 rfl hR9) ?_
  obtain ⟨V2, d2, qr, C2, l2, f2, dd1, dd2⟩ := h_rem (d := d) C8
  have o12 := (f2 1 (by omega)).trans o1
  have h812 := (f2 81 (by omega)).trans h81
  have C28 := C2
  obtain ⟨⟨S2, w12, w22, w32⟩, C2r⟩ := C28
  refine rOf (fun R9 hR9 => xCallA0 (N := 1) (M2 := m_S_step) (pc2 := 26) (y := m_H_remember) (n := 2) (ls2 := [some (eR 1)]) (st2 := []) (st9 := [eR 26, eR 66]) (V := V) (d := d) (r := 66) (bs := [eR 26]) rfl rfl h66 rfl qr hR9) ?_
  refine rOf (fun R9 hR9 => xGetV (N := 2) (M2 := m_S_step) (pc2 := 30) (r := 1) (ls2 := [some (eR 1)]) (st2 := []) (V := V2) (d := d2) (v := eR 26) rfl o12 rfl hR9) ?_
  obtain ⟨S3, hA3, q3⟩ := c_makeSteps (c := (0, 0)) (x := 1) (m := 1) w22 hI rfl (by omega)
  obtain ⟨b9, hb9v⟩ : ∃ b9 : Int, b9 = ((svc 1 a : Nat) : Int) := ⟨_, rfl⟩
  rw [← hb9v] at q3
  obtain ⟨V3, e1, e2, e3⟩ := winR (d := d2) q3 w12 inj_bC rfl rfl rfl
  have o13 := (e3.2 1 (nin_bC (by omega))).trans o12
  have C3 := CI_win C2 e2 hA3 ⟨iA_sv hI, iB_sv w4⟩ e3
  have m03 : S3 0 3 = _ := hA3.2.2.2
  refine rOf (fun R9 hR9 => xCallA1 (N := 2) (M2 := m_S_step) (pc2 := 34) (y := m_W_makeSteps) (n := 2) (ls2 := [some (eR 1)]) (st2 := []) (st9 := [eI 1, eR 26]) (V := V2) (d := d2) (r := 26) (bs := [eI 1]) rfl rfl (winAt_obj w12) rfl e1 hR9) ?_
  refine rOf (fun R9 hR9 => xGetV (N := 3) (M2 := m_S_step) (pc2 := 39) (r := 1) (ls2 := [some (eR 1)]) (st2 := []) (V := V3) (d := d2) (v := eR 26) rfl o13 rfl hR9) ?_
  refine rOf (fun R9 hR9 => xGetV (N := 1) (M2 := m_S_step) (pc2 := 42) (r := 26) (ls2 := [some (eR 1)]) (st2 := []) (V := V3) (d := d2) (v := eI (S3 0 3)) rfl (winAt_obj e2) rfl hR9) ?_
  refine rOf (fun R9 hR9 => xSeg (N := 1) (r := some (.inl (some (eI (S3 0 3))), (V3, d2))) rfl hR9) ?_
  rw [h51] at C3 m03
  exact rEnd ⟨V3, d2, by rw [hv, ← m03], C3, (e3.2 81 (nin_bC (by omega))).trans h812, ⟨by have := e3.1; omega, fun k hk => (e3.2 k (nin_bC (by omega))).trans (f2 k (by omega))⟩, by omega, by omega⟩
theorem sc_stepX {a : eRow} {X : xT} (h5 : cnS a = false) : SX m_S_step [] a X (X) 0 := by
  intro V d ot C h81
  have C8 := C
  obtain ⟨⟨S, w1, w2, w3, w4⟩, c2, c3, c4, c5⟩ := C
  have cc3 := c3
  obtain ⟨wd9, f9, q9, hN9, hC9, nx9, ⟨h66, h67, h68⟩, hb9⟩ := cc3
  have cc5 := c5
  obtain ⟨P, oY, o1, o69, o7⟩ := cc5
  have hI := w3
  have hI8 := hI
  obtain ⟨hG, ⟨v1, v2⟩, hO, hT, hM⟩ := hI8
  obtain ⟨⟨g1, g2, g3, g4, g5⟩, g6⟩ := hG
  have b5 := iT_24 g5 hT
  have hcs := w_cs w2 hI (d := d) w1
  rw [h5] at hcs
  have hcs : _ = some (Sum.inl (some (eI 0)), _) := hcs
  refine rSX ?_
  refine rOf (fun R9 hR9 => xGetV (N := 2) (M2 := m_S_step) (pc2 := 1) (r := 1) (ls2 := [some (eR 1)]) (st2 := []) (V := V) (d := d) (v := eR 26) rfl o1 rfl hR9) ?_
  refine rOf (fun R9 hR9 => xCallA1 (N := 1) (M2 := m_S_step) (pc2 := 4) (y := m_W_canStep) (n := 1) (ls2 := [some (eR 1)]) (st2 := []) (st9 := [eR 26]) (V := V) (d := d) (r := 26) (bs := []) rfl rfl (winAt_obj w1) rfl hcs hR9) ?_
  refine rOf (fun R9 hR9 => xEqT (N := 1) (x := 0) (y := 0) (A := ev m_S_step 10 [some (eR 1)] [] (V, d)) (B := ev m_S_step 18 [some (eR 1)] [] (V, d)) rfl (show wr 0 = 0 by decide) (show wr 0 = 0 by decide) (by decide) hR9) ?_
  refine rOf (fun R9 hR9 => xSeg (N := 1) (r := some (.inr 0, (V, (d.1 + 1, d.2 + 6)))) rfl hR9) ?_
  exact rEnd ⟨V, (d.1 + 1, d.2 + 6), rfl, C8, h81, ⟨Nat.le_refl _, fun _ _ => rfl⟩, by dsimp only; omega, by dsimp only; omega⟩
theorem kl_step {a a' : eRow} {X X' : xT} {v : Int} (h : SC m_S_step [] a X a' X' v) : KL m_L_step [] a X a' X' 0 v := by
  intro V d ot C h81
  obtain ⟨P1, h1⟩ := CI_1 C
  refine rKL ?_
  obtain ⟨V2, d2, q2, C2, o2, fr2, dd1, dd2⟩ := h V d ot C h81
  obtain ⟨P2, h12⟩ := CI_1 C2
  refine rOf (fun R9 hR9 => xCallA1 (N := 4) (M2 := m_L_step) (pc2 := 3) (y := m_S_step) (n := 1) (ls2 := [some (eR 1), some (eR 81)]) (st2 := [eI 0, eR 81]) (st9 := [eR 1, eI 0, eR 81]) (V := V) (d := d) (r := 1) (bs := []) rfl rfl h1 rfl q2 hR9) ?_
  refine rStV (N := 2) (M2 := m_L_step) (pc2 := 7) (r := 81) (ls2 := [some (eR 1), some (eR 81)]) (st2 := []) (V := V2) (d := d2) (i := 0) (v := wr v) (k := 0) (ok := eOkJ) rfl o2 rfl (show wr 0 = ((0 : Nat) : Int) by decide) (by omega) (fun V101 sV101 eV101 => ?_)
  refine rOf (fun R9 hR9 => xSeg (N := 3) (r := some (.inl (some (eI 0)), (V101, d2))) rfl hR9) ?_
  exact rEnd ⟨V101, _, d2, rfl, CI_81 C2 sV101, eV101, fun _ => by rw [eUp_at], frC_81 fr2 sV101, by unfold dl; omega⟩
theorem kl_stepX {a : eRow} {X X' : xT} {v : Int} (h : SX m_S_step [] a X X' 0) : KL m_L_step [] a X a X' 1 v := by
  intro V d ot C h81
  obtain ⟨P1, h1⟩ := CI_1 C
  refine rKL ?_
  obtain ⟨V2, d2, q2, C2, o2, fr2, dd1, dd2⟩ := h V d ot C h81
  obtain ⟨P2, h12⟩ := CI_1 C2
  refine rOf (fun R9 hR9 => xCallAC (N := 4) (M2 := m_L_step) (pc2 := 3) (y := m_S_step) (n := 1) (ls2 := [some (eR 1), some (eR 81)]) (st2 := [eI 0, eR 81]) (st9 := [eR 1, eI 0, eR 81]) (V := V) (d := d) (r := 1) (bs := []) (E := 0) (p := 12) rfl rfl h1 rfl q2 (by rfl) hR9) ?_
  refine rOf (fun R9 hR9 => xSeg (N := 2) (r := some (.inl (some (eI 1)), (V2, d2))) rfl hR9) ?_
  exact rEnd ⟨V2, ot, d2, rfl, C2, o2, fun h => absurd h (by decide), fr2, by unfold dl; omega⟩
