/-! The class: guess, setLetter, restore, undo. -/
theorem atL_eq {V V' : List eC} : ∀ {as : List Nat} {cs : List eC}, atL V as cs → atL V' as cs → ∀ k, k ∈ as → eNth V' k = eNth V k
  | [], _, _, _, k, hk => by cases hk
  | a :: as, [], h, _, k, hk => h.elim
  | a :: as, c :: cs, h, h', k, hk => by
    rcases List.mem_cons.mp hk with e | e
    · rw [e, h.1, h'.1]
    · exact atL_eq h.2 h'.2 k e
theorem ninL_or (k : Nat) : ∀ l : List Nat, k ∈ l ∨ ninL k l = true
  | [] => Or.inr rfl
  | x :: l => by
    by_cases h : k = x
    · exact Or.inl (by rw [h]; exact List.mem_cons_self)
    · rcases ninL_or k l with h2 | h2
      · exact Or.inl (List.mem_cons_of_mem _ h2)
      · exact Or.inr (ninL_iff (fun y hy => by
          rcases List.mem_cons.mp hy with e | e
          · rw [e]; exact h
          · intro e2
            obtain ⟨j, hj⟩ := List.getElem?_of_mem e
            rw [← e2] at hj
            exact ninL_at (a := k) (l := l) (j := j) h2 hj))
/-- one window is copied into another -/
theorem cpI {V : List eC} {b b' : Nat → Nat} {S T : wS} {d : Nat × Nat} (h1 : winAt V b S) (h2 : winAt V b' T) (hi : inj20 b) (hi' : inj20 b') (ha : apart b b') : ∃ V', ev m_W_copyFrom 0 [some (eR (b 0)), some (eR (b' 0))] [] (V, d) = some (.inl none, (V', d)) ∧ winAt V' b (cpW S T) ∧ sb V V' (wLf b) := by
  obtain ⟨V', e1, e2, e3, e4⟩ := winCp (d := d) h1 h2 hi hi' ha
  refine ⟨V', e1, e2, e4.1, fun k hk => ?_⟩
  rcases ninL_or k (wLf b') with h | h
  · exact atL_eq h2 e3 k h
  · exact e4.2 k (ninL_app hk h)
theorem c_ce {x y z : Int} {w : eW} (h : z = y * 6 + x) : ev m_G_cell 0 [some (eI x), some (eI y)] [] w = some (.inl (some (eI z)), w) := by
  rw [h]
  exact c_cell
set_option maxRecDepth 100000
theorem sc_guess {a : eRow} {X : xT} {x y : Int} {v : Int} {k w : Nat} (hx : x = (k : Int)) (h1 : k < a 3) (hy : y = (w : Int)) (h2 : w < a 2) (h0 : rfs (a 4) ((op a k).testBit w) (decide (pc 30 (op a k) = 1)) = 0) (hv : v = ((gsA a k w 4 : Nat) : Int)) : SC m_S_guess [some (eI x), some (eI y)] a X (gsA a k w) (pushX X a) v := by
  intro V d ot C h81
  have C8 := C
  obtain ⟨⟨S, w1, w2, w3, w4⟩, c2, c3, c4, c5⟩ := C
  have cc3 := c3
  obtain ⟨wd9, f9, q9, hN9, hC9, nx9, ⟨h66, h67, h68⟩, hb9⟩ := cc3
  have cc5 := c5
  obtain ⟨P, oY, o1, o69, o7⟩ := cc5
  have hI := w3
  have hI8 := hI
  obtain ⟨hG, ⟨v1, v2⟩, hO, hT, hM⟩ := hI8
  obtain ⟨⟨g1, g2, g3, g4, g5⟩, g6⟩ := hG
  have b5 := iT_24 g5 hT
  have gs : ev m_S_requireSlot 0 [some (eR 1), some (eI x)] [] (V, d) = some (.inl none, (V, d)) := yLift (V := V) (d := d) (y_slot (P := P) (ot := ot) (c := (0, 0)) w2 hI hx h1) o1 h81 w1 rfl rfl
  have gw : ev m_S_requireWord 0 [some (eR 1), some (eI y)] [] (V, d) = some (.inl none, (V, d)) := yLift (V := V) (d := d) (y_word (P := P) (ot := ot) (c := (0, 0)) w2 hI hy h2) o1 h81 w1 rfl rfl
  have hr := winV (d := d) (c_refusal (c := (0, 0)) (o := op a) hx hy (by omega) w2.2.2.2 hM.1 (w2.2.2.1.2.1 k h1) (hO k h1).1 (by omega)) w1 inj_bC rfl rfl rfl
  rw [h0] at hr
  have hr : _ = some (Sum.inl (some (eI 0)), _) := hr
  obtain ⟨u1, u2, u3⟩ := rfs_0 h0
  have hgt := pc_gt (hO k h1).1 u2 u3
  refine rSC ?_
  refine rOf (fun R9 hR9 => xCallA0 (N := 3) (M2 := m_S_guess) (pc2 := 2) (y := m_S_requireSlot) (n := 2) (ls2 := [some (eR 1), some (eI x), some (eI y)]) (st2 := []) (st9 := [eI x, eR 1]) (V := V) (d := d) (r := 1) (bs := [eI x]) rfl rfl o1 rfl gs hR9) ?_
  refine rOf (fun R9 hR9 => xCallA0 (N := 3) (M2 := m_S_guess) (pc2 := 7) (y := m_S_requireWord) (n := 2) (ls2 := [some (eR 1), some (eI x), some (eI y)]) (st2 := []) (st9 := [eI y, eR 1]) (V := V) (d := d) (r := 1) (bs := [eI y]) rfl rfl o1 rfl gw hR9) ?_
  refine rOf (fun R9 hR9 => xGetV (N := 2) (M2 := m_S_guess) (pc2 := 11) (r := 1) (ls2 := [some (eR 1), some (eI x), some (eI y)]) (st2 := []) (V := V) (d := d) (v := eR 26) rfl o1 rfl hR9) ?_
  refine rOf (fun R9 hR9 => xCallA1 (N := 3) (M2 := m_S_guess) (pc2 := 16) (y := m_W_refusal) (n := 3) (ls2 := [some (eR 1), some (eI x), some (eI y)]) (st2 := []) (st9 := [eI y, eI x, eR 26]) (V := V) (d := d) (r := 26) (bs := [eI x, eI y]) rfl rfl (winAt_obj w1) rfl hr hR9) ?_
  refine rOf (fun R9 hR9 => xEqT (N := 1) (x := 0) (y := 0) (A := ev m_S_guess 30 [some (eR 1), some (eI x), some (eI y)] [] (V, d)) (B := ev m_S_guess 22 [some (eR 1), some (eI x), some (eI y)] [] (V, d)) rfl (show wr 0 = 0 by decide) (show wr 0 = 0 by decide) (by decide) hR9) ?_
  refine rOf (fun R9 hR9 => xGetV (N := 2) (M2 := m_S_guess) (pc2 := 31) (r := 1) (ls2 := [some (eR 1), some (eI x), some (eI y)]) (st2 := []) (V := V) (d := d) (v := eR 66) rfl o1 rfl hR9) ?_
  refine rOf (fun R9 hR9 => xGetV (N := 2) (M2 := m_S_guess) (pc2 := 35) (r := 1) (ls2 := [some (eR 1), some (eI x), some (eI y)]) (st2 := [eR 66]) (V := V) (d := d) (v := eR 26) rfl o1 rfl hR9) ?_
  obtain ⟨V2, d2, qr, C2, l2, f2, dd1, dd2⟩ := h_rem (d := d) C8
  have o12 := (f2 1 (by omega)).trans o1
  have h812 := (f2 81 (by omega)).trans h81
  have C28 := C2
  obtain ⟨⟨S2, w12, w22, w32⟩, C2r⟩ := C28
  refine rOf (fun R9 hR9 => xCallA0 (N := 1) (M2 := m_S_guess) (pc2 := 38) (y := m_H_remember) (n := 2) (ls2 := [some (eR 1), some (eI x), some (eI y)]) (st2 := []) (st9 := [eR 26, eR 66]) (V := V) (d := d) (r := 66) (bs := [eR 26]) rfl rfl h66 rfl qr hR9) ?_
  refine rOf (fun R9 hR9 => xGetV (N := 2) (M2 := m_S_guess) (pc2 := 42) (r := 1) (ls2 := [some (eR 1), some (eI x), some (eI y)]) (st2 := []) (V := V2) (d := d2) (v := eR 26) rfl o12 rfl hR9) ?_
  obtain ⟨S3, hA3, q3⟩ := c_putGuess (c := (0, 0)) w22 hI hx hy h1 hgt u2
  obtain ⟨V3, e1, e2, e3⟩ := winR (d := d2) q3 w12 inj_bC rfl rfl rfl
  have o13 := (e3.2 1 (nin_bC (by omega))).trans o12
  have C3 := CI_win C2 e2 hA3 ⟨iA_gs hI h1 hgt u2, iB_gs w4⟩ e3
  have m03 : S3 0 3 = _ := hA3.2.2.2
  refine rOf (fun R9 hR9 => xCallA0 (N := 3) (M2 := m_S_guess) (pc2 := 47) (y := m_W_putGuess) (n := 3) (ls2 := [some (eR 1), some (eI x), some (eI y)]) (st2 := []) (st9 := [eI y, eI x, eR 26]) (V := V2) (d := d2) (r := 26) (bs := [eI x, eI y]) rfl rfl (winAt_obj w12) rfl e1 hR9) ?_
  refine rOf (fun R9 hR9 => xGetV (N := 2) (M2 := m_S_guess) (pc2 := 51) (r := 1) (ls2 := [some (eR 1), some (eI x), some (eI y)]) (st2 := []) (V := V3) (d := d2) (v := eR 26) rfl o13 rfl hR9) ?_
  refine rOf (fun R9 hR9 => xGetV (N := 1) (M2 := m_S_guess) (pc2 := 54) (r := 26) (ls2 := [some (eR 1), some (eI x), some (eI y)]) (st2 := []) (V := V3) (d := d2) (v := eI (S3 0 3)) rfl (winAt_obj e2) rfl hR9) ?_
  refine rOf (fun R9 hR9 => xSeg (N := 1) (r := some (.inl (some (eI (S3 0 3))), (V3, d2))) rfl hR9) ?_
  exact rEnd ⟨V3, d2, by rw [hv, ← m03], C3, (e3.2 81 (nin_bC (by omega))).trans h812, ⟨by have := e3.1; omega, fun k hk => (e3.2 k (nin_bC (by omega))).trans (f2 k (by omega))⟩, by omega, by omega⟩
theorem sc_guessN {a : eRow} {X : xT} {x y : Int} {k w : Nat} (hx : x = (k : Int)) (h1 : k < a 3) (hy : y = (w : Int)) (h2 : w < a 2) (h0 : rfs (a 4) ((op a k).testBit w) (decide (pc 30 (op a k) = 1)) ≠ 0) : SX m_S_guess [some (eI x), some (eI y)] a X (X) 0 := by
  intro V d ot C h81
  have C8 := C
  obtain ⟨⟨S, w1, w2, w3, w4⟩, c2, c3, c4, c5⟩ := C
  have cc3 := c3
  obtain ⟨wd9, f9, q9, hN9, hC9, nx9, ⟨h66, h67, h68⟩, hb9⟩ := cc3
  have cc5 := c5
  obtain ⟨P, oY, o1, o69, o7⟩ := cc5
  have hI := w3
  have hI8 := hI
  obtain ⟨hG, ⟨v1, v2⟩, hO, hT, hM⟩ := hI8
  obtain ⟨⟨g1, g2, g3, g4, g5⟩, g6⟩ := hG
  have b5 := iT_24 g5 hT
  have gs : ev m_S_requireSlot 0 [some (eR 1), some (eI x)] [] (V, d) = some (.inl none, (V, d)) := yLift (V := V) (d := d) (y_slot (P := P) (ot := ot) (c := (0, 0)) w2 hI hx h1) o1 h81 w1 rfl rfl
  have gw : ev m_S_requireWord 0 [some (eR 1), some (eI y)] [] (V, d) = some (.inl none, (V, d)) := yLift (V := V) (d := d) (y_word (P := P) (ot := ot) (c := (0, 0)) w2 hI hy h2) o1 h81 w1 rfl rfl
  have hr := winV (d := d) (c_refusal (c := (0, 0)) (o := op a) hx hy (by omega) w2.2.2.2 hM.1 (w2.2.2.1.2.1 k h1) (hO k h1).1 (by omega)) w1 inj_bC rfl rfl rfl
  obtain ⟨z9, hz9⟩ : ∃ z9 : Int, z9 = ((rfs (a 4) ((op a k).testBit w) (decide (pc 30 (op a k) = 1)) : Nat) : Int) := ⟨_, rfl⟩
  rw [← hz9] at hr
  have hz3 := rfs_3 (md := a 4) (b := (op a k).testBit w) (s := decide (pc 30 (op a k) = 1))
  refine rSX ?_
  refine rOf (fun R9 hR9 => xCallA0 (N := 3) (M2 := m_S_guess) (pc2 := 2) (y := m_S_requireSlot) (n := 2) (ls2 := [some (eR 1), some (eI x), some (eI y)]) (st2 := []) (st9 := [eI x, eR 1]) (V := V) (d := d) (r := 1) (bs := [eI x]) rfl rfl o1 rfl gs hR9) ?_
  refine rOf (fun R9 hR9 => xCallA0 (N := 3) (M2 := m_S_guess) (pc2 := 7) (y := m_S_requireWord) (n := 2) (ls2 := [some (eR 1), some (eI x), some (eI y)]) (st2 := []) (st9 := [eI y, eR 1]) (V := V) (d := d) (r := 1) (bs := [eI y]) rfl rfl o1 rfl gw hR9) ?_
  refine rOf (fun R9 hR9 => xGetV (N := 2) (M2 := m_S_guess) (pc2 := 11) (r := 1) (ls2 := [some (eR 1), some (eI x), some (eI y)]) (st2 := []) (V := V) (d := d) (v := eR 26) rfl o1 rfl hR9) ?_
  refine rOf (fun R9 hR9 => xCallA1 (N := 3) (M2 := m_S_guess) (pc2 := 16) (y := m_W_refusal) (n := 3) (ls2 := [some (eR 1), some (eI x), some (eI y)]) (st2 := []) (st9 := [eI y, eI x, eR 26]) (V := V) (d := d) (r := 26) (bs := [eI x, eI y]) rfl rfl (winAt_obj w1) rfl hr hR9) ?_
  refine rOf (fun R9 hR9 => xEqF (N := 1) (x := z9) (y := 0) (A := ev m_S_guess 30 [some (eR 1), some (eI x), some (eI y)] [] (V, d)) (B := ev m_S_guess 22 [some (eR 1), some (eI x), some (eI y)] [] (V, d)) rfl (wr_id (by omega) (by omega)) (show wr 0 = 0 by decide) (by omega) hR9) ?_
  refine rOf (fun R9 hR9 => xSeg (N := 1) (r := some (.inr 0, (V, (d.1 + 1, d.2 + 6)))) rfl hR9) ?_
  exact rEnd ⟨V, (d.1 + 1, d.2 + 6), rfl, C8, h81, ⟨Nat.le_refl _, fun _ _ => rfl⟩, by dsimp only; omega, by dsimp only; omega⟩
theorem sc_guessX {a : eRow} {X : xT} {x y : Int} (bx : -2147483648 ≤ x ∧ x < 2147483648) (hh : ¬ (0 ≤ x ∧ x < (a 3 : Int))) : SX m_S_guess [some (eI x), some (eI y)] a X (X) 2 := by
  intro V d ot C h81
  have C8 := C
  obtain ⟨⟨S, w1, w2, w3, w4⟩, c2, c3, c4, c5⟩ := C
  have cc3 := c3
  obtain ⟨wd9, f9, q9, hN9, hC9, nx9, ⟨h66, h67, h68⟩, hb9⟩ := cc3
  have cc5 := c5
  obtain ⟨P, oY, o1, o69, o7⟩ := cc5
  have hI := w3
  have hI8 := hI
  obtain ⟨hG, ⟨v1, v2⟩, hO, hT, hM⟩ := hI8
  obtain ⟨⟨g1, g2, g3, g4, g5⟩, g6⟩ := hG
  have b5 := iT_24 g5 hT
  have gs : ev m_S_requireSlot 0 [some (eR 1), some (eI x)] [] (V, d) = some (.inr 2, (V, (d.1 + 1, d.2 + 6))) := (yLift (V := V) (d := d) (y_slotX (P := P) (ot := ot) (c := (0, 0)) w2 hI bx hh) o1 h81 w1 rfl rfl).trans (by rw [Nat.zero_add, Nat.zero_add])
  refine rSX ?_
  refine rOf (fun R9 hR9 => xCallAE (N := 3) (M2 := m_S_guess) (pc2 := 2) (y := m_S_requireSlot) (n := 2) (ls2 := [some (eR 1), some (eI x), some (eI y)]) (st2 := []) (st9 := [eI x, eR 1]) (V := V) (d := d) (r := 1) (bs := [eI x]) (E := 2) rfl rfl o1 rfl gs rfl hR9) ?_
  exact rEnd ⟨V, (d.1 + 1, d.2 + 6), rfl, C8, h81, ⟨Nat.le_refl _, fun _ _ => rfl⟩, by dsimp only; omega, by dsimp only; omega⟩
theorem sc_guessY {a : eRow} {X : xT} {x y : Int} {k : Nat} (hx : x = (k : Int)) (h1 : k < a 3) (by_ : -2147483648 ≤ y ∧ y < 2147483648) (hh : ¬ (0 ≤ y ∧ y < (a 2 : Int))) : SX m_S_guess [some (eI x), some (eI y)] a X (X) 2 := by
  intro V d ot C h81
  have C8 := C
  obtain ⟨⟨S, w1, w2, w3, w4⟩, c2, c3, c4, c5⟩ := C
  have cc3 := c3
  obtain ⟨wd9, f9, q9, hN9, hC9, nx9, ⟨h66, h67, h68⟩, hb9⟩ := cc3
  have cc5 := c5
  obtain ⟨P, oY, o1, o69, o7⟩ := cc5
  have hI := w3
  have hI8 := hI
  obtain ⟨hG, ⟨v1, v2⟩, hO, hT, hM⟩ := hI8
  obtain ⟨⟨g1, g2, g3, g4, g5⟩, g6⟩ := hG
  have b5 := iT_24 g5 hT
  have gs : ev m_S_requireSlot 0 [some (eR 1), some (eI x)] [] (V, d) = some (.inl none, (V, d)) := yLift (V := V) (d := d) (y_slot (P := P) (ot := ot) (c := (0, 0)) w2 hI hx h1) o1 h81 w1 rfl rfl
  have gw : ev m_S_requireWord 0 [some (eR 1), some (eI y)] [] (V, d) = some (.inr 2, (V, (d.1 + 1, d.2 + 6))) := (yLift (V := V) (d := d) (y_wordX (P := P) (ot := ot) (c := (0, 0)) w2 hI by_ hh) o1 h81 w1 rfl rfl).trans (by rw [Nat.zero_add, Nat.zero_add])
  refine rSX ?_
  refine rOf (fun R9 hR9 => xCallA0 (N := 3) (M2 := m_S_guess) (pc2 := 2) (y := m_S_requireSlot) (n := 2) (ls2 := [some (eR 1), some (eI x), some (eI y)]) (st2 := []) (st9 := [eI x, eR 1]) (V := V) (d := d) (r := 1) (bs := [eI x]) rfl rfl o1 rfl gs hR9) ?_
  refine rOf (fun R9 hR9 => xCallAE (N := 3) (M2 := m_S_guess) (pc2 := 7) (y := m_S_requireWord) (n := 2) (ls2 := [some (eR 1), some (eI x), some (eI y)]) (st2 := []) (st9 := [eI y, eR 1]) (V := V) (d := d) (r := 1) (bs := [eI y]) (E := 2) rfl rfl o1 rfl gw rfl hR9) ?_
  exact rEnd ⟨V, (d.1 + 1, d.2 + 6), rfl, C8, h81, ⟨Nat.le_refl _, fun _ _ => rfl⟩, by dsimp only; omega, by dsimp only; omega⟩
theorem kl_guess {a a' : eRow} {X X' : xT} {x y v : Int} (h : SC m_S_guess [some (eI x), some (eI y)] a X a' X' v) : KL m_L_guess [some (eI x), some (eI y)] a X a' X' 0 v := by
  intro V d ot C h81
  obtain ⟨P1, h1⟩ := CI_1 C
  refine rKL ?_
  obtain ⟨V2, d2, q2, C2, o2, fr2, dd1, dd2⟩ := h V d ot C h81
  obtain ⟨P2, h12⟩ := CI_1 C2
  refine rOf (fun R9 hR9 => xCallA1 (N := 6) (M2 := m_L_guess) (pc2 := 5) (y := m_S_guess) (n := 3) (ls2 := [some (eR 1), some (eI x), some (eI y), some (eR 81)]) (st2 := [eI 0, eR 81]) (st9 := [eI y, eI x, eR 1, eI 0, eR 81]) (V := V) (d := d) (r := 1) (bs := [eI x, eI y]) rfl rfl h1 rfl q2 hR9) ?_
  refine rStV (N := 2) (M2 := m_L_guess) (pc2 := 9) (r := 81) (ls2 := [some (eR 1), some (eI x), some (eI y), some (eR 81)]) (st2 := []) (V := V2) (d := d2) (i := 0) (v := wr v) (k := 0) (ok := eOkJ) rfl o2 rfl (show wr 0 = ((0 : Nat) : Int) by decide) (by omega) (fun V101 sV101 eV101 => ?_)
  refine rOf (fun R9 hR9 => xSeg (N := 3) (r := some (.inl (some (eI 0)), (V101, d2))) rfl hR9) ?_
  exact rEnd ⟨V101, _, d2, rfl, CI_81 C2 sV101, eV101, fun _ => by rw [eUp_at], frC_81 fr2 sV101, by unfold dl; omega⟩
theorem kl_guessX1 {a : eRow} {X X' : xT} {x y v : Int} (h : SX m_S_guess [some (eI x), some (eI y)] a X X' 2) : KL m_L_guess [some (eI x), some (eI y)] a X a X' 1 v := by
  intro V d ot C h81
  obtain ⟨P1, h1⟩ := CI_1 C
  refine rKL ?_
  obtain ⟨V2, d2, q2, C2, o2, fr2, dd1, dd2⟩ := h V d ot C h81
  obtain ⟨P2, h12⟩ := CI_1 C2
  refine rOf (fun R9 hR9 => xCallAC (N := 6) (M2 := m_L_guess) (pc2 := 5) (y := m_S_guess) (n := 3) (ls2 := [some (eR 1), some (eI x), some (eI y), some (eR 81)]) (st2 := [eI 0, eR 81]) (st9 := [eI y, eI x, eR 1, eI 0, eR 81]) (V := V) (d := d) (r := 1) (bs := [eI x, eI y]) (E := 2) (p := 15) rfl rfl h1 rfl q2 (by rfl) hR9) ?_
  refine rOf (fun R9 hR9 => xSeg (N := 2) (r := some (.inl (some (eI 1)), (V2, d2))) rfl hR9) ?_
  exact rEnd ⟨V2, ot, d2, rfl, C2, o2, fun h => absurd h (by decide), fr2, by unfold dl; omega⟩
theorem kl_guessX2 {a : eRow} {X X' : xT} {x y v : Int} (h : SX m_S_guess [some (eI x), some (eI y)] a X X' 0) : KL m_L_guess [some (eI x), some (eI y)] a X a X' 2 v := by
  intro V d ot C h81
  obtain ⟨P1, h1⟩ := CI_1 C
  refine rKL ?_
  obtain ⟨V2, d2, q2, C2, o2, fr2, dd1, dd2⟩ := h V d ot C h81
  obtain ⟨P2, h12⟩ := CI_1 C2
  refine rOf (fun R9 hR9 => xCallAC (N := 6) (M2 := m_L_guess) (pc2 := 5) (y := m_S_guess) (n := 3) (ls2 := [some (eR 1), some (eI x), some (eI y), some (eR 81)]) (st2 := [eI 0, eR 81]) (st9 := [eI y, eI x, eR 1, eI 0, eR 81]) (V := V) (d := d) (r := 1) (bs := [eI x, eI y]) (E := 0) (p := 19) rfl rfl h1 rfl q2 (by rfl) hR9) ?_
  refine rOf (fun R9 hR9 => xSeg (N := 2) (r := some (.inl (some (eI 2)), (V2, d2))) rfl hR9) ?_
  exact rEnd ⟨V2, ot, d2, rfl, C2, o2, fun h => absurd h (by decide), fr2, by unfold dl; omega⟩
theorem sc_setLetter {a : eRow} {X : xT} {x y z : Int} {v : Int} {xn yn : Nat} (hx : x = (xn : Int)) (hy : y = (yn : Int)) (h1 : xn < a 0) (h2 : yn < a 1) {v0 : Nat} (hz : z = (v0 : Int)) (hz0 : z = 0) (hb : a (16 + (6 * yn + xn)) = 0) (hv : v = ((a (52 + (6 * yn + xn)) : Nat) : Int)) : SC m_S_setLetter [some (eI x), some (eI y), some (eI z)] a X (lvA a (6 * yn + xn) v0) (pushX X a) v := by
  intro V d ot C h81
  have C8 := C
  obtain ⟨⟨S, w1, w2, w3, w4⟩, c2, c3, c4, c5⟩ := C
  have cc3 := c3
  obtain ⟨wd9, f9, q9, hN9, hC9, nx9, ⟨h66, h67, h68⟩, hb9⟩ := cc3
  have cc5 := c5
  obtain ⟨P, oY, o1, o69, o7⟩ := cc5
  have hI := w3
  have hI8 := hI
  obtain ⟨hG, ⟨v1, v2⟩, hO, hT, hM⟩ := hI8
  obtain ⟨⟨g1, g2, g3, g4, g5⟩, g6⟩ := hG
  have b5 := iT_24 g5 hT
  have gc : ev m_S_requireCell 0 [some (eR 1), some (eI x), some (eI y)] [] (V, d) = some (.inl none, (V, d)) := yLift (V := V) (d := d) (y_cell (P := P) (ot := ot) (c := (0, 0)) w2 hI hx hy h1 h2) o1 h81 w1 rfl rfl
  obtain ⟨ze, hze⟩ : ∃ ze : Int, ze = y * 6 + x := ⟨_, rfl⟩
  have q7 := g6.1 (6 * yn + xn) (by omega)
  have s16 := w2.1.1.2.1 (6 * yn + xn) (by omega)
  refine rSC ?_
  refine rOf (fun R9 hR9 => xCallA0 (N := 4) (M2 := m_S_setLetter) (pc2 := 3) (y := m_S_requireCell) (n := 3) (ls2 := [some (eR 1), some (eI x), some (eI y), some (eI z)]) (st2 := []) (st9 := [eI y, eI x, eR 1]) (V := V) (d := d) (r := 1) (bs := [eI x, eI y]) rfl rfl o1 rfl gc hR9) ?_
  refine rOf (fun R9 hR9 => xEqT (N := 2) (x := z) (y := 0) (A := ev m_S_setLetter 15 [some (eR 1), some (eI x), some (eI y), some (eI z)] [] (V, d)) (B := ev m_S_setLetter 10 [some (eR 1), some (eI x), some (eI y), some (eI z)] [] (V, d)) rfl (wr_id (by omega) (by omega)) (show wr 0 = 0 by decide) hz0 hR9) ?_
  refine rOf (fun R9 hR9 => xCall (N := 3) (M2 := m_S_setLetter) (pc2 := 17) (ls2 := [some (eR 1), some (eI x), some (eI y), some (eI z)]) (st2 := []) (y := m_G_cell) (as := [some (eI x), some (eI y)]) (w2 := (V, d)) rfl (c_ce hze) hR9) ?_
  refine rOf (fun R9 hR9 => xGetV (N := 3) (M2 := m_S_setLetter) (pc2 := 23) (r := 1) (ls2 := [some (eR 1), some (eI x), some (eI y), some (eI z), some (eI ze)]) (st2 := []) (V := V) (d := d) (v := eR 26) rfl o1 rfl hR9) ?_
  refine rOf (fun R9 hR9 => xGetV (N := 1) (M2 := m_S_setLetter) (pc2 := 26) (r := 26) (ls2 := [some (eR 1), some (eI x), some (eI y), some (eI z), some (eI ze)]) (st2 := []) (V := V) (d := d) (v := eR 27) rfl (winAt_obj w1) rfl hR9) ?_
  refine rOf (fun R9 hR9 => xGetV (N := 1) (M2 := m_S_setLetter) (pc2 := 29) (r := 27) (ls2 := [some (eR 1), some (eI x), some (eI y), some (eI z), some (eI ze)]) (st2 := []) (V := V) (d := d) (v := eR 28) rfl w1.2.1 rfl hR9) ?_
  refine rOf (fun R9 hR9 => xLdV (N := 2) (M2 := m_S_setLetter) (pc2 := 34) (r := 28) (ls2 := [some (eR 1), some (eI x), some (eI y), some (eI z), some (eI ze)]) (st2 := []) (V := V) (d := d) (i := ze) (k := 6 * yn + xn) (ok := eOkB) (mk := fun x => .inl x) rfl w1.2.2.1 rfl (wr_nat (by omega) (by omega)) (by omega) hR9) ?_
  refine rOf (fun R9 hR9 => xEqT (N := 1) (x := (S 2) (6 * yn + xn)) (y := 0) (A := ev m_S_setLetter 46 [some (eR 1), some (eI x), some (eI y), some (eI z), some (eI ze)] [] (V, d)) (B := ev m_S_setLetter 38 [some (eR 1), some (eI x), some (eI y), some (eI z), some (eI ze)] [] (V, d)) rfl (wr_id (by omega) (by omega)) (show wr 0 = 0 by decide) (by omega) hR9) ?_
  refine rOf (fun R9 hR9 => xGetV (N := 2) (M2 := m_S_setLetter) (pc2 := 47) (r := 1) (ls2 := [some (eR 1), some (eI x), some (eI y), some (eI z), some (eI ze)]) (st2 := []) (V := V) (d := d) (v := eR 66) rfl o1 rfl hR9) ?_
  refine rOf (fun R9 hR9 => xGetV (N := 2) (M2 := m_S_setLetter) (pc2 := 51) (r := 1) (ls2 := [some (eR 1), some (eI x), some (eI y), some (eI z), some (eI ze)]) (st2 := [eR 66]) (V := V) (d := d) (v := eR 26) rfl o1 rfl hR9) ?_
  obtain ⟨V2, d2, qr, C2, l2, f2, dd1, dd2⟩ := h_rem (d := d) C8
  have o12 := (f2 1 (by omega)).trans o1
  have h812 := (f2 81 (by omega)).trans h81
  have C28 := C2
  obtain ⟨⟨S2, w12, w22, w32⟩, C2r⟩ := C28
  have s52 := w22.1.1.2.1 (6 * yn + xn) (by omega)
  refine rOf (fun R9 hR9 => xCallA0 (N := 1) (M2 := m_S_setLetter) (pc2 := 54) (y := m_H_remember) (n := 2) (ls2 := [some (eR 1), some (eI x), some (eI y), some (eI z), some (eI ze)]) (st2 := []) (st9 := [eR 26, eR 66]) (V := V) (d := d) (r := 66) (bs := [eR 26]) rfl rfl h66 rfl qr hR9) ?_
  refine rOf (fun R9 hR9 => xGetV (N := 2) (M2 := m_S_setLetter) (pc2 := 58) (r := 1) (ls2 := [some (eR 1), some (eI x), some (eI y), some (eI z), some (eI ze)]) (st2 := []) (V := V2) (d := d2) (v := eR 26) rfl o12 rfl hR9) ?_
  refine rOf (fun R9 hR9 => xGetV (N := 1) (M2 := m_S_setLetter) (pc2 := 61) (r := 26) (ls2 := [some (eR 1), some (eI x), some (eI y), some (eI z), some (eI ze)]) (st2 := []) (V := V2) (d := d2) (v := eR 27) rfl (winAt_obj w12) rfl hR9) ?_
  refine rOf (fun R9 hR9 => xGetV (N := 1) (M2 := m_S_setLetter) (pc2 := 64) (r := 27) (ls2 := [some (eR 1), some (eI x), some (eI y), some (eI z), some (eI ze)]) (st2 := []) (V := V2) (d := d2) (v := eR 29) rfl w12.2.1 rfl hR9) ?_
  refine rOf (fun R9 hR9 => xLdV (N := 2) (M2 := m_S_setLetter) (pc2 := 69) (r := 29) (ls2 := [some (eR 1), some (eI x), some (eI y), some (eI z), some (eI ze)]) (st2 := []) (V := V2) (d := d2) (i := ze) (k := 6 * yn + xn) (ok := eOkI) (mk := fun x => .inl x) rfl w12.2.2.2.1 rfl (wr_nat (by omega) (by omega)) (by omega) hR9) ?_
  refine rOf (fun R9 hR9 => xGetV (N := 3) (M2 := m_S_setLetter) (pc2 := 73) (r := 1) (ls2 := [some (eR 1), some (eI x), some (eI y), some (eI z), some (eI ze), some (eI ((S2 3) (6 * yn + xn)))]) (st2 := []) (V := V2) (d := d2) (v := eR 26) rfl o12 rfl hR9) ?_
  obtain ⟨S3, hA3, q3⟩ := c_putLetter (c := (0, 0)) (x := ze) (y := z) (e := 6 * yn + xn) (v := v0) w22 hI (by omega) hz (by omega) (by omega)
  obtain ⟨V3, e1, e2, e3⟩ := winR (d := d2) q3 w12 inj_bC rfl rfl rfl
  have o13 := (e3.2 1 (nin_bC (by omega))).trans o12
  have C3 := CI_win C2 e2 hA3 ⟨iA_lv hI (by omega) (by omega), iB_lv (by omega) w4⟩ e3
  have m03 : S3 0 3 = _ := hA3.2.2.2
  refine rOf (fun R9 hR9 => xCallA0 (N := 3) (M2 := m_S_setLetter) (pc2 := 79) (y := m_W_putLetter) (n := 3) (ls2 := [some (eR 1), some (eI x), some (eI y), some (eI z), some (eI ze), some (eI ((S2 3) (6 * yn + xn)))]) (st2 := []) (st9 := [eI z, eI ze, eR 26]) (V := V2) (d := d2) (r := 26) (bs := [eI ze, eI z]) rfl rfl (winAt_obj w12) rfl e1 hR9) ?_
  refine rOf (fun R9 hR9 => xSeg (N := 2) (r := some (.inl (some (eI ((S2 3) (6 * yn + xn)))), (V3, d2))) rfl hR9) ?_
  exact rEnd ⟨V3, d2, by rw [hv, ← s52.2.1], C3, (e3.2 81 (nin_bC (by omega))).trans h812, ⟨by have := e3.1; omega, fun k hk => (e3.2 k (nin_bC (by omega))).trans (f2 k (by omega))⟩, by omega, by omega⟩
theorem sc_setLetterB {a : eRow} {X : xT} {x y z : Int} {xn yn : Nat} (hx : x = (xn : Int)) (hy : y = (yn : Int)) (h1 : xn < a 0) (h2 : yn < a 1) {v0 : Nat} (hz : z = (v0 : Int)) (hz0 : z = 0) (hb : a (16 + (6 * yn + xn)) ≠ 0) : SX m_S_setLetter [some (eI x), some (eI y), some (eI z)] a X (X) 0 := by
  intro V d ot C h81
  have C8 := C
  obtain ⟨⟨S, w1, w2, w3, w4⟩, c2, c3, c4, c5⟩ := C
  have cc3 := c3
  obtain ⟨wd9, f9, q9, hN9, hC9, nx9, ⟨h66, h67, h68⟩, hb9⟩ := cc3
  have cc5 := c5
  obtain ⟨P, oY, o1, o69, o7⟩ := cc5
  have hI := w3
  have hI8 := hI
  obtain ⟨hG, ⟨v1, v2⟩, hO, hT, hM⟩ := hI8
  obtain ⟨⟨g1, g2, g3, g4, g5⟩, g6⟩ := hG
  have b5 := iT_24 g5 hT
  have gc : ev m_S_requireCell 0 [some (eR 1), some (eI x), some (eI y)] [] (V, d) = some (.inl none, (V, d)) := yLift (V := V) (d := d) (y_cell (P := P) (ot := ot) (c := (0, 0)) w2 hI hx hy h1 h2) o1 h81 w1 rfl rfl
  obtain ⟨ze, hze⟩ : ∃ ze : Int, ze = y * 6 + x := ⟨_, rfl⟩
  have q7 := g6.1 (6 * yn + xn) (by omega)
  have s16 := w2.1.1.2.1 (6 * yn + xn) (by omega)
  refine rSX ?_
  refine rOf (fun R9 hR9 => xCallA0 (N := 4) (M2 := m_S_setLetter) (pc2 := 3) (y := m_S_requireCell) (n := 3) (ls2 := [some (eR 1), some (eI x), some (eI y), some (eI z)]) (st2 := []) (st9 := [eI y, eI x, eR 1]) (V := V) (d := d) (r := 1) (bs := [eI x, eI y]) rfl rfl o1 rfl gc hR9) ?_
  refine rOf (fun R9 hR9 => xEqT (N := 2) (x := z) (y := 0) (A := ev m_S_setLetter 15 [some (eR 1), some (eI x), some (eI y), some (eI z)] [] (V, d)) (B := ev m_S_setLetter 10 [some (eR 1), some (eI x), some (eI y), some (eI z)] [] (V, d)) rfl (wr_id (by omega) (by omega)) (show wr 0 = 0 by decide) hz0 hR9) ?_
  refine rOf (fun R9 hR9 => xCall (N := 3) (M2 := m_S_setLetter) (pc2 := 17) (ls2 := [some (eR 1), some (eI x), some (eI y), some (eI z)]) (st2 := []) (y := m_G_cell) (as := [some (eI x), some (eI y)]) (w2 := (V, d)) rfl (c_ce hze) hR9) ?_
  refine rOf (fun R9 hR9 => xGetV (N := 3) (M2 := m_S_setLetter) (pc2 := 23) (r := 1) (ls2 := [some (eR 1), some (eI x), some (eI y), some (eI z), some (eI ze)]) (st2 := []) (V := V) (d := d) (v := eR 26) rfl o1 rfl hR9) ?_
  refine rOf (fun R9 hR9 => xGetV (N := 1) (M2 := m_S_setLetter) (pc2 := 26) (r := 26) (ls2 := [some (eR 1), some (eI x), some (eI y), some (eI z), some (eI ze)]) (st2 := []) (V := V) (d := d) (v := eR 27) rfl (winAt_obj w1) rfl hR9) ?_
  refine rOf (fun R9 hR9 => xGetV (N := 1) (M2 := m_S_setLetter) (pc2 := 29) (r := 27) (ls2 := [some (eR 1), some (eI x), some (eI y), some (eI z), some (eI ze)]) (st2 := []) (V := V) (d := d) (v := eR 28) rfl w1.2.1 rfl hR9) ?_
  refine rOf (fun R9 hR9 => xLdV (N := 2) (M2 := m_S_setLetter) (pc2 := 34) (r := 28) (ls2 := [some (eR 1), some (eI x), some (eI y), some (eI z), some (eI ze)]) (st2 := []) (V := V) (d := d) (i := ze) (k := 6 * yn + xn) (ok := eOkB) (mk := fun x => .inl x) rfl w1.2.2.1 rfl (wr_nat (by omega) (by omega)) (by omega) hR9) ?_
  refine rOf (fun R9 hR9 => xEqF (N := 1) (x := (S 2) (6 * yn + xn)) (y := 0) (A := ev m_S_setLetter 46 [some (eR 1), some (eI x), some (eI y), some (eI z), some (eI ze)] [] (V, d)) (B := ev m_S_setLetter 38 [some (eR 1), some (eI x), some (eI y), some (eI z), some (eI ze)] [] (V, d)) rfl (wr_id (by omega) (by omega)) (show wr 0 = 0 by decide) (by omega) hR9) ?_
  refine rOf (fun R9 hR9 => xSeg (N := 1) (r := some (.inr 0, (V, (d.1 + 1, d.2 + 6)))) rfl hR9) ?_
  exact rEnd ⟨V, (d.1 + 1, d.2 + 6), rfl, C8, h81, ⟨Nat.le_refl _, fun _ _ => rfl⟩, by dsimp only; omega, by dsimp only; omega⟩
theorem sc_setLetterL {a : eRow} {X : xT} {x y z : Int} {v : Int} {xn yn : Nat} (hx : x = (xn : Int)) (hy : y = (yn : Int)) (h1 : xn < a 0) (h2 : yn < a 1) {v0 : Nat} (hz : z = (v0 : Int)) (hz0 : 97 ≤ z ∧ z ≤ 122) (hb : a (16 + (6 * yn + xn)) = 0) (hv : v = ((a (52 + (6 * yn + xn)) : Nat) : Int)) : SC m_S_setLetter [some (eI x), some (eI y), some (eI z)] a X (lvA a (6 * yn + xn) v0) (pushX X a) v := by
  intro V d ot C h81
  have C8 := C
  obtain ⟨⟨S, w1, w2, w3, w4⟩, c2, c3, c4, c5⟩ := C
  have cc3 := c3
  obtain ⟨wd9, f9, q9, hN9, hC9, nx9, ⟨h66, h67, h68⟩, hb9⟩ := cc3
  have cc5 := c5
  obtain ⟨P, oY, o1, o69, o7⟩ := cc5
  have hI := w3
  have hI8 := hI
  obtain ⟨hG, ⟨v1, v2⟩, hO, hT, hM⟩ := hI8
  obtain ⟨⟨g1, g2, g3, g4, g5⟩, g6⟩ := hG
  have b5 := iT_24 g5 hT
  have gc : ev m_S_requireCell 0 [some (eR 1), some (eI x), some (eI y)] [] (V, d) = some (.inl none, (V, d)) := yLift (V := V) (d := d) (y_cell (P := P) (ot := ot) (c := (0, 0)) w2 hI hx hy h1 h2) o1 h81 w1 rfl rfl
  obtain ⟨ze, hze⟩ : ∃ ze : Int, ze = y * 6 + x := ⟨_, rfl⟩
  have q7 := g6.1 (6 * yn + xn) (by omega)
  have s16 := w2.1.1.2.1 (6 * yn + xn) (by omega)
  have gl : ev m_S_requireLetter 0 [some (eR 1), some (eI z)] [] (V, d) = some (.inl none, (V, d)) := yLift (V := V) (d := d) (y_letter (P := P) (ot := ot) (S := S) (c := (0, 0)) hz0) o1 h81 w1 rfl rfl
  refine rSC ?_
  refine rOf (fun R9 hR9 => xCallA0 (N := 4) (M2 := m_S_setLetter) (pc2 := 3) (y := m_S_requireCell) (n := 3) (ls2 := [some (eR 1), some (eI x), some (eI y), some (eI z)]) (st2 := []) (st9 := [eI y, eI x, eR 1]) (V := V) (d := d) (r := 1) (bs := [eI x, eI y]) rfl rfl o1 rfl gc hR9) ?_
  refine rOf (fun R9 hR9 => xEqF (N := 2) (x := z) (y := 0) (A := ev m_S_setLetter 15 [some (eR 1), some (eI x), some (eI y), some (eI z)] [] (V, d)) (B := ev m_S_setLetter 10 [some (eR 1), some (eI x), some (eI y), some (eI z)] [] (V, d)) rfl (wr_id (by omega) (by omega)) (show wr 0 = 0 by decide) (by omega) hR9) ?_
  refine rOf (fun R9 hR9 => xCallA0 (N := 3) (M2 := m_S_setLetter) (pc2 := 12) (y := m_S_requireLetter) (n := 2) (ls2 := [some (eR 1), some (eI x), some (eI y), some (eI z)]) (st2 := []) (st9 := [eI z, eR 1]) (V := V) (d := d) (r := 1) (bs := [eI z]) rfl rfl o1 rfl gl hR9) ?_
  refine rOf (fun R9 hR9 => xCall (N := 3) (M2 := m_S_setLetter) (pc2 := 17) (ls2 := [some (eR 1), some (eI x), some (eI y), some (eI z)]) (st2 := []) (y := m_G_cell) (as := [some (eI x), some (eI y)]) (w2 := (V, d)) rfl (c_ce hze) hR9) ?_
  refine rOf (fun R9 hR9 => xGetV (N := 3) (M2 := m_S_setLetter) (pc2 := 23) (r := 1) (ls2 := [some (eR 1), some (eI x), some (eI y), some (eI z), some (eI ze)]) (st2 := []) (V := V) (d := d) (v := eR 26) rfl o1 rfl hR9) ?_
  refine rOf (fun R9 hR9 => xGetV (N := 1) (M2 := m_S_setLetter) (pc2 := 26) (r := 26) (ls2 := [some (eR 1), some (eI x), some (eI y), some (eI z), some (eI ze)]) (st2 := []) (V := V) (d := d) (v := eR 27) rfl (winAt_obj w1) rfl hR9) ?_
  refine rOf (fun R9 hR9 => xGetV (N := 1) (M2 := m_S_setLetter) (pc2 := 29) (r := 27) (ls2 := [some (eR 1), some (eI x), some (eI y), some (eI z), some (eI ze)]) (st2 := []) (V := V) (d := d) (v := eR 28) rfl w1.2.1 rfl hR9) ?_
  refine rOf (fun R9 hR9 => xLdV (N := 2) (M2 := m_S_setLetter) (pc2 := 34) (r := 28) (ls2 := [some (eR 1), some (eI x), some (eI y), some (eI z), some (eI ze)]) (st2 := []) (V := V) (d := d) (i := ze) (k := 6 * yn + xn) (ok := eOkB) (mk := fun x => .inl x) rfl w1.2.2.1 rfl (wr_nat (by omega) (by omega)) (by omega) hR9) ?_
  refine rOf (fun R9 hR9 => xEqT (N := 1) (x := (S 2) (6 * yn + xn)) (y := 0) (A := ev m_S_setLetter 46 [some (eR 1), some (eI x), some (eI y), some (eI z), some (eI ze)] [] (V, d)) (B := ev m_S_setLetter 38 [some (eR 1), some (eI x), some (eI y), some (eI z), some (eI ze)] [] (V, d)) rfl (wr_id (by omega) (by omega)) (show wr 0 = 0 by decide) (by omega) hR9) ?_
  refine rOf (fun R9 hR9 => xGetV (N := 2) (M2 := m_S_setLetter) (pc2 := 47) (r := 1) (ls2 := [some (eR 1), some (eI x), some (eI y), some (eI z), some (eI ze)]) (st2 := []) (V := V) (d := d) (v := eR 66) rfl o1 rfl hR9) ?_
  refine rOf (fun R9 hR9 => xGetV (N := 2) (M2 := m_S_setLetter) (pc2 := 51) (r := 1) (ls2 := [some (eR 1), some (eI x), some (eI y), some (eI z), some (eI ze)]) (st2 := [eR 66]) (V := V) (d := d) (v := eR 26) rfl o1 rfl hR9) ?_
  obtain ⟨V2, d2, qr, C2, l2, f2, dd1, dd2⟩ := h_rem (d := d) C8
  have o12 := (f2 1 (by omega)).trans o1
  have h812 := (f2 81 (by omega)).trans h81
  have C28 := C2
  obtain ⟨⟨S2, w12, w22, w32⟩, C2r⟩ := C28
  have s52 := w22.1.1.2.1 (6 * yn + xn) (by omega)
  refine rOf (fun R9 hR9 => xCallA0 (N := 1) (M2 := m_S_setLetter) (pc2 := 54) (y := m_H_remember) (n := 2) (ls2 := [some (eR 1), some (eI x), some (eI y), some (eI z), some (eI ze)]) (st2 := []) (st9 := [eR 26, eR 66]) (V := V) (d := d) (r := 66) (bs := [eR 26]) rfl rfl h66 rfl qr hR9) ?_
  refine rOf (fun R9 hR9 => xGetV (N := 2) (M2 := m_S_setLetter) (pc2 := 58) (r := 1) (ls2 := [some (eR 1), some (eI x), some (eI y), some (eI z), some (eI ze)]) (st2 := []) (V := V2) (d := d2) (v := eR 26) rfl o12 rfl hR9) ?_
  refine rOf (fun R9 hR9 => xGetV (N := 1) (M2 := m_S_setLetter) (pc2 := 61) (r := 26) (ls2 := [some (eR 1), some (eI x), some (eI y), some (eI z), some (eI ze)]) (st2 := []) (V := V2) (d := d2) (v := eR 27) rfl (winAt_obj w12) rfl hR9) ?_
  refine rOf (fun R9 hR9 => xGetV (N := 1) (M2 := m_S_setLetter) (pc2 := 64) (r := 27) (ls2 := [some (eR 1), some (eI x), some (eI y), some (eI z), some (eI ze)]) (st2 := []) (V := V2) (d := d2) (v := eR 29) rfl w12.2.1 rfl hR9) ?_
  refine rOf (fun R9 hR9 => xLdV (N := 2) (M2 := m_S_setLetter) (pc2 := 69) (r := 29) (ls2 := [some (eR 1), some (eI x), some (eI y), some (eI z), some (eI ze)]) (st2 := []) (V := V2) (d := d2) (i := ze) (k := 6 * yn + xn) (ok := eOkI) (mk := fun x => .inl x) rfl w12.2.2.2.1 rfl (wr_nat (by omega) (by omega)) (by omega) hR9) ?_
  refine rOf (fun R9 hR9 => xGetV (N := 3) (M2 := m_S_setLetter) (pc2 := 73) (r := 1) (ls2 := [some (eR 1), some (eI x), some (eI y), some (eI z), some (eI ze), some (eI ((S2 3) (6 * yn + xn)))]) (st2 := []) (V := V2) (d := d2) (v := eR 26) rfl o12 rfl hR9) ?_
  obtain ⟨S3, hA3, q3⟩ := c_putLetter (c := (0, 0)) (x := ze) (y := z) (e := 6 * yn + xn) (v := v0) w22 hI (by omega) hz (by omega) (by omega)
  obtain ⟨V3, e1, e2, e3⟩ := winR (d := d2) q3 w12 inj_bC rfl rfl rfl
  have o13 := (e3.2 1 (nin_bC (by omega))).trans o12
  have C3 := CI_win C2 e2 hA3 ⟨iA_lv hI (by omega) (by omega), iB_lv (by omega) w4⟩ e3
  have m03 : S3 0 3 = _ := hA3.2.2.2
  refine rOf (fun R9 hR9 => xCallA0 (N := 3) (M2 := m_S_setLetter) (pc2 := 79) (y := m_W_putLetter) (n := 3) (ls2 := [some (eR 1), some (eI x), some (eI y), some (eI z), some (eI ze), some (eI ((S2 3) (6 * yn + xn)))]) (st2 := []) (st9 := [eI z, eI ze, eR 26]) (V := V2) (d := d2) (r := 26) (bs := [eI ze, eI z]) rfl rfl (winAt_obj w12) rfl e1 hR9) ?_
  refine rOf (fun R9 hR9 => xSeg (N := 2) (r := some (.inl (some (eI ((S2 3) (6 * yn + xn)))), (V3, d2))) rfl hR9) ?_
  exact rEnd ⟨V3, d2, by rw [hv, ← s52.2.1], C3, (e3.2 81 (nin_bC (by omega))).trans h812, ⟨by have := e3.1; omega, fun k hk => (e3.2 k (nin_bC (by omega))).trans (f2 k (by omega))⟩, by omega, by omega⟩
theorem sc_setLetterLB {a : eRow} {X : xT} {x y z : Int} {xn yn : Nat} (hx : x = (xn : Int)) (hy : y = (yn : Int)) (h1 : xn < a 0) (h2 : yn < a 1) {v0 : Nat} (hz : z = (v0 : Int)) (hz0 : 97 ≤ z ∧ z ≤ 122) (hb : a (16 + (6 * yn + xn)) ≠ 0) : SX m_S_setLetter [some (eI x), some (eI y), some (eI z)] a X (X) 0 := by
  intro V d ot C h81
  have C8 := C
  obtain ⟨⟨S, w1, w2, w3, w4⟩, c2, c3, c4, c5⟩ := C
  have cc3 := c3
  obtain ⟨wd9, f9, q9, hN9, hC9, nx9, ⟨h66, h67, h68⟩, hb9⟩ := cc3
  have cc5 := c5
  obtain ⟨P, oY, o1, o69, o7⟩ := cc5
  have hI := w3
  have hI8 := hI
  obtain ⟨hG, ⟨v1, v2⟩, hO, hT, hM⟩ := hI8
  obtain ⟨⟨g1, g2, g3, g4, g5⟩, g6⟩ := hG
  have b5 := iT_24 g5 hT
  have gc : ev m_S_requireCell 0 [some (eR 1), some (eI x), some (eI y)] [] (V, d) = some (.inl none, (V, d)) := yLift (V := V) (d := d) (y_cell (P := P) (ot := ot) (c := (0, 0)) w2 hI hx hy h1 h2) o1 h81 w1 rfl rfl
  obtain ⟨ze, hze⟩ : ∃ ze : Int, ze = y * 6 + x := ⟨_, rfl⟩
  have q7 := g6.1 (6 * yn + xn) (by omega)
  have s16 := w2.1.1.2.1 (6 * yn + xn) (by omega)
  have gl : ev m_S_requireLetter 0 [some (eR 1), some (eI z)] [] (V, d) = some (.inl none, (V, d)) := yLift (V := V) (d := d) (y_letter (P := P) (ot := ot) (S := S) (c := (0, 0)) hz0) o1 h81 w1 rfl rfl
  refine rSX ?_
  refine rOf (fun R9 hR9 => xCallA0 (N := 4) (M2 := m_S_setLetter) (pc2 := 3) (y := m_S_requireCell) (n := 3) (ls2 := [some (eR 1), some (eI x), some (eI y), some (eI z)]) (st2 := []) (st9 := [eI y, eI x, eR 1]) (V := V) (d := d) (r := 1) (bs := [eI x, eI y]) rfl rfl o1 rfl gc hR9) ?_
  refine rOf (fun R9 hR9 => xEqF (N := 2) (x := z) (y := 0) (A := ev m_S_setLetter 15 [some (eR 1), some (eI x), some (eI y), some (eI z)] [] (V, d)) (B := ev m_S_setLetter 10 [some (eR 1), some (eI x), some (eI y), some (eI z)] [] (V, d)) rfl (wr_id (by omega) (by omega)) (show wr 0 = 0 by decide) (by omega) hR9) ?_
  refine rOf (fun R9 hR9 => xCallA0 (N := 3) (M2 := m_S_setLetter) (pc2 := 12) (y := m_S_requireLetter) (n := 2) (ls2 := [some (eR 1), some (eI x), some (eI y), some (eI z)]) (st2 := []) (st9 := [eI z, eR 1]) (V := V) (d := d) (r := 1) (bs := [eI z]) rfl rfl o1 rfl gl hR9) ?_
  refine rOf (fun R9 hR9 => xCall (N := 3) (M2 := m_S_setLetter) (pc2 := 17) (ls2 := [some (eR 1), some (eI x), some (eI y), some (eI z)]) (st2 := []) (y := m_G_cell) (as := [some (eI x), some (eI y)]) (w2 := (V, d)) rfl (c_ce hze) hR9) ?_
  refine rOf (fun R9 hR9 => xGetV (N := 3) (M2 := m_S_setLetter) (pc2 := 23) (r := 1) (ls2 := [some (eR 1), some (eI x), some (eI y), some (eI z), some (eI ze)]) (st2 := []) (V := V) (d := d) (v := eR 26) rfl o1 rfl hR9) ?_
  refine rOf (fun R9 hR9 => xGetV (N := 1) (M2 := m_S_setLetter) (pc2 := 26) (r := 26) (ls2 := [some (eR 1), some (eI x), some (eI y), some (eI z), some (eI ze)]) (st2 := []) (V := V) (d := d) (v := eR 27) rfl (winAt_obj w1) rfl hR9) ?_
  refine rOf (fun R9 hR9 => xGetV (N := 1) (M2 := m_S_setLetter) (pc2 := 29) (r := 27) (ls2 := [some (eR 1), some (eI x), some (eI y), some (eI z), some (eI ze)]) (st2 := []) (V := V) (d := d) (v := eR 28) rfl w1.2.1 rfl hR9) ?_
  refine rOf (fun R9 hR9 => xLdV (N := 2) (M2 := m_S_setLetter) (pc2 := 34) (r := 28) (ls2 := [some (eR 1), some (eI x), some (eI y), some (eI z), some (eI ze)]) (st2 := []) (V := V) (d := d) (i := ze) (k := 6 * yn + xn) (ok := eOkB) (mk := fun x => .inl x) rfl w1.2.2.1 rfl (wr_nat (by omega) (by omega)) (by omega) hR9) ?_
  refine rOf (fun R9 hR9 => xEqF (N := 1) (x := (S 2) (6 * yn + xn)) (y := 0) (A := ev m_S_setLetter 46 [some (eR 1), some (eI x), some (eI y), some (eI z), some (eI ze)] [] (V, d)) (B := ev m_S_setLetter 38 [some (eR 1), some (eI x), some (eI y), some (eI z), some (eI ze)] [] (V, d)) rfl (wr_id (by omega) (by omega)) (show wr 0 = 0 by decide) (by omega) hR9) ?_
  refine rOf (fun R9 hR9 => xSeg (N := 1) (r := some (.inr 0, (V, (d.1 + 1, d.2 + 6)))) rfl hR9) ?_
  exact rEnd ⟨V, (d.1 + 1, d.2 + 6), rfl, C8, h81, ⟨Nat.le_refl _, fun _ _ => rfl⟩, by dsimp only; omega, by dsimp only; omega⟩
theorem sc_setLetterZ {a : eRow} {X : xT} {x y z : Int} {xn yn : Nat} (hx : x = (xn : Int)) (hy : y = (yn : Int)) (h1 : xn < a 0) (h2 : yn < a 1) (bz : -2147483648 ≤ z ∧ z < 2147483648) (hz : z ≠ 0) (hz2 : ¬ (97 ≤ z ∧ z ≤ 122)) : SX m_S_setLetter [some (eI x), some (eI y), some (eI z)] a X (X) 1 := by
  intro V d ot C h81
  have C8 := C
  obtain ⟨⟨S, w1, w2, w3, w4⟩, c2, c3, c4, c5⟩ := C
  have cc3 := c3
  obtain ⟨wd9, f9, q9, hN9, hC9, nx9, ⟨h66, h67, h68⟩, hb9⟩ := cc3
  have cc5 := c5
  obtain ⟨P, oY, o1, o69, o7⟩ := cc5
  have hI := w3
  have hI8 := hI
  obtain ⟨hG, ⟨v1, v2⟩, hO, hT, hM⟩ := hI8
  obtain ⟨⟨g1, g2, g3, g4, g5⟩, g6⟩ := hG
  have b5 := iT_24 g5 hT
  have gc : ev m_S_requireCell 0 [some (eR 1), some (eI x), some (eI y)] [] (V, d) = some (.inl none, (V, d)) := yLift (V := V) (d := d) (y_cell (P := P) (ot := ot) (c := (0, 0)) w2 hI hx hy h1 h2) o1 h81 w1 rfl rfl
  have gl : ev m_S_requireLetter 0 [some (eR 1), some (eI z)] [] (V, d) = some (.inr 1, (V, (d.1 + 1, d.2 + 6))) := (yLift (V := V) (d := d) (y_letterX (P := P) (ot := ot) (S := S) (c := (0, 0)) bz hz2) o1 h81 w1 rfl rfl).trans (by rw [Nat.zero_add, Nat.zero_add])
  refine rSX ?_
  refine rOf (fun R9 hR9 => xCallA0 (N := 4) (M2 := m_S_setLetter) (pc2 := 3) (y := m_S_requireCell) (n := 3) (ls2 := [some (eR 1), some (eI x), some (eI y), some (eI z)]) (st2 := []) (st9 := [eI y, eI x, eR 1]) (V := V) (d := d) (r := 1) (bs := [eI x, eI y]) rfl rfl o1 rfl gc hR9) ?_
  refine rOf (fun R9 hR9 => xEqF (N := 2) (x := z) (y := 0) (A := ev m_S_setLetter 15 [some (eR 1), some (eI x), some (eI y), some (eI z)] [] (V, d)) (B := ev m_S_setLetter 10 [some (eR 1), some (eI x), some (eI y), some (eI z)] [] (V, d)) rfl (wr_id (by omega) (by omega)) (show wr 0 = 0 by decide) hz hR9) ?_
  refine rOf (fun R9 hR9 => xCallAE (N := 3) (M2 := m_S_setLetter) (pc2 := 12) (y := m_S_requireLetter) (n := 2) (ls2 := [some (eR 1), some (eI x), some (eI y), some (eI z)]) (st2 := []) (st9 := [eI z, eR 1]) (V := V) (d := d) (r := 1) (bs := [eI z]) (E := 1) rfl rfl o1 rfl gl rfl hR9) ?_
  exact rEnd ⟨V, (d.1 + 1, d.2 + 6), rfl, C8, h81, ⟨Nat.le_refl _, fun _ _ => rfl⟩, by dsimp only; omega, by dsimp only; omega⟩
theorem sc_setLetterX {a : eRow} {X : xT} {x y z : Int} (bx : -2147483648 ≤ x ∧ x < 2147483648) (by_ : -2147483648 ≤ y ∧ y < 2147483648) (h : inG (a 0) (a 1) x y = false) : SX m_S_setLetter [some (eI x), some (eI y), some (eI z)] a X (X) 1 := by
  intro V d ot C h81
  have C8 := C
  obtain ⟨⟨S, w1, w2, w3, w4⟩, c2, c3, c4, c5⟩ := C
  have cc3 := c3
  obtain ⟨wd9, f9, q9, hN9, hC9, nx9, ⟨h66, h67, h68⟩, hb9⟩ := cc3
  have cc5 := c5
  obtain ⟨P, oY, o1, o69, o7⟩ := cc5
  have hI := w3
  have hI8 := hI
  obtain ⟨hG, ⟨v1, v2⟩, hO, hT, hM⟩ := hI8
  obtain ⟨⟨g1, g2, g3, g4, g5⟩, g6⟩ := hG
  have b5 := iT_24 g5 hT
  have gc : ev m_S_requireCell 0 [some (eR 1), some (eI x), some (eI y)] [] (V, d) = some (.inr 1, (V, (d.1 + 1, d.2 + 6))) := (yLift (V := V) (d := d) (y_cellX (P := P) (ot := ot) (c := (0, 0)) w2 hI bx by_ h) o1 h81 w1 rfl rfl).trans (by rw [Nat.zero_add, Nat.zero_add])
  refine rSX ?_
  refine rOf (fun R9 hR9 => xCallAE (N := 4) (M2 := m_S_setLetter) (pc2 := 3) (y := m_S_requireCell) (n := 3) (ls2 := [some (eR 1), some (eI x), some (eI y), some (eI z)]) (st2 := []) (st9 := [eI y, eI x, eR 1]) (V := V) (d := d) (r := 1) (bs := [eI x, eI y]) (E := 1) rfl rfl o1 rfl gc rfl hR9) ?_
  exact rEnd ⟨V, (d.1 + 1, d.2 + 6), rfl, C8, h81, ⟨Nat.le_refl _, fun _ _ => rfl⟩, by dsimp only; omega, by dsimp only; omega⟩
theorem kl_setLetter {a a' : eRow} {X X' : xT} {x y z v : Int} (h : SC m_S_setLetter [some (eI x), some (eI y), some (eI z)] a X a' X' v) : KL m_L_setLetter [some (eI x), some (eI y), some (eI z)] a X a' X' 0 v := by
  intro V d ot C h81
  obtain ⟨P1, h1⟩ := CI_1 C
  refine rKL ?_
  obtain ⟨V2, d2, q2, C2, o2, fr2, dd1, dd2⟩ := h V d ot C h81
  obtain ⟨P2, h12⟩ := CI_1 C2
  refine rOf (fun R9 hR9 => xCallA1 (N := 7) (M2 := m_L_setLetter) (pc2 := 7) (y := m_S_setLetter) (n := 4) (ls2 := [some (eR 1), some (eI x), some (eI y), some (eI z), some (eR 81)]) (st2 := [eI 0, eR 81]) (st9 := [eI z, eI y, eI x, eR 1, eI 0, eR 81]) (V := V) (d := d) (r := 1) (bs := [eI x, eI y, eI z]) rfl rfl h1 rfl q2 hR9) ?_
  refine rStV (N := 2) (M2 := m_L_setLetter) (pc2 := 11) (r := 81) (ls2 := [some (eR 1), some (eI x), some (eI y), some (eI z), some (eR 81)]) (st2 := []) (V := V2) (d := d2) (i := 0) (v := wr v) (k := 0) (ok := eOkJ) rfl o2 rfl (show wr 0 = ((0 : Nat) : Int) by decide) (by omega) (fun V101 sV101 eV101 => ?_)
  refine rOf (fun R9 hR9 => xSeg (N := 3) (r := some (.inl (some (eI 0)), (V101, d2))) rfl hR9) ?_
  exact rEnd ⟨V101, _, d2, rfl, CI_81 C2 sV101, eV101, fun _ => by rw [eUp_at], frC_81 fr2 sV101, by unfold dl; omega⟩
theorem kl_setLetterX1 {a : eRow} {X X' : xT} {x y z v : Int} (h : SX m_S_setLetter [some (eI x), some (eI y), some (eI z)] a X X' 1) : KL m_L_setLetter [some (eI x), some (eI y), some (eI z)] a X a X' 1 v := by
  intro V d ot C h81
  obtain ⟨P1, h1⟩ := CI_1 C
  refine rKL ?_
  obtain ⟨V2, d2, q2, C2, o2, fr2, dd1, dd2⟩ := h V d ot C h81
  obtain ⟨P2, h12⟩ := CI_1 C2
  refine rOf (fun R9 hR9 => xCallAC (N := 7) (M2 := m_L_setLetter) (pc2 := 7) (y := m_S_setLetter) (n := 4) (ls2 := [some (eR 1), some (eI x), some (eI y), some (eI z), some (eR 81)]) (st2 := [eI 0, eR 81]) (st9 := [eI z, eI y, eI x, eR 1, eI 0, eR 81]) (V := V) (d := d) (r := 1) (bs := [eI x, eI y, eI z]) (E := 1) (p := 17) rfl rfl h1 rfl q2 (by rfl) hR9) ?_
  refine rOf (fun R9 hR9 => xSeg (N := 2) (r := some (.inl (some (eI 1)), (V2, d2))) rfl hR9) ?_
  exact rEnd ⟨V2, ot, d2, rfl, C2, o2, fun h => absurd h (by decide), fr2, by unfold dl; omega⟩
theorem kl_setLetterX2 {a : eRow} {X X' : xT} {x y z v : Int} (h : SX m_S_setLetter [some (eI x), some (eI y), some (eI z)] a X X' 0) : KL m_L_setLetter [some (eI x), some (eI y), some (eI z)] a X a X' 2 v := by
  intro V d ot C h81
  obtain ⟨P1, h1⟩ := CI_1 C
  refine rKL ?_
  obtain ⟨V2, d2, q2, C2, o2, fr2, dd1, dd2⟩ := h V d ot C h81
  obtain ⟨P2, h12⟩ := CI_1 C2
  refine rOf (fun R9 hR9 => xCallAC (N := 7) (M2 := m_L_setLetter) (pc2 := 7) (y := m_S_setLetter) (n := 4) (ls2 := [some (eR 1), some (eI x), some (eI y), some (eI z), some (eR 81)]) (st2 := [eI 0, eR 81]) (st9 := [eI z, eI y, eI x, eR 1, eI 0, eR 81]) (V := V) (d := d) (r := 1) (bs := [eI x, eI y, eI z]) (E := 0) (p := 21) rfl rfl h1 rfl q2 (by rfl) hR9) ?_
  refine rOf (fun R9 hR9 => xSeg (N := 2) (r := some (.inl (some (eI 2)), (V2, d2))) rfl hR9) ?_
  exact rEnd ⟨V2, ot, d2, rfl, C2, o2, fun h => absurd h (by decide), fr2, by unfold dl; omega⟩
